theorem ti_ne0 {v : Int32} (h : v.toInt ≠ 0) : ¬ v = 0 := fun e => h (by rw [e]; rfl)
def cE (A : Nat → Nat → Int32) (i : Nat) (v : Int) : Prop := (A 18 i).toInt = v
theorem cE_fr {A A' : Nat → Nat → Int32} {i : Nat} {v : Int} (e : A' 18 = A 18) (h : cE A i v) : cE A' i v := by
  unfold cE; rw [e]; exact h
def m3 (A : Nat → Nat → Int32) (g k : Int) : Prop := (A 12 (301 * g + k).toNat).toInt ≤ 3
theorem m3_fr {A A' : Nat → Nat → Int32} {g k : Int} (e : A' 12 = A 12) (h : m3 A g k) : m3 A' g k := by
  unfold m3; rw [e]; exact h
theorem t_look_0  {I : Nat → Int32} {A : Nat → Nat → Int32} (hI : TJ I) (hA : TK A) : Ok (f_look_0 I A) (fun o => o.2 = (I, A) ∧ ((0 : Int) ≤ o.1.toInt ∧ o.1.toInt ≤ (65535 : Int)) ∧ ((0 < o.1.toInt → (I 37).toInt < (I 1).toInt))) := by
  unfold f_look_0
  have b_I_1 := tI_1 hI
  have b_I_37 := tI_37 hI
  refine ok_if (fun c1 => ?_) (fun c1 => ?_)
  ·
    replace c1 := ti_leP c1 rfl rfl
    unfold f_look_24
    refine ok_chk (by decide) ?_
    exact ok_ret ⟨rfl, (show (0 : Int) ≤ (0 : Int32).toInt ∧ (0 : Int32).toInt ≤ (65535 : Int) from (by decide)), (by show (0 < (0 : Int32).toInt → (I 37).toInt < (I 1).toInt); have z : (0 : Int32).toInt = 0 := rfl; omega)⟩
  ·
    replace c1 := ti_leN c1 rfl rfl
    refine ok_chk (ti_in (by omega) (by omega)) ?_
    refine ok_bnd (fun v1 e2 => ?_)
    have b_v1 := tA_2 hA (((I 37)).toNatClampNeg)
    rw [← e2] at b_v1
    unfold f_look_24
    refine ok_chk (nar_c (by omega) (by omega)) ?_
    exact ok_ret ⟨rfl, (show (0 : Int) ≤ v1.toInt ∧ v1.toInt ≤ (65535 : Int) from (by omega)), (by show (0 < (v1 : Int32).toInt → (I 37).toInt < (I 1).toInt); omega)⟩
theorem t_look  {I : Nat → Int32} {A : Nat → Nat → Int32}  (hI : TJ I) (hA : TK A) : Ok (f_look  I A) (fun o => o.2 = (I, A) ∧ ((0 : Int) ≤ o.1.toInt ∧ o.1.toInt ≤ (65535 : Int)) ∧ ((0 < o.1.toInt → (I 37).toInt < (I 1).toInt))) := t_look_0  hI hA 
theorem t_blanks_0s {aa bb : Int} {I : Nat → Int32} {A : Nat → Nat → Int32} {self0 : (Nat → Int32) → (Nat → Nat → Int32) → Option (Int32 × MS)} {N0 : Nat} (hself0 : ∀  (I : Nat → Int32) (A : Nat → Nat → Int32), TJ I → TK A → (aa ≤ (I 37).toInt ∧ (I 37).toInt ≤ bb ∧ (I 1).toInt ≤ bb) → (2101 - (I 37).toInt) < (N0 : Int) → Ok (self0  I A) (fun o => TJ o.2.1 ∧ TK o.2.2 ∧ (aa ≤ (o.2.1 37).toInt ∧ (o.2.1 37).toInt ≤ bb))) (hI : TJ I) (hA : TK A) (q0 : aa ≤ (I 37).toInt ∧ (I 37).toInt ≤ bb ∧ (I 1).toInt ≤ bb) (m0 : (2101 - (I 37).toInt) ≤ (N0 : Int)) : Ok (f_blanks_0s self0 I A) (fun o => TJ o.2.1 ∧ TK o.2.2 ∧ (aa ≤ (o.2.1 37).toInt ∧ (o.2.1 37).toInt ≤ bb)) := by
  unfold f_blanks_0s
  have b_I_1 := tI_1 hI
  have b_I_37 := tI_37 hI
  refine ok_if (fun c3 => ?_) (fun c3 => ?_)
  ·
    replace c3 := ti_leP c3 rfl rfl
    unfold f_blanks_52
    exact ok_ret ⟨hI, hA, (by show aa ≤ (I 37).toInt ∧ (I 37).toInt ≤ bb; have z : (0 : Int32).toInt = 0 := rfl; omega)⟩
  ·
    replace c3 := ti_leN c3 rfl rfl
    refine ok_chk (ti_in (by omega) (by omega)) ?_
    refine ok_bnd (fun v1 e4 => ?_)
    have b_v1 := tA_2 hA (((I 37)).toNatClampNeg)
    rw [← e4] at b_v1
    refine ok_if (fun c5 => ?_) (fun c5 => ?_)
    ·
      replace c5 := ti_eqP c5 rfl (show (32 : Int32).toInt = 32 from rfl)
      unfold f_blanks_39
      refine ok_bnd (fun v1 e6 => ?_)
      have t_v1 : v1.toInt = (I 37).toInt + 1 := ti_add e6 rfl (show (1 : Int32).toInt = 1 from rfl) (by omega) (by omega)
      refine ok_bnd (fun I2 e7 => ?_)
      have hI_I2 : TJ I2 := e7.symm ▸ tj_u hI (k := 37) (show (0 : Int) ≤ v1.toInt from (by omega)) (show v1.toInt ≤ (2100 : Int) from (by omega))
      have : (I2 1).toInt = (I 1).toInt := by rw [e7]; rfl
      have : (I2 37).toInt = v1.toInt := by rw [e7]; exact rfl
      have b_I2_1 := tI_1 hI_I2
      have b_I2_37 := tI_37 hI_I2
      exact hself0 I2 A hI_I2 hA (by omega) (by omega)
    ·
      replace c5 := ti_eqN c5 rfl (show (32 : Int32).toInt = 32 from rfl)
      refine ok_chk (ti_in (by omega) (by omega)) ?_
      refine ok_bnd (fun v2 e8 => ?_)
      have b_v2 := tA_2 hA (((I 37)).toNatClampNeg)
      rw [← e8] at b_v2
      refine ok_if (fun c9 => ?_) (fun c9 => ?_)
      ·
        replace c9 := ti_eqP c9 rfl (show (10 : Int32).toInt = 10 from rfl)
        unfold f_blanks_39
        refine ok_bnd (fun v1 e10 => ?_)
        have t_v1 : v1.toInt = (I 37).toInt + 1 := ti_add e10 rfl (show (1 : Int32).toInt = 1 from rfl) (by omega) (by omega)
        refine ok_bnd (fun I2 e11 => ?_)
        have hI_I2 : TJ I2 := e11.symm ▸ tj_u hI (k := 37) (show (0 : Int) ≤ v1.toInt from (by omega)) (show v1.toInt ≤ (2100 : Int) from (by omega))
        have : (I2 1).toInt = (I 1).toInt := by rw [e11]; rfl
        have : (I2 37).toInt = v1.toInt := by rw [e11]; exact rfl
        have b_I2_1 := tI_1 hI_I2
        have b_I2_37 := tI_37 hI_I2
        exact hself0 I2 A hI_I2 hA (by omega) (by omega)
      ·
        replace c9 := ti_eqN c9 rfl (show (10 : Int32).toInt = 10 from rfl)
        unfold f_blanks_52
        exact ok_ret ⟨hI, hA, (by show aa ≤ (I 37).toInt ∧ (I 37).toInt ≤ bb; have z : (0 : Int32).toInt = 0 := rfl; omega)⟩
theorem t_blanks_0 {aa bb : Int}  : ∀ (n : Nat)  (I : Nat → Int32) (A : Nat → Nat → Int32), TJ I → TK A → (aa ≤ (I 37).toInt ∧ (I 37).toInt ≤ bb ∧ (I 1).toInt ≤ bb) → (2101 - (I 37).toInt) < (n : Int) → Ok (f_blanks_0  n  I A) (fun o => TJ o.2.1 ∧ TK o.2.2 ∧ (aa ≤ (o.2.1 37).toInt ∧ (o.2.1 37).toInt ≤ bb)) := by
  intro n
  induction n with
  | zero => intro  I A hI hA g0  hm; exfalso; have := tI_37 hI; omega
  | succ n ih =>
    intro  I A hI hA g0  hm
    exact t_blanks_0s (aa := aa) (bb := bb)  (N0 := n)  ih hI hA g0  (by omega)
theorem t_blanks {aa bb : Int} {I : Nat → Int32} {A : Nat → Nat → Int32}  (hI : TJ I) (hA : TK A) (q0 : aa ≤ (I 37).toInt ∧ (I 37).toInt ≤ bb ∧ (I 1).toInt ≤ bb) : Ok (f_blanks  I A) (fun o => TJ o.2.1 ∧ TK o.2.2 ∧ (aa ≤ (o.2.1 37).toInt ∧ (o.2.1 37).toInt ≤ bb)) := t_blanks_0 mFuel  I A hI hA q0 (by have := tI_37 hI; show _ < ((200000 : Nat) : Int); omega)
theorem t_fault_0  {I : Nat → Int32} {A : Nat → Nat → Int32} {x0 : Int32} {x1 : Int32} (hI : TJ I) (hA : TK A) (r_x0 : (1 : Int) ≤ x0.toInt ∧ x0.toInt ≤ (9 : Int)) (r_x1 : (0 : Int) ≤ x1.toInt ∧ x1.toInt ≤ (2100 : Int)) : Ok (f_fault_0 x0 x1 I A) (fun o => o.2 = (I, A) ∧ ((10000 : Int) ≤ o.1.toInt ∧ o.1.toInt ≤ (92100 : Int))) := by
  unfold f_fault_0
  refine ok_bnd (fun v1 e12 => ?_)
  have t_v1 : v1.toInt = 10000 * x0.toInt := ti_mul e12 (show (10000 : Int32).toInt = 10000 from rfl) rfl (by omega) (by omega)
  refine ok_bnd (fun v2 e13 => ?_)
  have t_v2 : v2.toInt = v1.toInt + x1.toInt := ti_add e13 rfl rfl (by omega) (by omega)
  exact ok_ret ⟨rfl, (show (10000 : Int) ≤ v2.toInt ∧ v2.toInt ≤ (92100 : Int) from (by omega))⟩
theorem t_fault  {I : Nat → Int32} {A : Nat → Nat → Int32} {x0 : Int32} {x1 : Int32} (hI : TJ I) (hA : TK A) (r_x0 : (1 : Int) ≤ x0.toInt ∧ x0.toInt ≤ (9 : Int)) (r_x1 : (0 : Int) ≤ x1.toInt ∧ x1.toInt ≤ (2100 : Int)) : Ok (f_fault x0 x1 I A) (fun o => o.2 = (I, A) ∧ ((10000 : Int) ≤ o.1.toInt ∧ o.1.toInt ≤ (92100 : Int))) := t_fault_0  hI hA r_x0 r_x1
theorem t_isLetter_0  {I : Nat → Int32} {A : Nat → Nat → Int32} {x0 : Int32} (hI : TJ I) (hA : TK A) : Ok (f_isLetter_0 x0 I A) (fun o => o.2 = (I, A) ∧ ((0 : Int) ≤ o.1.toInt ∧ o.1.toInt ≤ (1 : Int)) ∧ ((o.1.toInt = 1 → 65 ≤ x0.toInt))) := by
  unfold f_isLetter_0
  refine ok_if (fun c14 => ?_) (fun c14 => ?_)
  ·
    replace c14 := ti_ltP c14 rfl (show (97 : Int32).toInt = 97 from rfl)
    unfold f_isLetter_12
    refine ok_if (fun c15 => ?_) (fun c15 => ?_)
    ·
      replace c15 := ti_ltP c15 rfl (show (65 : Int32).toInt = 65 from rfl)
      unfold f_isLetter_28
      unfold f_isLetter_29
      refine ok_chk (by decide) ?_
      exact ok_ret ⟨rfl, (show (0 : Int) ≤ (0 : Int32).toInt ∧ (0 : Int32).toInt ≤ (1 : Int) from (by decide)), (by show ((0 : Int32).toInt = 1 → 65 ≤ x0.toInt); exact fun h => absurd h (by decide))⟩
    ·
      replace c15 := ti_ltN c15 rfl (show (65 : Int32).toInt = 65 from rfl)
      refine ok_if (fun c16 => ?_) (fun c16 => ?_)
      ·
        replace c16 := ti_ltP c16 (show (90 : Int32).toInt = 90 from rfl) rfl
        unfold f_isLetter_28
        unfold f_isLetter_29
        refine ok_chk (by decide) ?_
        exact ok_ret ⟨rfl, (show (0 : Int) ≤ (0 : Int32).toInt ∧ (0 : Int32).toInt ≤ (1 : Int) from (by decide)), (by show ((0 : Int32).toInt = 1 → 65 ≤ x0.toInt); exact fun h => absurd h (by decide))⟩
      ·
        replace c16 := ti_ltN c16 (show (90 : Int32).toInt = 90 from rfl) rfl
        unfold f_isLetter_24
        unfold f_isLetter_29
        refine ok_chk (by decide) ?_
        exact ok_ret ⟨rfl, (show (0 : Int) ≤ (1 : Int32).toInt ∧ (1 : Int32).toInt ≤ (1 : Int) from (by decide)), (by show ((1 : Int32).toInt = 1 → 65 ≤ x0.toInt); omega)⟩
  ·
    replace c14 := ti_ltN c14 rfl (show (97 : Int32).toInt = 97 from rfl)
    refine ok_if (fun c17 => ?_) (fun c17 => ?_)
    ·
      replace c17 := ti_leP c17 rfl (show (122 : Int32).toInt = 122 from rfl)
      unfold f_isLetter_24
      unfold f_isLetter_29
      refine ok_chk (by decide) ?_
      exact ok_ret ⟨rfl, (show (0 : Int) ≤ (1 : Int32).toInt ∧ (1 : Int32).toInt ≤ (1 : Int) from (by decide)), (by show ((1 : Int32).toInt = 1 → 65 ≤ x0.toInt); omega)⟩
    ·
      replace c17 := ti_leN c17 rfl (show (122 : Int32).toInt = 122 from rfl)
      unfold f_isLetter_12
      refine ok_if (fun c18 => ?_) (fun c18 => ?_)
      ·
        replace c18 := ti_ltP c18 rfl (show (65 : Int32).toInt = 65 from rfl)
        unfold f_isLetter_28
        unfold f_isLetter_29
        refine ok_chk (by decide) ?_
        exact ok_ret ⟨rfl, (show (0 : Int) ≤ (0 : Int32).toInt ∧ (0 : Int32).toInt ≤ (1 : Int) from (by decide)), (by show ((0 : Int32).toInt = 1 → 65 ≤ x0.toInt); exact fun h => absurd h (by decide))⟩
      ·
        replace c18 := ti_ltN c18 rfl (show (65 : Int32).toInt = 65 from rfl)
        refine ok_if (fun c19 => ?_) (fun c19 => ?_)
        ·
          replace c19 := ti_ltP c19 (show (90 : Int32).toInt = 90 from rfl) rfl
          unfold f_isLetter_28
          unfold f_isLetter_29
          refine ok_chk (by decide) ?_
          exact ok_ret ⟨rfl, (show (0 : Int) ≤ (0 : Int32).toInt ∧ (0 : Int32).toInt ≤ (1 : Int) from (by decide)), (by show ((0 : Int32).toInt = 1 → 65 ≤ x0.toInt); exact fun h => absurd h (by decide))⟩
        ·
          replace c19 := ti_ltN c19 (show (90 : Int32).toInt = 90 from rfl) rfl
          unfold f_isLetter_24
          unfold f_isLetter_29
          refine ok_chk (by decide) ?_
          exact ok_ret ⟨rfl, (show (0 : Int) ≤ (1 : Int32).toInt ∧ (1 : Int32).toInt ≤ (1 : Int) from (by decide)), (by show ((1 : Int32).toInt = 1 → 65 ≤ x0.toInt); omega)⟩
theorem t_isLetter  {I : Nat → Int32} {A : Nat → Nat → Int32} {x0 : Int32} (hI : TJ I) (hA : TK A) : Ok (f_isLetter x0 I A) (fun o => o.2 = (I, A) ∧ ((0 : Int) ≤ o.1.toInt ∧ o.1.toInt ≤ (1 : Int)) ∧ ((o.1.toInt = 1 → 65 ≤ x0.toInt))) := t_isLetter_0  hI hA 
theorem t_isDigit_0  {I : Nat → Int32} {A : Nat → Nat → Int32} {x0 : Int32} (hI : TJ I) (hA : TK A) : Ok (f_isDigit_0 x0 I A) (fun o => o.2 = (I, A) ∧ ((0 : Int) ≤ o.1.toInt ∧ o.1.toInt ≤ (1 : Int)) ∧ ((o.1.toInt = 1 → 48 ≤ x0.toInt ∧ x0.toInt ≤ 57))) := by
  unfold f_isDigit_0
  refine ok_if (fun c20 => ?_) (fun c20 => ?_)
  ·
    replace c20 := ti_ltP c20 rfl (show (48 : Int32).toInt = 48 from rfl)
    unfold f_isDigit_16
    unfold f_isDigit_17
    refine ok_chk (by decide) ?_
    exact ok_ret ⟨rfl, (show (0 : Int) ≤ (0 : Int32).toInt ∧ (0 : Int32).toInt ≤ (1 : Int) from (by decide)), (by show ((0 : Int32).toInt = 1 → 48 ≤ x0.toInt ∧ x0.toInt ≤ 57); exact fun h => absurd h (by decide))⟩
  ·
    replace c20 := ti_ltN c20 rfl (show (48 : Int32).toInt = 48 from rfl)
    refine ok_if (fun c21 => ?_) (fun c21 => ?_)
    ·
      replace c21 := ti_ltP c21 (show (57 : Int32).toInt = 57 from rfl) rfl
      unfold f_isDigit_16
      unfold f_isDigit_17
      refine ok_chk (by decide) ?_
      exact ok_ret ⟨rfl, (show (0 : Int) ≤ (0 : Int32).toInt ∧ (0 : Int32).toInt ≤ (1 : Int) from (by decide)), (by show ((0 : Int32).toInt = 1 → 48 ≤ x0.toInt ∧ x0.toInt ≤ 57); exact fun h => absurd h (by decide))⟩
    ·
      replace c21 := ti_ltN c21 (show (57 : Int32).toInt = 57 from rfl) rfl
      unfold f_isDigit_17
      refine ok_chk (by decide) ?_
      exact ok_ret ⟨rfl, (show (0 : Int) ≤ (1 : Int32).toInt ∧ (1 : Int32).toInt ≤ (1 : Int) from (by decide)), (by show ((1 : Int32).toInt = 1 → 48 ≤ x0.toInt ∧ x0.toInt ≤ 57); omega)⟩
theorem t_isDigit  {I : Nat → Int32} {A : Nat → Nat → Int32} {x0 : Int32} (hI : TJ I) (hA : TK A) : Ok (f_isDigit x0 I A) (fun o => o.2 = (I, A) ∧ ((0 : Int) ≤ o.1.toInt ∧ o.1.toInt ≤ (1 : Int)) ∧ ((o.1.toInt = 1 → 48 ≤ x0.toInt ∧ x0.toInt ≤ 57))) := t_isDigit_0  hI hA 
theorem t_isTag_165  {I : Nat → Int32} {A : Nat → Nat → Int32} {self38 : Int32 → Int32 → Int32 → Int32 → Int32 → Int32 → (Nat → Int32) → (Nat → Nat → Int32) → Option (Int32 × MS)} {N38 : Nat} (hself38 : ∀ (x1 : Int32) (x2 : Int32) (x3 : Int32) (x4 : Int32) (x5 : Int32) (x6 : Int32),  ((0 : Int) ≤ x1.toInt ∧ x1.toInt ≤ (7 : Int)) → ((0 : Int) ≤ x2.toInt ∧ x2.toInt ≤ (1 : Int)) → ((0 : Int) ≤ x3.toInt ∧ x3.toInt ≤ (1 : Int)) → ((3 : Int) ≤ x4.toInt ∧ x4.toInt ≤ (6 : Int)) → ((0 : Int) ≤ x5.toInt ∧ x5.toInt ≤ (1 : Int)) → ((0 : Int) ≤ x6.toInt ∧ x6.toInt ≤ (6 : Int)) → (7 - x6.toInt) < (N38 : Int) → Ok (self38 x1 x2 x3 x4 x5 x6 I A) (fun o => o.2 = (I, A) ∧ ((0 : Int) ≤ o.1.toInt ∧ o.1.toInt ≤ (1 : Int)))) {x1 : Int32} {x2 : Int32} {x3 : Int32} {x4 : Int32} {x6 : Int32} {t0 : Int32} (hI : TJ I) (hA : TK A) (r_x1 : (0 : Int) ≤ x1.toInt ∧ x1.toInt ≤ (7 : Int)) (r_x2 : (0 : Int) ≤ x2.toInt ∧ x2.toInt ≤ (1 : Int)) (r_x3 : (0 : Int) ≤ x3.toInt ∧ x3.toInt ≤ (1 : Int)) (r_x4 : (3 : Int) ≤ x4.toInt ∧ x4.toInt ≤ (6 : Int)) (r_x6 : (0 : Int) ≤ x6.toInt ∧ x6.toInt ≤ (5 : Int)) (r_t0 : (0 : Int) ≤ t0.toInt ∧ t0.toInt ≤ (1 : Int)) (m38 : (7 - x6.toInt) ≤ (N38 : Int)) : Ok (f_isTag_165 self38 x1 x2 x3 x4 x6 t0 I A) (fun o => o.2 = (I, A) ∧ ((0 : Int) ≤ o.1.toInt ∧ o.1.toInt ≤ (1 : Int))) := by
  unfold f_isTag_165
  refine ok_bnd (fun v1 e22 => ?_)
  have t_v1 : v1.toInt = x6.toInt + 1 := ti_add e22 rfl (show (1 : Int32).toInt = 1 from rfl) (by omega) (by omega)
  exact hself38 x1 x2 x3 x4 t0 v1 r_x1 r_x2 r_x3 r_x4 r_t0 (by omega) (by omega)
theorem t_isTag_136  {I : Nat → Int32} {A : Nat → Nat → Int32} {self38 : Int32 → Int32 → Int32 → Int32 → Int32 → Int32 → (Nat → Int32) → (Nat → Nat → Int32) → Option (Int32 × MS)} {N38 : Nat} (hself38 : ∀ (x1 : Int32) (x2 : Int32) (x3 : Int32) (x4 : Int32) (x5 : Int32) (x6 : Int32),  ((0 : Int) ≤ x1.toInt ∧ x1.toInt ≤ (7 : Int)) → ((0 : Int) ≤ x2.toInt ∧ x2.toInt ≤ (1 : Int)) → ((0 : Int) ≤ x3.toInt ∧ x3.toInt ≤ (1 : Int)) → ((3 : Int) ≤ x4.toInt ∧ x4.toInt ≤ (6 : Int)) → ((0 : Int) ≤ x5.toInt ∧ x5.toInt ≤ (1 : Int)) → ((0 : Int) ≤ x6.toInt ∧ x6.toInt ≤ (6 : Int)) → (7 - x6.toInt) < (N38 : Int) → Ok (self38 x1 x2 x3 x4 x5 x6 I A) (fun o => o.2 = (I, A) ∧ ((0 : Int) ≤ o.1.toInt ∧ o.1.toInt ≤ (1 : Int)))) {x1 : Int32} {x2 : Int32} {x3 : Int32} {x4 : Int32} {x6 : Int32} {t0 : Int32} (hI : TJ I) (hA : TK A) (r_x1 : (0 : Int) ≤ x1.toInt ∧ x1.toInt ≤ (7 : Int)) (r_x2 : (0 : Int) ≤ x2.toInt ∧ x2.toInt ≤ (1 : Int)) (r_x3 : (0 : Int) ≤ x3.toInt ∧ x3.toInt ≤ (1 : Int)) (r_x4 : (3 : Int) ≤ x4.toInt ∧ x4.toInt ≤ (6 : Int)) (r_x6 : (0 : Int) ≤ x6.toInt ∧ x6.toInt ≤ (5 : Int)) (m38 : (7 - x6.toInt) ≤ (N38 : Int)) : Ok (f_isTag_136 self38 x1 x2 x3 x4 x6 t0 I A) (fun o => o.2 = (I, A) ∧ ((0 : Int) ≤ o.1.toInt ∧ o.1.toInt ≤ (1 : Int))) := by
  unfold f_isTag_136
  refine ok_bnd (fun v1 e23 => ?_)
  have t_v1 : v1.toInt = 96 * x2.toInt := ti_mul e23 (show (96 : Int32).toInt = 96 from rfl) rfl (by omega) (by omega)
  refine ok_bnd (fun v2 e24 => ?_)
  have t_v2 : v2.toInt = 12 * x1.toInt := ti_mul e24 (show (12 : Int32).toInt = 12 from rfl) rfl (by omega) (by omega)
  refine ok_bnd (fun v3 e25 => ?_)
  have t_v3 : v3.toInt = v1.toInt + v2.toInt := ti_add e25 rfl rfl (by omega) (by omega)
  refine ok_bnd (fun v4 e26 => ?_)
  have t_v4 : v4.toInt = v3.toInt + x6.toInt := ti_add e26 rfl rfl (by omega) (by omega)
  refine ok_chk (ti_in (by omega) (by omega)) ?_
  refine ok_bnd (fun v5 e27 => ?_)
  have b_v5 := tA_20 hA ((v4).toNatClampNeg)
  rw [← e27] at b_v5
  refine ok_if (fun c28 => ?_) (fun c28 => ?_)
  ·
    replace c28 := ti_eqP c28 rfl rfl
    exact t_isTag_165   hself38 (x1 := x1) (x2 := x2) (x3 := x3) (x4 := x4) (x6 := x6) (t0 := (1 : Int32)) hI hA r_x1 r_x2 r_x3 r_x4 r_x6 (by decide) m38
  ·
    replace c28 := ti_eqN c28 rfl rfl
    exact t_isTag_165   hself38 (x1 := x1) (x2 := x2) (x3 := x3) (x4 := x4) (x6 := x6) (t0 := (0 : Int32)) hI hA r_x1 r_x2 r_x3 r_x4 r_x6 (by decide) m38
theorem t_isTag_38s  {I : Nat → Int32} {A : Nat → Nat → Int32} {self38 : Int32 → Int32 → Int32 → Int32 → Int32 → Int32 → (Nat → Int32) → (Nat → Nat → Int32) → Option (Int32 × MS)} {N38 : Nat} (hself38 : ∀ (x1 : Int32) (x2 : Int32) (x3 : Int32) (x4 : Int32) (x5 : Int32) (x6 : Int32),  ((0 : Int) ≤ x1.toInt ∧ x1.toInt ≤ (7 : Int)) → ((0 : Int) ≤ x2.toInt ∧ x2.toInt ≤ (1 : Int)) → ((0 : Int) ≤ x3.toInt ∧ x3.toInt ≤ (1 : Int)) → ((3 : Int) ≤ x4.toInt ∧ x4.toInt ≤ (6 : Int)) → ((0 : Int) ≤ x5.toInt ∧ x5.toInt ≤ (1 : Int)) → ((0 : Int) ≤ x6.toInt ∧ x6.toInt ≤ (6 : Int)) → (7 - x6.toInt) < (N38 : Int) → Ok (self38 x1 x2 x3 x4 x5 x6 I A) (fun o => o.2 = (I, A) ∧ ((0 : Int) ≤ o.1.toInt ∧ o.1.toInt ≤ (1 : Int)))) {x1 : Int32} {x2 : Int32} {x3 : Int32} {x4 : Int32} {x5 : Int32} {x6 : Int32} (hI : TJ I) (hA : TK A) (r_x1 : (0 : Int) ≤ x1.toInt ∧ x1.toInt ≤ (7 : Int)) (r_x2 : (0 : Int) ≤ x2.toInt ∧ x2.toInt ≤ (1 : Int)) (r_x3 : (0 : Int) ≤ x3.toInt ∧ x3.toInt ≤ (1 : Int)) (r_x4 : (3 : Int) ≤ x4.toInt ∧ x4.toInt ≤ (6 : Int)) (r_x5 : (0 : Int) ≤ x5.toInt ∧ x5.toInt ≤ (1 : Int)) (r_x6 : (0 : Int) ≤ x6.toInt ∧ x6.toInt ≤ (6 : Int)) (m38 : (7 - x6.toInt) ≤ (N38 : Int)) : Ok (f_isTag_38s self38 x1 x2 x3 x4 x5 x6 I A) (fun o => o.2 = (I, A) ∧ ((0 : Int) ≤ o.1.toInt ∧ o.1.toInt ≤ (1 : Int))) := by
  unfold f_isTag_38s
  refine ok_if (fun c29 => ?_) (fun c29 => ?_)
  ·
    replace c29 := ti_leP c29 rfl rfl
    unfold f_isTag_173
    refine ok_chk (nar_b (by omega) (by omega)) ?_
    exact ok_ret ⟨rfl, (show (0 : Int) ≤ x5.toInt ∧ x5.toInt ≤ (1 : Int) from (by omega))⟩
  ·
    replace c29 := ti_leN c29 rfl rfl
    refine ok_if (fun c30 => ?_) (fun c30 => ?_)
    ·
      replace c30 := ti_eqP c30 rfl (show (0 : Int32).toInt = 0 from rfl)
      unfold f_isTag_173
      refine ok_chk (nar_b (by omega) (by omega)) ?_
      exact ok_ret ⟨rfl, (show (0 : Int) ≤ x5.toInt ∧ x5.toInt ≤ (1 : Int) from (by omega))⟩
    ·
      replace c30 := ti_eqN c30 rfl (show (0 : Int32).toInt = 0 from rfl)
      refine ok_if (fun c31 => ?_) (fun c31 => ?_)
      ·
        replace c31 := ti_eqP c31 rfl (show (0 : Int32).toInt = 0 from rfl)
        refine ok_if (fun c32 => ?_) (fun c32 => ?_)
        ·
          replace c32 := ti_eqP c32 rfl (show (0 : Int32).toInt = 0 from rfl)
          exact t_isTag_136   hself38 (x1 := x1) (x2 := x2) (x3 := x3) (x4 := x4) (x6 := x6) (t0 := (70 : Int32)) hI hA r_x1 r_x2 r_x3 r_x4 (by omega) m38
        ·
          replace c32 := ti_eqN c32 rfl (show (0 : Int32).toInt = 0 from rfl)
          refine ok_if (fun c33 => ?_) (fun c33 => ?_)
          ·
            replace c33 := ti_eqP c33 rfl (show (1 : Int32).toInt = 1 from rfl)
            exact t_isTag_136   hself38 (x1 := x1) (x2 := x2) (x3 := x3) (x4 := x4) (x6 := x6) (t0 := (69 : Int32)) hI hA r_x1 r_x2 r_x3 r_x4 (by omega) m38
          ·
            replace c33 := ti_eqN c33 rfl (show (1 : Int32).toInt = 1 from rfl)
            exact t_isTag_136   hself38 (x1 := x1) (x2 := x2) (x3 := x3) (x4 := x4) (x6 := x6) (t0 := (78 : Int32)) hI hA r_x1 r_x2 r_x3 r_x4 (by omega) m38
      ·
        replace c31 := ti_eqN c31 rfl (show (0 : Int32).toInt = 0 from rfl)
        refine ok_if (fun c34 => ?_) (fun c34 => ?_)
        ·
          replace c34 := ti_eqP c34 rfl (show (0 : Int32).toInt = 0 from rfl)
          exact t_isTag_136   hself38 (x1 := x1) (x2 := x2) (x3 := x3) (x4 := x4) (x6 := x6) (t0 := (82 : Int32)) hI hA r_x1 r_x2 r_x3 r_x4 (by omega) m38
        ·
          replace c34 := ti_eqN c34 rfl (show (0 : Int32).toInt = 0 from rfl)
          refine ok_if (fun c35 => ?_) (fun c35 => ?_)
          ·
            replace c35 := ti_eqP c35 rfl (show (1 : Int32).toInt = 1 from rfl)
            exact t_isTag_136   hself38 (x1 := x1) (x2 := x2) (x3 := x3) (x4 := x4) (x6 := x6) (t0 := (101 : Int32)) hI hA r_x1 r_x2 r_x3 r_x4 (by omega) m38
          ·
            replace c35 := ti_eqN c35 rfl (show (1 : Int32).toInt = 1 from rfl)
            refine ok_if (fun c36 => ?_) (fun c36 => ?_)
            ·
              replace c36 := ti_eqP c36 rfl (show (2 : Int32).toInt = 2 from rfl)
              exact t_isTag_136   hself38 (x1 := x1) (x2 := x2) (x3 := x3) (x4 := x4) (x6 := x6) (t0 := (115 : Int32)) hI hA r_x1 r_x2 r_x3 r_x4 (by omega) m38
            ·
              replace c36 := ti_eqN c36 rfl (show (2 : Int32).toInt = 2 from rfl)
              refine ok_if (fun c37 => ?_) (fun c37 => ?_)
              ·
                replace c37 := ti_eqP c37 rfl (show (3 : Int32).toInt = 3 from rfl)
                exact t_isTag_136   hself38 (x1 := x1) (x2 := x2) (x3 := x3) (x4 := x4) (x6 := x6) (t0 := (117 : Int32)) hI hA r_x1 r_x2 r_x3 r_x4 (by omega) m38
              ·
                replace c37 := ti_eqN c37 rfl (show (3 : Int32).toInt = 3 from rfl)
                refine ok_if (fun c38 => ?_) (fun c38 => ?_)
                ·
                  replace c38 := ti_eqP c38 rfl (show (4 : Int32).toInt = 4 from rfl)
                  exact t_isTag_136   hself38 (x1 := x1) (x2 := x2) (x3 := x3) (x4 := x4) (x6 := x6) (t0 := (108 : Int32)) hI hA r_x1 r_x2 r_x3 r_x4 (by omega) m38
                ·
                  replace c38 := ti_eqN c38 rfl (show (4 : Int32).toInt = 4 from rfl)
                  exact t_isTag_136   hself38 (x1 := x1) (x2 := x2) (x3 := x3) (x4 := x4) (x6 := x6) (t0 := (116 : Int32)) hI hA r_x1 r_x2 r_x3 r_x4 (by omega) m38
theorem t_isTag_38  {I : Nat → Int32} {A : Nat → Nat → Int32} (hI : TJ I) (hA : TK A) : ∀ (n : Nat) (x1 : Int32) (x2 : Int32) (x3 : Int32) (x4 : Int32) (x5 : Int32) (x6 : Int32),  ((0 : Int) ≤ x1.toInt ∧ x1.toInt ≤ (7 : Int)) → ((0 : Int) ≤ x2.toInt ∧ x2.toInt ≤ (1 : Int)) → ((0 : Int) ≤ x3.toInt ∧ x3.toInt ≤ (1 : Int)) → ((3 : Int) ≤ x4.toInt ∧ x4.toInt ≤ (6 : Int)) → ((0 : Int) ≤ x5.toInt ∧ x5.toInt ≤ (1 : Int)) → ((0 : Int) ≤ x6.toInt ∧ x6.toInt ≤ (6 : Int)) → (7 - x6.toInt) < (n : Int) → Ok (f_isTag_38  n x1 x2 x3 x4 x5 x6 I A) (fun o => o.2 = (I, A) ∧ ((0 : Int) ≤ o.1.toInt ∧ o.1.toInt ≤ (1 : Int))) := by
  intro n
  induction n with
  | zero => intro x1 x2 x3 x4 x5 x6 g0 g1 g2 g3 g4 g5  hm; exfalso; omega
  | succ n ih =>
    intro x1 x2 x3 x4 x5 x6 g0 g1 g2 g3 g4 g5  hm
    exact t_isTag_38s   (N38 := n)  ih hI hA g0 g1 g2 g3 g4 g5  (by omega)
theorem t_isTag_33  {I : Nat → Int32} {A : Nat → Nat → Int32} {x1 : Int32} {x2 : Int32} {x3 : Int32} {x4 : Int32} {t0 : Int32} (hI : TJ I) (hA : TK A) (r_x1 : (0 : Int) ≤ x1.toInt ∧ x1.toInt ≤ (7 : Int)) (r_x2 : (0 : Int) ≤ x2.toInt ∧ x2.toInt ≤ (1 : Int)) (r_x3 : (0 : Int) ≤ x3.toInt ∧ x3.toInt ≤ (1 : Int)) (r_x4 : (3 : Int) ≤ x4.toInt ∧ x4.toInt ≤ (6 : Int)) (r_t0 : (0 : Int) ≤ t0.toInt ∧ t0.toInt ≤ (1 : Int)) : Ok (f_isTag_33 x1 x2 x3 x4 t0 I A) (fun o => o.2 = (I, A) ∧ ((0 : Int) ≤ o.1.toInt ∧ o.1.toInt ≤ (1 : Int))) := by
  unfold f_isTag_33
  exact t_isTag_38    hI hA mFuel x1 x2 x3 x4 t0 (0 : Int32)  r_x1 r_x2 r_x3 r_x4 r_t0 (by decide) (by show _ < ((200000 : Nat) : Int); have z0 : (0 : Int32).toInt = 0 := rfl; omega)
theorem t_isTag_10  {I : Nat → Int32} {A : Nat → Nat → Int32} {x1 : Int32} {x2 : Int32} {x3 : Int32} {t0 : Int32} (hI : TJ I) (hA : TK A) (r_x1 : (0 : Int) ≤ x1.toInt ∧ x1.toInt ≤ (7 : Int)) (r_x2 : (0 : Int) ≤ x2.toInt ∧ x2.toInt ≤ (1 : Int)) (r_x3 : (0 : Int) ≤ x3.toInt ∧ x3.toInt ≤ (1 : Int)) (r_t0 : (3 : Int) ≤ t0.toInt ∧ t0.toInt ≤ (6 : Int)) : Ok (f_isTag_10 x1 x2 x3 t0 I A) (fun o => o.2 = (I, A) ∧ ((0 : Int) ≤ o.1.toInt ∧ o.1.toInt ≤ (1 : Int))) := by
  unfold f_isTag_10
  refine ok_bnd (fun v1 e39 => ?_)
  have t_v1 : v1.toInt = 8 * x2.toInt := ti_mul e39 (show (8 : Int32).toInt = 8 from rfl) rfl (by omega) (by omega)
  refine ok_bnd (fun v2 e40 => ?_)
  have t_v2 : v2.toInt = v1.toInt + x1.toInt := ti_add e40 rfl rfl (by omega) (by omega)
  refine ok_chk (ti_in (by omega) (by omega)) ?_
  refine ok_bnd (fun v3 e41 => ?_)
  have b_v3 := tA_19 hA ((v2).toNatClampNeg)
  rw [← e41] at b_v3
  refine ok_if (fun c42 => ?_) (fun c42 => ?_)
  ·
    replace c42 := ti_eqP c42 rfl rfl
    exact t_isTag_33    (x1 := x1) (x2 := x2) (x3 := x3) (x4 := t0) (t0 := (1 : Int32)) hI hA r_x1 r_x2 r_x3 r_t0 (by decide)
  ·
    replace c42 := ti_eqN c42 rfl rfl
    exact t_isTag_33    (x1 := x1) (x2 := x2) (x3 := x3) (x4 := t0) (t0 := (0 : Int32)) hI hA r_x1 r_x2 r_x3 r_t0 (by decide)
theorem t_isTag_0  {I : Nat → Int32} {A : Nat → Nat → Int32} {x1 : Int32} {x2 : Int32} {x3 : Int32} (hI : TJ I) (hA : TK A) (r_x1 : (0 : Int) ≤ x1.toInt ∧ x1.toInt ≤ (7 : Int)) (r_x2 : (0 : Int) ≤ x2.toInt ∧ x2.toInt ≤ (1 : Int)) (r_x3 : (0 : Int) ≤ x3.toInt ∧ x3.toInt ≤ (1 : Int)) : Ok (f_isTag_0 x1 x2 x3 I A) (fun o => o.2 = (I, A) ∧ ((0 : Int) ≤ o.1.toInt ∧ o.1.toInt ≤ (1 : Int))) := by
  unfold f_isTag_0
  refine ok_if (fun c43 => ?_) (fun c43 => ?_)
  ·
    replace c43 := ti_eqP c43 rfl (show (0 : Int32).toInt = 0 from rfl)
    exact t_isTag_10    (x1 := x1) (x2 := x2) (x3 := x3) (t0 := (3 : Int32)) hI hA r_x1 r_x2 r_x3 (by decide)
  ·
    replace c43 := ti_eqN c43 rfl (show (0 : Int32).toInt = 0 from rfl)
    exact t_isTag_10    (x1 := x1) (x2 := x2) (x3 := x3) (t0 := (6 : Int32)) hI hA r_x1 r_x2 r_x3 (by decide)
theorem t_isTag  {I : Nat → Int32} {A : Nat → Nat → Int32} {x1 : Int32} {x2 : Int32} {x3 : Int32} (hI : TJ I) (hA : TK A) (r_x1 : (0 : Int) ≤ x1.toInt ∧ x1.toInt ≤ (7 : Int)) (r_x2 : (0 : Int) ≤ x2.toInt ∧ x2.toInt ≤ (1 : Int)) (r_x3 : (0 : Int) ≤ x3.toInt ∧ x3.toInt ≤ (1 : Int)) : Ok (f_isTag x1 x2 x3 I A) (fun o => o.2 = (I, A) ∧ ((0 : Int) ≤ o.1.toInt ∧ o.1.toInt ≤ (1 : Int))) := t_isTag_0  hI hA r_x1 r_x2 r_x3
theorem t_isNameThere_133  {I : Nat → Int32} {A : Nat → Nat → Int32} {self5 : Int32 → Int32 → Int32 → Int32 → (Nat → Int32) → (Nat → Nat → Int32) → Option (Int32 × MS)} {N5 : Nat} (hself5 : ∀ (x1 : Int32) (x2 : Int32) (x3 : Int32) (x4 : Int32),  ((0 : Int) ≤ x1.toInt ∧ x1.toInt ≤ (1 : Int)) → ((0 : Int) ≤ x2.toInt ∧ x2.toInt ≤ (7 : Int)) → ((0 : Int) ≤ x3.toInt ∧ x3.toInt ≤ (1 : Int)) → ((0 : Int) ≤ x4.toInt ∧ x4.toInt ≤ (8 : Int)) → (9 - x4.toInt) < (N5 : Int) → Ok (self5 x1 x2 x3 x4 I A) (fun o => o.2 = (I, A) ∧ ((0 : Int) ≤ o.1.toInt ∧ o.1.toInt ≤ (1 : Int)))) {x1 : Int32} {x2 : Int32} {x4 : Int32} {t0 : Int32} (hI : TJ I) (hA : TK A) (r_x1 : (0 : Int) ≤ x1.toInt ∧ x1.toInt ≤ (1 : Int)) (r_x2 : (0 : Int) ≤ x2.toInt ∧ x2.toInt ≤ (7 : Int)) (r_x4 : (0 : Int) ≤ x4.toInt ∧ x4.toInt ≤ (7 : Int)) (r_t0 : (0 : Int) ≤ t0.toInt ∧ t0.toInt ≤ (1 : Int)) (m5 : (9 - x4.toInt) ≤ (N5 : Int)) : Ok (f_isNameThere_133 self5 x1 x2 x4 t0 I A) (fun o => o.2 = (I, A) ∧ ((0 : Int) ≤ o.1.toInt ∧ o.1.toInt ≤ (1 : Int))) := by
  unfold f_isNameThere_133
  refine ok_bnd (fun v1 e44 => ?_)
  have t_v1 : v1.toInt = x4.toInt + 1 := ti_add e44 rfl (show (1 : Int32).toInt = 1 from rfl) (by omega) (by omega)
  exact hself5 x1 x2 t0 v1 r_x1 r_x2 r_t0 (by omega) (by omega)
theorem t_isNameThere_119  {I : Nat → Int32} {A : Nat → Nat → Int32} {self5 : Int32 → Int32 → Int32 → Int32 → (Nat → Int32) → (Nat → Nat → Int32) → Option (Int32 × MS)} {N5 : Nat} (hself5 : ∀ (x1 : Int32) (x2 : Int32) (x3 : Int32) (x4 : Int32),  ((0 : Int) ≤ x1.toInt ∧ x1.toInt ≤ (1 : Int)) → ((0 : Int) ≤ x2.toInt ∧ x2.toInt ≤ (7 : Int)) → ((0 : Int) ≤ x3.toInt ∧ x3.toInt ≤ (1 : Int)) → ((0 : Int) ≤ x4.toInt ∧ x4.toInt ≤ (8 : Int)) → (9 - x4.toInt) < (N5 : Int) → Ok (self5 x1 x2 x3 x4 I A) (fun o => o.2 = (I, A) ∧ ((0 : Int) ≤ o.1.toInt ∧ o.1.toInt ≤ (1 : Int)))) {x1 : Int32} {x2 : Int32} {x3 : Int32} {x4 : Int32} {x5 : Int32} (hI : TJ I) (hA : TK A) (r_x1 : (0 : Int) ≤ x1.toInt ∧ x1.toInt ≤ (1 : Int)) (r_x2 : (0 : Int) ≤ x2.toInt ∧ x2.toInt ≤ (7 : Int)) (r_x3 : (0 : Int) ≤ x3.toInt ∧ x3.toInt ≤ (1 : Int)) (r_x4 : (0 : Int) ≤ x4.toInt ∧ x4.toInt ≤ (7 : Int)) (r_x5 : (0 : Int) ≤ x5.toInt ∧ x5.toInt ≤ (1 : Int)) (m5 : (9 - x4.toInt) ≤ (N5 : Int)) : Ok (f_isNameThere_119 self5 x1 x2 x3 x4 x5 I A) (fun o => o.2 = (I, A) ∧ ((0 : Int) ≤ o.1.toInt ∧ o.1.toInt ≤ (1 : Int))) := by
  unfold f_isNameThere_119
  refine ok_if (fun c45 => ?_) (fun c45 => ?_)
  ·
    replace c45 := ti_eqP c45 rfl (show (0 : Int32).toInt = 0 from rfl)
    refine ok_if (fun c46 => ?_) (fun c46 => ?_)
    ·
      replace c46 := ti_eqP c46 rfl (show (0 : Int32).toInt = 0 from rfl)
      exact t_isNameThere_133   hself5 (x1 := x1) (x2 := x2) (x4 := x4) (t0 := (0 : Int32)) hI hA r_x1 r_x2 r_x4 (by decide) m5
    ·
      replace c46 := ti_eqN c46 rfl (show (0 : Int32).toInt = 0 from rfl)
      unfold f_isNameThere_128
      exact t_isNameThere_133   hself5 (x1 := x1) (x2 := x2) (x4 := x4) (t0 := (1 : Int32)) hI hA r_x1 r_x2 r_x4 (by decide) m5
  ·
    replace c45 := ti_eqN c45 rfl (show (0 : Int32).toInt = 0 from rfl)
    unfold f_isNameThere_128
    exact t_isNameThere_133   hself5 (x1 := x1) (x2 := x2) (x4 := x4) (t0 := (1 : Int32)) hI hA r_x1 r_x2 r_x4 (by decide) m5
theorem t_isNameThere_111  {I : Nat → Int32} {A : Nat → Nat → Int32} {self5 : Int32 → Int32 → Int32 → Int32 → (Nat → Int32) → (Nat → Nat → Int32) → Option (Int32 × MS)} {N5 : Nat} (hself5 : ∀ (x1 : Int32) (x2 : Int32) (x3 : Int32) (x4 : Int32),  ((0 : Int) ≤ x1.toInt ∧ x1.toInt ≤ (1 : Int)) → ((0 : Int) ≤ x2.toInt ∧ x2.toInt ≤ (7 : Int)) → ((0 : Int) ≤ x3.toInt ∧ x3.toInt ≤ (1 : Int)) → ((0 : Int) ≤ x4.toInt ∧ x4.toInt ≤ (8 : Int)) → (9 - x4.toInt) < (N5 : Int) → Ok (self5 x1 x2 x3 x4 I A) (fun o => o.2 = (I, A) ∧ ((0 : Int) ≤ o.1.toInt ∧ o.1.toInt ≤ (1 : Int)))) {self47 : Int32 → Int32 → Int32 → Int32 → Int32 → Int32 → (Nat → Int32) → (Nat → Nat → Int32) → Option (Int32 × MS)} {N47 : Nat} (hself47 : ∀ (x1 : Int32) (x2 : Int32) (x3 : Int32) (x4 : Int32) (x5 : Int32) (x6 : Int32),  ((0 : Int) ≤ x1.toInt ∧ x1.toInt ≤ (1 : Int)) → ((0 : Int) ≤ x2.toInt ∧ x2.toInt ≤ (7 : Int)) → ((0 : Int) ≤ x3.toInt ∧ x3.toInt ≤ (1 : Int)) → ((0 : Int) ≤ x4.toInt ∧ x4.toInt ≤ (7 : Int)) → ((0 : Int) ≤ x5.toInt ∧ x5.toInt ≤ (1 : Int)) → ((0 : Int) ≤ x6.toInt ∧ x6.toInt ≤ (12 : Int)) → ((9 - x4.toInt) ≤ (N5 : Int)) → (13 - x6.toInt) < (N47 : Int) → Ok (self47 x1 x2 x3 x4 x5 x6 I A) (fun o => o.2 = (I, A) ∧ ((0 : Int) ≤ o.1.toInt ∧ o.1.toInt ≤ (1 : Int)))) {x1 : Int32} {x2 : Int32} {x3 : Int32} {x4 : Int32} {x6 : Int32} {t0 : Int32} (hI : TJ I) (hA : TK A) (r_x1 : (0 : Int) ≤ x1.toInt ∧ x1.toInt ≤ (1 : Int)) (r_x2 : (0 : Int) ≤ x2.toInt ∧ x2.toInt ≤ (7 : Int)) (r_x3 : (0 : Int) ≤ x3.toInt ∧ x3.toInt ≤ (1 : Int)) (r_x4 : (0 : Int) ≤ x4.toInt ∧ x4.toInt ≤ (7 : Int)) (r_x6 : (0 : Int) ≤ x6.toInt ∧ x6.toInt ≤ (11 : Int)) (r_t0 : (0 : Int) ≤ t0.toInt ∧ t0.toInt ≤ (1 : Int)) (m5 : (9 - x4.toInt) ≤ (N5 : Int)) (m47 : (13 - x6.toInt) ≤ (N47 : Int)) : Ok (f_isNameThere_111 self5 self47 x1 x2 x3 x4 x6 t0 I A) (fun o => o.2 = (I, A) ∧ ((0 : Int) ≤ o.1.toInt ∧ o.1.toInt ≤ (1 : Int))) := by
  unfold f_isNameThere_111
  refine ok_bnd (fun v1 e47 => ?_)
  have t_v1 : v1.toInt = x6.toInt + 1 := ti_add e47 rfl (show (1 : Int32).toInt = 1 from rfl) (by omega) (by omega)
  exact hself47 x1 x2 x3 x4 t0 v1 r_x1 r_x2 r_x3 r_x4 r_t0 (by omega) m5 (by omega)
theorem t_isNameThere_47s  {I : Nat → Int32} {A : Nat → Nat → Int32} {self5 : Int32 → Int32 → Int32 → Int32 → (Nat → Int32) → (Nat → Nat → Int32) → Option (Int32 × MS)} {N5 : Nat} (hself5 : ∀ (x1 : Int32) (x2 : Int32) (x3 : Int32) (x4 : Int32),  ((0 : Int) ≤ x1.toInt ∧ x1.toInt ≤ (1 : Int)) → ((0 : Int) ≤ x2.toInt ∧ x2.toInt ≤ (7 : Int)) → ((0 : Int) ≤ x3.toInt ∧ x3.toInt ≤ (1 : Int)) → ((0 : Int) ≤ x4.toInt ∧ x4.toInt ≤ (8 : Int)) → (9 - x4.toInt) < (N5 : Int) → Ok (self5 x1 x2 x3 x4 I A) (fun o => o.2 = (I, A) ∧ ((0 : Int) ≤ o.1.toInt ∧ o.1.toInt ≤ (1 : Int)))) {self47 : Int32 → Int32 → Int32 → Int32 → Int32 → Int32 → (Nat → Int32) → (Nat → Nat → Int32) → Option (Int32 × MS)} {N47 : Nat} (hself47 : ∀ (x1 : Int32) (x2 : Int32) (x3 : Int32) (x4 : Int32) (x5 : Int32) (x6 : Int32),  ((0 : Int) ≤ x1.toInt ∧ x1.toInt ≤ (1 : Int)) → ((0 : Int) ≤ x2.toInt ∧ x2.toInt ≤ (7 : Int)) → ((0 : Int) ≤ x3.toInt ∧ x3.toInt ≤ (1 : Int)) → ((0 : Int) ≤ x4.toInt ∧ x4.toInt ≤ (7 : Int)) → ((0 : Int) ≤ x5.toInt ∧ x5.toInt ≤ (1 : Int)) → ((0 : Int) ≤ x6.toInt ∧ x6.toInt ≤ (12 : Int)) → ((9 - x4.toInt) ≤ (N5 : Int)) → (13 - x6.toInt) < (N47 : Int) → Ok (self47 x1 x2 x3 x4 x5 x6 I A) (fun o => o.2 = (I, A) ∧ ((0 : Int) ≤ o.1.toInt ∧ o.1.toInt ≤ (1 : Int)))) {x1 : Int32} {x2 : Int32} {x3 : Int32} {x4 : Int32} {x5 : Int32} {x6 : Int32} (hI : TJ I) (hA : TK A) (r_x1 : (0 : Int) ≤ x1.toInt ∧ x1.toInt ≤ (1 : Int)) (r_x2 : (0 : Int) ≤ x2.toInt ∧ x2.toInt ≤ (7 : Int)) (r_x3 : (0 : Int) ≤ x3.toInt ∧ x3.toInt ≤ (1 : Int)) (r_x4 : (0 : Int) ≤ x4.toInt ∧ x4.toInt ≤ (7 : Int)) (r_x5 : (0 : Int) ≤ x5.toInt ∧ x5.toInt ≤ (1 : Int)) (r_x6 : (0 : Int) ≤ x6.toInt ∧ x6.toInt ≤ (12 : Int)) (m5 : (9 - x4.toInt) ≤ (N5 : Int)) (m47 : (13 - x6.toInt) ≤ (N47 : Int)) : Ok (f_isNameThere_47s self5 self47 x1 x2 x3 x4 x5 x6 I A) (fun o => o.2 = (I, A) ∧ ((0 : Int) ≤ o.1.toInt ∧ o.1.toInt ≤ (1 : Int))) := by
  unfold f_isNameThere_47s
  refine ok_bnd (fun v1 e48 => ?_)
  have t_v1 : v1.toInt = 8 * x1.toInt := ti_mul e48 (show (8 : Int32).toInt = 8 from rfl) rfl (by omega) (by omega)
  refine ok_bnd (fun v2 e49 => ?_)
  have t_v2 : v2.toInt = v1.toInt + x2.toInt := ti_add e49 rfl rfl (by omega) (by omega)
  refine ok_chk (ti_in (by omega) (by omega)) ?_
  refine ok_bnd (fun v3 e50 => ?_)
  have b_v3 := tA_19 hA ((v2).toNatClampNeg)
  rw [← e50] at b_v3
  refine ok_if (fun c51 => ?_) (fun c51 => ?_)
  ·
    replace c51 := ti_leP c51 rfl rfl
    exact t_isNameThere_119   hself5 (x1 := x1) (x2 := x2) (x3 := x3) (x4 := x4) (x5 := x5) hI hA r_x1 r_x2 r_x3 r_x4 r_x5 m5
  ·
    replace c51 := ti_leN c51 rfl rfl
    refine ok_if (fun c52 => ?_) (fun c52 => ?_)
    ·
      replace c52 := ti_eqP c52 rfl (show (0 : Int32).toInt = 0 from rfl)
      exact t_isNameThere_119   hself5 (x1 := x1) (x2 := x2) (x3 := x3) (x4 := x4) (x5 := x5) hI hA r_x1 r_x2 r_x3 r_x4 r_x5 m5
    ·
      replace c52 := ti_eqN c52 rfl (show (0 : Int32).toInt = 0 from rfl)
      refine ok_bnd (fun v4 e53 => ?_)
      have t_v4 : v4.toInt = 96 * x1.toInt := ti_mul e53 (show (96 : Int32).toInt = 96 from rfl) rfl (by omega) (by omega)
      refine ok_bnd (fun v5 e54 => ?_)
      have t_v5 : v5.toInt = 12 * x4.toInt := ti_mul e54 (show (12 : Int32).toInt = 12 from rfl) rfl (by omega) (by omega)
      refine ok_bnd (fun v6 e55 => ?_)
      have t_v6 : v6.toInt = v4.toInt + v5.toInt := ti_add e55 rfl rfl (by omega) (by omega)
      refine ok_bnd (fun v7 e56 => ?_)
      have t_v7 : v7.toInt = v6.toInt + x6.toInt := ti_add e56 rfl rfl (by omega) (by omega)
      refine ok_chk (ti_in (by omega) (by omega)) ?_
      refine ok_bnd (fun v8 e57 => ?_)
      have b_v8 := tA_20 hA ((v7).toNatClampNeg)
      rw [← e57] at b_v8
      refine ok_bnd (fun v9 e58 => ?_)
      have t_v9 : v9.toInt = 96 * x1.toInt := ti_mul e58 (show (96 : Int32).toInt = 96 from rfl) rfl (by omega) (by omega)
      refine ok_bnd (fun v10 e59 => ?_)
      have t_v10 : v10.toInt = 12 * x2.toInt := ti_mul e59 (show (12 : Int32).toInt = 12 from rfl) rfl (by omega) (by omega)
      refine ok_bnd (fun v11 e60 => ?_)
      have t_v11 : v11.toInt = v9.toInt + v10.toInt := ti_add e60 rfl rfl (by omega) (by omega)
      refine ok_bnd (fun v12 e61 => ?_)
      have t_v12 : v12.toInt = v11.toInt + x6.toInt := ti_add e61 rfl rfl (by omega) (by omega)
      refine ok_chk (ti_in (by omega) (by omega)) ?_
      refine ok_bnd (fun v13 e62 => ?_)
      have b_v13 := tA_20 hA ((v12).toNatClampNeg)
      rw [← e62] at b_v13
      refine ok_if (fun c63 => ?_) (fun c63 => ?_)
      ·
        replace c63 := ti_eqP c63 rfl rfl
        exact t_isNameThere_111   hself5 hself47 (x1 := x1) (x2 := x2) (x3 := x3) (x4 := x4) (x6 := x6) (t0 := (1 : Int32)) hI hA r_x1 r_x2 r_x3 r_x4 (by omega) (by decide) m5 m47
      ·
        replace c63 := ti_eqN c63 rfl rfl
        exact t_isNameThere_111   hself5 hself47 (x1 := x1) (x2 := x2) (x3 := x3) (x4 := x4) (x6 := x6) (t0 := (0 : Int32)) hI hA r_x1 r_x2 r_x3 r_x4 (by omega) (by decide) m5 m47
theorem t_isNameThere_47  {I : Nat → Int32} {A : Nat → Nat → Int32} {self5 : Int32 → Int32 → Int32 → Int32 → (Nat → Int32) → (Nat → Nat → Int32) → Option (Int32 × MS)} {N5 : Nat} (hself5 : ∀ (x1 : Int32) (x2 : Int32) (x3 : Int32) (x4 : Int32),  ((0 : Int) ≤ x1.toInt ∧ x1.toInt ≤ (1 : Int)) → ((0 : Int) ≤ x2.toInt ∧ x2.toInt ≤ (7 : Int)) → ((0 : Int) ≤ x3.toInt ∧ x3.toInt ≤ (1 : Int)) → ((0 : Int) ≤ x4.toInt ∧ x4.toInt ≤ (8 : Int)) → (9 - x4.toInt) < (N5 : Int) → Ok (self5 x1 x2 x3 x4 I A) (fun o => o.2 = (I, A) ∧ ((0 : Int) ≤ o.1.toInt ∧ o.1.toInt ≤ (1 : Int)))) (hI : TJ I) (hA : TK A) : ∀ (n : Nat) (x1 : Int32) (x2 : Int32) (x3 : Int32) (x4 : Int32) (x5 : Int32) (x6 : Int32),  ((0 : Int) ≤ x1.toInt ∧ x1.toInt ≤ (1 : Int)) → ((0 : Int) ≤ x2.toInt ∧ x2.toInt ≤ (7 : Int)) → ((0 : Int) ≤ x3.toInt ∧ x3.toInt ≤ (1 : Int)) → ((0 : Int) ≤ x4.toInt ∧ x4.toInt ≤ (7 : Int)) → ((0 : Int) ≤ x5.toInt ∧ x5.toInt ≤ (1 : Int)) → ((0 : Int) ≤ x6.toInt ∧ x6.toInt ≤ (12 : Int)) → ((9 - x4.toInt) ≤ (N5 : Int)) → (13 - x6.toInt) < (n : Int) → Ok (f_isNameThere_47 self5 n x1 x2 x3 x4 x5 x6 I A) (fun o => o.2 = (I, A) ∧ ((0 : Int) ≤ o.1.toInt ∧ o.1.toInt ≤ (1 : Int))) := by
  intro n
  induction n with
  | zero => intro x1 x2 x3 x4 x5 x6 g0 g1 g2 g3 g4 g5 w0 hm; exfalso; omega
  | succ n ih =>
    intro x1 x2 x3 x4 x5 x6 g0 g1 g2 g3 g4 g5 w0 hm
    exact t_isNameThere_47s   (N47 := n) hself5 ih hI hA g0 g1 g2 g3 g4 g5 w0 (by omega)
theorem t_isNameThere_42  {I : Nat → Int32} {A : Nat → Nat → Int32} {self5 : Int32 → Int32 → Int32 → Int32 → (Nat → Int32) → (Nat → Nat → Int32) → Option (Int32 × MS)} {N5 : Nat} (hself5 : ∀ (x1 : Int32) (x2 : Int32) (x3 : Int32) (x4 : Int32),  ((0 : Int) ≤ x1.toInt ∧ x1.toInt ≤ (1 : Int)) → ((0 : Int) ≤ x2.toInt ∧ x2.toInt ≤ (7 : Int)) → ((0 : Int) ≤ x3.toInt ∧ x3.toInt ≤ (1 : Int)) → ((0 : Int) ≤ x4.toInt ∧ x4.toInt ≤ (8 : Int)) → (9 - x4.toInt) < (N5 : Int) → Ok (self5 x1 x2 x3 x4 I A) (fun o => o.2 = (I, A) ∧ ((0 : Int) ≤ o.1.toInt ∧ o.1.toInt ≤ (1 : Int)))) {x1 : Int32} {x2 : Int32} {x3 : Int32} {x4 : Int32} {t0 : Int32} (hI : TJ I) (hA : TK A) (r_x1 : (0 : Int) ≤ x1.toInt ∧ x1.toInt ≤ (1 : Int)) (r_x2 : (0 : Int) ≤ x2.toInt ∧ x2.toInt ≤ (7 : Int)) (r_x3 : (0 : Int) ≤ x3.toInt ∧ x3.toInt ≤ (1 : Int)) (r_x4 : (0 : Int) ≤ x4.toInt ∧ x4.toInt ≤ (7 : Int)) (r_t0 : (0 : Int) ≤ t0.toInt ∧ t0.toInt ≤ (1 : Int)) (m5 : (9 - x4.toInt) ≤ (N5 : Int)) : Ok (f_isNameThere_42 self5 x1 x2 x3 x4 t0 I A) (fun o => o.2 = (I, A) ∧ ((0 : Int) ≤ o.1.toInt ∧ o.1.toInt ≤ (1 : Int))) := by
  unfold f_isNameThere_42
  exact t_isNameThere_47   hself5 hI hA mFuel x1 x2 x3 x4 t0 (0 : Int32)  r_x1 r_x2 r_x3 r_x4 r_t0 (by decide) m5 (by show _ < ((200000 : Nat) : Int); have z0 : (0 : Int32).toInt = 0 := rfl; omega)
theorem t_isNameThere_5s  {I : Nat → Int32} {A : Nat → Nat → Int32} {self5 : Int32 → Int32 → Int32 → Int32 → (Nat → Int32) → (Nat → Nat → Int32) → Option (Int32 × MS)} {N5 : Nat} (hself5 : ∀ (x1 : Int32) (x2 : Int32) (x3 : Int32) (x4 : Int32),  ((0 : Int) ≤ x1.toInt ∧ x1.toInt ≤ (1 : Int)) → ((0 : Int) ≤ x2.toInt ∧ x2.toInt ≤ (7 : Int)) → ((0 : Int) ≤ x3.toInt ∧ x3.toInt ≤ (1 : Int)) → ((0 : Int) ≤ x4.toInt ∧ x4.toInt ≤ (8 : Int)) → (9 - x4.toInt) < (N5 : Int) → Ok (self5 x1 x2 x3 x4 I A) (fun o => o.2 = (I, A) ∧ ((0 : Int) ≤ o.1.toInt ∧ o.1.toInt ≤ (1 : Int)))) {x1 : Int32} {x2 : Int32} {x3 : Int32} {x4 : Int32} (hI : TJ I) (hA : TK A) (r_x1 : (0 : Int) ≤ x1.toInt ∧ x1.toInt ≤ (1 : Int)) (r_x2 : (0 : Int) ≤ x2.toInt ∧ x2.toInt ≤ (7 : Int)) (r_x3 : (0 : Int) ≤ x3.toInt ∧ x3.toInt ≤ (1 : Int)) (r_x4 : (0 : Int) ≤ x4.toInt ∧ x4.toInt ≤ (8 : Int)) (m5 : (9 - x4.toInt) ≤ (N5 : Int)) : Ok (f_isNameThere_5s self5 x1 x2 x3 x4 I A) (fun o => o.2 = (I, A) ∧ ((0 : Int) ≤ o.1.toInt ∧ o.1.toInt ≤ (1 : Int))) := by
  unfold f_isNameThere_5s
  refine ok_if (fun c64 => ?_) (fun c64 => ?_)
  ·
    replace c64 := ti_leP c64 rfl rfl
    refine ok_chk (nar_b (by omega) (by omega)) ?_
    exact ok_ret ⟨rfl, (show (0 : Int) ≤ x3.toInt ∧ x3.toInt ≤ (1 : Int) from (by omega))⟩
  ·
    replace c64 := ti_leN c64 rfl rfl
    refine ok_bnd (fun v1 e65 => ?_)
    have t_v1 : v1.toInt = 8 * x1.toInt := ti_mul e65 (show (8 : Int32).toInt = 8 from rfl) rfl (by omega) (by omega)
    refine ok_bnd (fun v2 e66 => ?_)
    have t_v2 : v2.toInt = v1.toInt + x4.toInt := ti_add e66 rfl rfl (by omega) (by omega)
    refine ok_chk (ti_in (by omega) (by omega)) ?_
    refine ok_bnd (fun v3 e67 => ?_)
    have b_v3 := tA_19 hA ((v2).toNatClampNeg)
    rw [← e67] at b_v3
    refine ok_bnd (fun v4 e68 => ?_)
    have t_v4 : v4.toInt = 8 * x1.toInt := ti_mul e68 (show (8 : Int32).toInt = 8 from rfl) rfl (by omega) (by omega)
    refine ok_bnd (fun v5 e69 => ?_)
    have t_v5 : v5.toInt = v4.toInt + x2.toInt := ti_add e69 rfl rfl (by omega) (by omega)
    refine ok_chk (ti_in (by omega) (by omega)) ?_
    refine ok_bnd (fun v6 e70 => ?_)
    have b_v6 := tA_19 hA ((v5).toNatClampNeg)
    rw [← e70] at b_v6
    refine ok_if (fun c71 => ?_) (fun c71 => ?_)
    ·
      replace c71 := ti_eqP c71 rfl rfl
      exact t_isNameThere_42   hself5 (x1 := x1) (x2 := x2) (x3 := x3) (x4 := x4) (t0 := (1 : Int32)) hI hA r_x1 r_x2 r_x3 (by omega) (by decide) m5
    ·
      replace c71 := ti_eqN c71 rfl rfl
      exact t_isNameThere_42   hself5 (x1 := x1) (x2 := x2) (x3 := x3) (x4 := x4) (t0 := (0 : Int32)) hI hA r_x1 r_x2 r_x3 (by omega) (by decide) m5
theorem t_isNameThere_5  {I : Nat → Int32} {A : Nat → Nat → Int32} (hI : TJ I) (hA : TK A) : ∀ (n : Nat) (x1 : Int32) (x2 : Int32) (x3 : Int32) (x4 : Int32),  ((0 : Int) ≤ x1.toInt ∧ x1.toInt ≤ (1 : Int)) → ((0 : Int) ≤ x2.toInt ∧ x2.toInt ≤ (7 : Int)) → ((0 : Int) ≤ x3.toInt ∧ x3.toInt ≤ (1 : Int)) → ((0 : Int) ≤ x4.toInt ∧ x4.toInt ≤ (8 : Int)) → (9 - x4.toInt) < (n : Int) → Ok (f_isNameThere_5  n x1 x2 x3 x4 I A) (fun o => o.2 = (I, A) ∧ ((0 : Int) ≤ o.1.toInt ∧ o.1.toInt ≤ (1 : Int))) := by
  intro n
  induction n with
  | zero => intro x1 x2 x3 x4 g0 g1 g2 g3  hm; exfalso; omega
  | succ n ih =>
    intro x1 x2 x3 x4 g0 g1 g2 g3  hm
    exact t_isNameThere_5s   (N5 := n)  ih hI hA g0 g1 g2 g3  (by omega)
theorem t_isNameThere_0  {I : Nat → Int32} {A : Nat → Nat → Int32} {x1 : Int32} {x2 : Int32} (hI : TJ I) (hA : TK A) (r_x1 : (0 : Int) ≤ x1.toInt ∧ x1.toInt ≤ (1 : Int)) (r_x2 : (0 : Int) ≤ x2.toInt ∧ x2.toInt ≤ (7 : Int)) : Ok (f_isNameThere_0 x1 x2 I A) (fun o => o.2 = (I, A) ∧ ((0 : Int) ≤ o.1.toInt ∧ o.1.toInt ≤ (1 : Int))) := by
  unfold f_isNameThere_0
  exact t_isNameThere_5    hI hA mFuel x1 x2 (0 : Int32) (0 : Int32)  r_x1 r_x2 (by decide) (by decide) (by show _ < ((200000 : Nat) : Int); have z0 : (0 : Int32).toInt = 0 := rfl; have z1 : (0 : Int32).toInt = 0 := rfl; omega)
theorem t_isNameThere  {I : Nat → Int32} {A : Nat → Nat → Int32} {x1 : Int32} {x2 : Int32} (hI : TJ I) (hA : TK A) (r_x1 : (0 : Int) ≤ x1.toInt ∧ x1.toInt ≤ (1 : Int)) (r_x2 : (0 : Int) ≤ x2.toInt ∧ x2.toInt ≤ (7 : Int)) : Ok (f_isNameThere x1 x2 I A) (fun o => o.2 = (I, A) ∧ ((0 : Int) ≤ o.1.toInt ∧ o.1.toInt ≤ (1 : Int))) := t_isNameThere_0  hI hA r_x1 r_x2
theorem t_start_2s  {I : Nat → Int32} {A : Nat → Nat → Int32} {self2 : Int32 → Int32 → (Nat → Int32) → (Nat → Nat → Int32) → Option (Int32 × MS)} {N2 : Nat} (hself2 : ∀ (x1 : Int32) (x2 : Int32) (I : Nat → Int32) (A : Nat → Nat → Int32), TJ I → TK A → ((0 : Int) ≤ x1.toInt ∧ x1.toInt ≤ (1 : Int)) → ((0 : Int) ≤ x2.toInt ∧ x2.toInt ≤ (64 : Int)) → (0 ≤ (I 29).toInt ∧ (I 29).toInt ≤ 999) → (65 - x2.toInt) < (N2 : Int) → Ok (self2 x1 x2 I A) (fun o => TJ o.2.1 ∧ TK o.2.2 ∧ True)) {x1 : Int32} {x2 : Int32} (hI : TJ I) (hA : TK A) (r_x1 : (0 : Int) ≤ x1.toInt ∧ x1.toInt ≤ (1 : Int)) (r_x2 : (0 : Int) ≤ x2.toInt ∧ x2.toInt ≤ (64 : Int)) (q0 : 0 ≤ (I 29).toInt ∧ (I 29).toInt ≤ 999) (m2 : (65 - x2.toInt) ≤ (N2 : Int)) : Ok (f_start_2s self2 x1 x2 I A) (fun o => TJ o.2.1 ∧ TK o.2.2 ∧ True) := by
  unfold f_start_2s
  have b25 := tI_25 hI
  refine ok_if (fun c72 => ?_) (fun c72 => ?_)
  ·
    replace c72 := ti_leP c72 (show (64 : Int32).toInt = 64 from rfl) rfl
    refine ok_bnd (fun v1 e73 => ?_)
    have t_v1 : v1.toInt = 5 * x1.toInt := ti_mul e73 (show (5 : Int32).toInt = 5 from rfl) rfl (by omega) (by omega)
    refine ok_chk (ti_in (by omega) (by omega)) ?_
    refine ok_bnd (fun A2 e74 => ?_)
    have b_I_25 := tI_25 hI
    have n_A2 := ti_nc (a := v1) (by omega)
    have hA_A2 : TK A2 := by rw [e74]; exact tk_17 hA (fun h => by omega) (fun h => by omega)
    refine ok_bnd (fun v3 e75 => ?_)
    have t_v3 : v3.toInt = 5 * x1.toInt := ti_mul e75 (show (5 : Int32).toInt = 5 from rfl) rfl (by omega) (by omega)
    refine ok_bnd (fun v4 e76 => ?_)
    have t_v4 : v4.toInt = v3.toInt + 1 := ti_add e76 rfl (show (1 : Int32).toInt = 1 from rfl) (by omega) (by omega)
    refine ok_chk (ti_in (by omega) (by omega)) ?_
    refine ok_bnd (fun A5 e77 => ?_)
    have n_A5 := ti_nc (a := v4) (by omega)
    have hA_A5 : TK A5 := by rw [e77]; exact tk_17 hA_A2 (fun h => by omega) (fun h => by omega)
    refine ok_bnd (fun v6 e78 => ?_)
    have t_v6 : v6.toInt = 5 * x1.toInt := ti_mul e78 (show (5 : Int32).toInt = 5 from rfl) rfl (by omega) (by omega)
    refine ok_bnd (fun v7 e79 => ?_)
    have t_v7 : v7.toInt = v6.toInt + 2 := ti_add e79 rfl (show (2 : Int32).toInt = 2 from rfl) (by omega) (by omega)
    refine ok_chk (ti_in (by omega) (by omega)) ?_
    refine ok_bnd (fun A8 e80 => ?_)
    have n_A8 := ti_nc (a := v7) (by omega)
    have hA_A8 : TK A8 := by rw [e80]; exact tk_17 hA_A5 (fun h => by omega) (fun h => by omega)
    refine ok_bnd (fun v9 e81 => ?_)
    have t_v9 : v9.toInt = 5 * x1.toInt := ti_mul e81 (show (5 : Int32).toInt = 5 from rfl) rfl (by omega) (by omega)
    refine ok_bnd (fun v10 e82 => ?_)
    have t_v10 : v10.toInt = v9.toInt + 3 := ti_add e82 rfl (show (3 : Int32).toInt = 3 from rfl) (by omega) (by omega)
    refine ok_chk (ti_in (by omega) (by omega)) ?_
    refine ok_bnd (fun A11 e83 => ?_)
    have n_A11 := ti_nc (a := v10) (by omega)
    have hA_A11 : TK A11 := by rw [e83]; exact tk_17 hA_A8 (fun h => by omega) (fun h => by omega)
    refine ok_bnd (fun v12 e84 => ?_)
    have t_v12 : v12.toInt = 5 * x1.toInt := ti_mul e84 (show (5 : Int32).toInt = 5 from rfl) rfl (by omega) (by omega)
    refine ok_bnd (fun v13 e85 => ?_)
    have t_v13 : v13.toInt = v12.toInt + 4 := ti_add e85 rfl (show (4 : Int32).toInt = 4 from rfl) (by omega) (by omega)
    refine ok_chk (ti_in (by omega) (by omega)) ?_
    refine ok_bnd (fun A14 e86 => ?_)
    have b_I_29 := tI_29 hI
    have n_A14 := ti_nc (a := v13) (by omega)
    have hA_A14 : TK A14 := by rw [e86]; exact tk_17 hA_A11 (fun h => by omega) (fun h => by omega)
    exact ok_ret ⟨hI, hA_A14, trivial⟩
  ·
    replace c72 := ti_leN c72 (show (64 : Int32).toInt = 64 from rfl) rfl
    refine ok_bnd (fun v15 e87 => ?_)
    have t_v15 : v15.toInt = 64 * x1.toInt := ti_mul e87 (show (64 : Int32).toInt = 64 from rfl) rfl (by omega) (by omega)
    refine ok_bnd (fun v16 e88 => ?_)
    have t_v16 : v16.toInt = v15.toInt + x2.toInt := ti_add e88 rfl rfl (by omega) (by omega)
    refine ok_chk (ti_in (by omega) (by omega)) ?_
    refine ok_bnd (fun v17 e89 => ?_)
    refine ok_chk (ti_in (by omega) (by omega)) ?_
    refine ok_bnd (fun A18 e90 => ?_)
    have hA_A18 : TK A18 := e90.symm ▸ tk_w hA (j := 16) rfl
    refine ok_bnd (fun v19 e91 => ?_)
    have t_v19 : v19.toInt = x2.toInt + 1 := ti_add e91 rfl (show (1 : Int32).toInt = 1 from rfl) (by omega) (by omega)
    exact hself2 x1 v19 I A18 hI hA_A18 r_x1 (by omega) q0 (by omega)
theorem t_start_2   : ∀ (n : Nat) (x1 : Int32) (x2 : Int32) (I : Nat → Int32) (A : Nat → Nat → Int32), TJ I → TK A → ((0 : Int) ≤ x1.toInt ∧ x1.toInt ≤ (1 : Int)) → ((0 : Int) ≤ x2.toInt ∧ x2.toInt ≤ (64 : Int)) → (0 ≤ (I 29).toInt ∧ (I 29).toInt ≤ 999) → (65 - x2.toInt) < (n : Int) → Ok (f_start_2  n x1 x2 I A) (fun o => TJ o.2.1 ∧ TK o.2.2 ∧ True) := by
  intro n
  induction n with
  | zero => intro x1 x2 I A hI hA g0 g1 g2  hm; exfalso; omega
  | succ n ih =>
    intro x1 x2 I A hI hA g0 g1 g2  hm
    exact t_start_2s   (N2 := n)  ih hI hA g0 g1 g2  (by omega)
theorem t_start_0  {I : Nat → Int32} {A : Nat → Nat → Int32} {x1 : Int32} (hI : TJ I) (hA : TK A) (r_x1 : (0 : Int) ≤ x1.toInt ∧ x1.toInt ≤ (1 : Int)) (q0 : 0 ≤ (I 29).toInt ∧ (I 29).toInt ≤ 999) : Ok (f_start_0 x1 I A) (fun o => TJ o.2.1 ∧ TK o.2.2 ∧ True) := by
  unfold f_start_0
  exact t_start_2     mFuel x1 (0 : Int32) I A hI hA r_x1 (by decide) q0 (by show _ < ((200000 : Nat) : Int); have z0 : (0 : Int32).toInt = 0 := rfl; omega)
theorem t_start  {I : Nat → Int32} {A : Nat → Nat → Int32} {x1 : Int32} (hI : TJ I) (hA : TK A) (r_x1 : (0 : Int) ≤ x1.toInt ∧ x1.toInt ≤ (1 : Int)) (q0 : 0 ≤ (I 29).toInt ∧ (I 29).toInt ≤ 999) : Ok (f_start x1 I A) (fun o => TJ o.2.1 ∧ TK o.2.2 ∧ True) := t_start_0  hI hA r_x1 q0
theorem t_usual_83  {I : Nat → Int32} {A : Nat → Nat → Int32} {self23 : Int32 → Int32 → (Nat → Int32) → (Nat → Nat → Int32) → Option (Int32 × MS)} {N23 : Nat} (hself23 : ∀ (x1 : Int32) (x2 : Int32) (I : Nat → Int32) (A : Nat → Nat → Int32), TJ I → TK A → ((0 : Int) ≤ x1.toInt ∧ x1.toInt ≤ (1 : Int)) → ((0 : Int) ≤ x2.toInt ∧ x2.toInt ≤ (8 : Int)) → (9 - x2.toInt) < (N23 : Int) → Ok (self23 x1 x2 I A) (fun o => TJ o.2.1 ∧ TK o.2.2 ∧ ((o.2.1 29).toInt = 1))) {x1 : Int32} {x2 : Int32} {t0 : Int32} (hI : TJ I) (hA : TK A) (r_x1 : (0 : Int) ≤ x1.toInt ∧ x1.toInt ≤ (1 : Int)) (r_x2 : (0 : Int) ≤ x2.toInt ∧ x2.toInt ≤ (7 : Int)) (r_t0 : (2 : Int) ≤ t0.toInt ∧ t0.toInt ≤ (6 : Int)) (m23 : (9 - x2.toInt) ≤ (N23 : Int)) : Ok (f_usual_83 self23 x1 x2 t0 I A) (fun o => TJ o.2.1 ∧ TK o.2.2 ∧ ((o.2.1 29).toInt = 1)) := by
  unfold f_usual_83
  have b_I_29 := tI_29 hI
  refine ok_chk (ti_in (by omega) (by omega)) ?_
  refine ok_bnd (fun A1 e92 => ?_)
  have hA_A1 : TK A1 := e92.symm ▸ tk_w hA (j := 24) rfl
  refine ok_bnd (fun v2 e93 => ?_)
  have t_v2 : v2.toInt = 8 + x2.toInt := ti_add e93 (show (8 : Int32).toInt = 8 from rfl) rfl (by omega) (by omega)
  refine ok_chk (ti_in (by omega) (by omega)) ?_
  refine ok_bnd (fun A3 e94 => ?_)
  have hA_A3 : TK A3 := e94.symm ▸ tk_w hA_A1 (j := 24) rfl
  refine ok_bnd (fun v4 e95 => ?_)
  have t_v4 : v4.toInt = 48 + x2.toInt := ti_add e95 (show (48 : Int32).toInt = 48 from rfl) rfl (by omega) (by omega)
  refine ok_chk (ti_in (by omega) (by omega)) ?_
  refine ok_bnd (fun A5 e96 => ?_)
  have hA_A5 : TK A5 := e96.symm ▸ tk_w hA_A3 (j := 24) rfl
  refine ok_bnd (fun v6 e97 => ?_)
  have t_v6 : v6.toInt = 56 + x2.toInt := ti_add e97 (show (56 : Int32).toInt = 56 from rfl) rfl (by omega) (by omega)
  refine ok_bnd (fun v7 e98 => ?_)
  have t_v7 : v7.toInt = t0.toInt + 8 := ti_add e98 rfl (show (8 : Int32).toInt = 8 from rfl) (by omega) (by omega)
  refine ok_chk (ti_in (by omega) (by omega)) ?_
  refine ok_bnd (fun A8 e99 => ?_)
  have hA_A8 : TK A8 := e99.symm ▸ tk_w hA_A5 (j := 24) rfl
  refine ok_bnd (fun v9 e100 => ?_)
  have t_v9 : v9.toInt = x2.toInt + 1 := ti_add e100 rfl (show (1 : Int32).toInt = 1 from rfl) (by omega) (by omega)
  exact hself23 x1 v9 I A8 hI hA_A8 r_x1 (by omega) (by omega)
theorem t_usual_23s  {I : Nat → Int32} {A : Nat → Nat → Int32} {self23 : Int32 → Int32 → (Nat → Int32) → (Nat → Nat → Int32) → Option (Int32 × MS)} {N23 : Nat} (hself23 : ∀ (x1 : Int32) (x2 : Int32) (I : Nat → Int32) (A : Nat → Nat → Int32), TJ I → TK A → ((0 : Int) ≤ x1.toInt ∧ x1.toInt ≤ (1 : Int)) → ((0 : Int) ≤ x2.toInt ∧ x2.toInt ≤ (8 : Int)) → (9 - x2.toInt) < (N23 : Int) → Ok (self23 x1 x2 I A) (fun o => TJ o.2.1 ∧ TK o.2.2 ∧ ((o.2.1 29).toInt = 1))) {x1 : Int32} {x2 : Int32} (hI : TJ I) (hA : TK A) (r_x1 : (0 : Int) ≤ x1.toInt ∧ x1.toInt ≤ (1 : Int)) (r_x2 : (0 : Int) ≤ x2.toInt ∧ x2.toInt ≤ (8 : Int)) (m23 : (9 - x2.toInt) ≤ (N23 : Int)) : Ok (f_usual_23s self23 x1 x2 I A) (fun o => TJ o.2.1 ∧ TK o.2.2 ∧ ((o.2.1 29).toInt = 1)) := by
  unfold f_usual_23s
  have b_I_29 := tI_29 hI
  refine ok_if (fun c101 => ?_) (fun c101 => ?_)
  ·
    replace c101 := ti_leP c101 (show (8 : Int32).toInt = 8 from rfl) rfl
    refine ok_bnd (fun I1 e102 => ?_)
    have hI_I1 : TJ I1 := e102.symm ▸ tj_u hI (k := 25) (show (0 : Int) ≤ (0 : Int32).toInt from (by decide)) (show (0 : Int32).toInt ≤ (1 : Int) from (by decide))
    have : (I1 29).toInt = (I 29).toInt := by rw [e102]; rfl
    refine ok_bnd (fun I2 e103 => ?_)
    have hI_I2 : TJ I2 := e103.symm ▸ tj_w hI_I1 (k := 26) rfl
    have : (I2 29).toInt = (I1 29).toInt := by rw [e103]; rfl
    refine ok_bnd (fun I3 e104 => ?_)
    have hI_I3 : TJ I3 := e104.symm ▸ tj_w hI_I2 (k := 27) rfl
    have : (I3 29).toInt = (I2 29).toInt := by rw [e104]; rfl
    refine ok_bnd (fun I4 e105 => ?_)
    have hI_I4 : TJ I4 := e105.symm ▸ tj_w hI_I3 (k := 28) rfl
    have : (I4 29).toInt = (I3 29).toInt := by rw [e105]; rfl
    refine ok_bnd (fun I5 e106 => ?_)
    have hI_I5 : TJ I5 := e106.symm ▸ tj_u hI_I4 (k := 29) (show (-1 : Int) ≤ (1 : Int32).toInt from (by decide)) (show (1 : Int32).toInt ≤ (2000 : Int) from (by decide))
    have : (I5 29).toInt = 1 := by rw [e106]; exact (show (1 : Int32).toInt = 1 from rfl)
    have b_I5_29 := tI_29 hI_I5
    obtain ⟨⟨r6, Ic6, Ac6⟩, h_r6, hI_Ic6, hA_Ac6, -⟩ := t_start (x1 := x1)  hI_I5 hA r_x1 (by omega)
    replace hI_Ic6 : TJ Ic6 := hI_Ic6
    replace hA_Ac6 : TK Ac6 := hA_Ac6
    refine ok_clR h_r6 ?_
    have f_r6 := fw_start h_r6
    have : (Ic6 29).toInt = (I5 29).toInt := congrArg Int32.toInt (f_r6.1 29 (by decide))
    exact ok_ret ⟨hI_Ic6, hA_Ac6, (by show (Ic6 29).toInt = 1; have z : (0 : Int32).toInt = 0 := rfl; omega)⟩
  ·
    replace c101 := ti_leN c101 (show (8 : Int32).toInt = 8 from rfl) rfl
    refine ok_if (fun c107 => ?_) (fun c107 => ?_)
    ·
      replace c107 := ti_eqP c107 rfl (show (0 : Int32).toInt = 0 from rfl)
      unfold f_usual_39
      exact t_usual_83   hself23 (x1 := x1) (x2 := x2) (t0 := (4 : Int32)) hI hA r_x1 (by omega) (by decide) m23
    ·
      replace c107 := ti_eqN c107 rfl (show (0 : Int32).toInt = 0 from rfl)
      refine ok_if (fun c108 => ?_) (fun c108 => ?_)
      ·
        replace c108 := ti_eqP c108 rfl (show (7 : Int32).toInt = 7 from rfl)
        unfold f_usual_39
        exact t_usual_83   hself23 (x1 := x1) (x2 := x2) (t0 := (4 : Int32)) hI hA r_x1 (by omega) (by decide) m23
      ·
        replace c108 := ti_eqN c108 rfl (show (7 : Int32).toInt = 7 from rfl)
        refine ok_if (fun c109 => ?_) (fun c109 => ?_)
        ·
          replace c109 := ti_eqP c109 rfl (show (1 : Int32).toInt = 1 from rfl)
          unfold f_usual_54
          exact t_usual_83   hself23 (x1 := x1) (x2 := x2) (t0 := (2 : Int32)) hI hA r_x1 (by omega) (by decide) m23
        ·
          replace c109 := ti_eqN c109 rfl (show (1 : Int32).toInt = 1 from rfl)
          refine ok_if (fun c110 => ?_) (fun c110 => ?_)
          ·
            replace c110 := ti_eqP c110 rfl (show (6 : Int32).toInt = 6 from rfl)
            unfold f_usual_54
            exact t_usual_83   hself23 (x1 := x1) (x2 := x2) (t0 := (2 : Int32)) hI hA r_x1 (by omega) (by decide) m23
          ·
            replace c110 := ti_eqN c110 rfl (show (6 : Int32).toInt = 6 from rfl)
            refine ok_if (fun c111 => ?_) (fun c111 => ?_)
            ·
              replace c111 := ti_eqP c111 rfl (show (2 : Int32).toInt = 2 from rfl)
              unfold f_usual_68
              exact t_usual_83   hself23 (x1 := x1) (x2 := x2) (t0 := (3 : Int32)) hI hA r_x1 (by omega) (by decide) m23
            ·
              replace c111 := ti_eqN c111 rfl (show (2 : Int32).toInt = 2 from rfl)
              refine ok_if (fun c112 => ?_) (fun c112 => ?_)
              ·
                replace c112 := ti_eqP c112 rfl (show (5 : Int32).toInt = 5 from rfl)
                unfold f_usual_68
                exact t_usual_83   hself23 (x1 := x1) (x2 := x2) (t0 := (3 : Int32)) hI hA r_x1 (by omega) (by decide) m23
              ·
                replace c112 := ti_eqN c112 rfl (show (5 : Int32).toInt = 5 from rfl)
                refine ok_if (fun c113 => ?_) (fun c113 => ?_)
                ·
                  replace c113 := ti_eqP c113 rfl (show (3 : Int32).toInt = 3 from rfl)
                  exact t_usual_83   hself23 (x1 := x1) (x2 := x2) (t0 := (5 : Int32)) hI hA r_x1 (by omega) (by decide) m23
                ·
                  replace c113 := ti_eqN c113 rfl (show (3 : Int32).toInt = 3 from rfl)
                  exact t_usual_83   hself23 (x1 := x1) (x2 := x2) (t0 := (6 : Int32)) hI hA r_x1 (by omega) (by decide) m23
theorem t_usual_23   : ∀ (n : Nat) (x1 : Int32) (x2 : Int32) (I : Nat → Int32) (A : Nat → Nat → Int32), TJ I → TK A → ((0 : Int) ≤ x1.toInt ∧ x1.toInt ≤ (1 : Int)) → ((0 : Int) ≤ x2.toInt ∧ x2.toInt ≤ (8 : Int)) → (9 - x2.toInt) < (n : Int) → Ok (f_usual_23  n x1 x2 I A) (fun o => TJ o.2.1 ∧ TK o.2.2 ∧ ((o.2.1 29).toInt = 1)) := by
  intro n
  induction n with
  | zero => intro x1 x2 I A hI hA g0 g1  hm; exfalso; omega
  | succ n ih =>
    intro x1 x2 I A hI hA g0 g1  hm
    exact t_usual_23s   (N23 := n)  ih hI hA g0 g1  (by omega)
theorem t_usual_2s  {I : Nat → Int32} {A : Nat → Nat → Int32} {self2 : Int32 → Int32 → (Nat → Int32) → (Nat → Nat → Int32) → Option (Int32 × MS)} {N2 : Nat} (hself2 : ∀ (x1 : Int32) (x2 : Int32) (I : Nat → Int32) (A : Nat → Nat → Int32), TJ I → TK A → ((0 : Int) ≤ x1.toInt ∧ x1.toInt ≤ (1 : Int)) → ((0 : Int) ≤ x2.toInt ∧ x2.toInt ≤ (64 : Int)) → (65 - x2.toInt) < (N2 : Int) → Ok (self2 x1 x2 I A) (fun o => TJ o.2.1 ∧ TK o.2.2 ∧ ((o.2.1 29).toInt = 1))) {x1 : Int32} {x2 : Int32} (hI : TJ I) (hA : TK A) (r_x1 : (0 : Int) ≤ x1.toInt ∧ x1.toInt ≤ (1 : Int)) (r_x2 : (0 : Int) ≤ x2.toInt ∧ x2.toInt ≤ (64 : Int)) (m2 : (65 - x2.toInt) ≤ (N2 : Int)) : Ok (f_usual_2s self2 x1 x2 I A) (fun o => TJ o.2.1 ∧ TK o.2.2 ∧ ((o.2.1 29).toInt = 1)) := by
  unfold f_usual_2s
  have b_I_29 := tI_29 hI
  refine ok_if (fun c114 => ?_) (fun c114 => ?_)
  ·
    replace c114 := ti_leP c114 (show (64 : Int32).toInt = 64 from rfl) rfl
    exact t_usual_23     mFuel x1 (0 : Int32) I A hI hA r_x1 (by decide) (by show _ < ((200000 : Nat) : Int); have z0 : (0 : Int32).toInt = 0 := rfl; omega)
  ·
    replace c114 := ti_leN c114 (show (64 : Int32).toInt = 64 from rfl) rfl
    refine ok_chk (ti_in (by omega) (by omega)) ?_
    refine ok_bnd (fun A1 e115 => ?_)
    have hA_A1 : TK A1 := e115.symm ▸ tk_w hA (j := 24) rfl
    refine ok_bnd (fun v2 e116 => ?_)
    have t_v2 : v2.toInt = x2.toInt + 1 := ti_add e116 rfl (show (1 : Int32).toInt = 1 from rfl) (by omega) (by omega)
    exact hself2 x1 v2 I A1 hI hA_A1 r_x1 (by omega) (by omega)
theorem t_usual_2   : ∀ (n : Nat) (x1 : Int32) (x2 : Int32) (I : Nat → Int32) (A : Nat → Nat → Int32), TJ I → TK A → ((0 : Int) ≤ x1.toInt ∧ x1.toInt ≤ (1 : Int)) → ((0 : Int) ≤ x2.toInt ∧ x2.toInt ≤ (64 : Int)) → (65 - x2.toInt) < (n : Int) → Ok (f_usual_2  n x1 x2 I A) (fun o => TJ o.2.1 ∧ TK o.2.2 ∧ ((o.2.1 29).toInt = 1)) := by
  intro n
  induction n with
  | zero => intro x1 x2 I A hI hA g0 g1  hm; exfalso; omega
  | succ n ih =>
    intro x1 x2 I A hI hA g0 g1  hm
    exact t_usual_2s   (N2 := n)  ih hI hA g0 g1  (by omega)
theorem t_usual_0  {I : Nat → Int32} {A : Nat → Nat → Int32} {x1 : Int32} (hI : TJ I) (hA : TK A) (r_x1 : (0 : Int) ≤ x1.toInt ∧ x1.toInt ≤ (1 : Int)) : Ok (f_usual_0 x1 I A) (fun o => TJ o.2.1 ∧ TK o.2.2 ∧ ((o.2.1 29).toInt = 1)) := by
  unfold f_usual_0
  have b_I_29 := tI_29 hI
  exact t_usual_2     mFuel x1 (0 : Int32) I A hI hA r_x1 (by decide) (by show _ < ((200000 : Nat) : Int); have z0 : (0 : Int32).toInt = 0 := rfl; omega)
theorem t_usual  {I : Nat → Int32} {A : Nat → Nat → Int32} {x1 : Int32} (hI : TJ I) (hA : TK A) (r_x1 : (0 : Int) ≤ x1.toInt ∧ x1.toInt ≤ (1 : Int)) : Ok (f_usual x1 I A) (fun o => TJ o.2.1 ∧ TK o.2.2 ∧ ((o.2.1 29).toInt = 1)) := t_usual_0  hI hA r_x1
theorem t_clearNode_0  {I : Nat → Int32} {A : Nat → Nat → Int32} {x1 : Int32} (hI : TJ I) (hA : TK A) (r_x1 : (0 : Int) ≤ x1.toInt ∧ x1.toInt ≤ (601 : Int)) : Ok (f_clearNode_0 x1 I A) (fun o => TJ o.2.1 ∧ TK o.2.2 ∧ True) := by
  unfold f_clearNode_0
  refine ok_chk (ti_in (by omega) (by omega)) ?_
  refine ok_bnd (fun A1 e117 => ?_)
  have hA_A1 : TK A1 := e117.symm ▸ tk_u hA (j := 10) (show (-1 : Int) ≤ (-1 : Int32).toInt from (by decide)) (show (-1 : Int32).toInt ≤ (300 : Int) from (by decide))
  refine ok_chk (ti_in (by omega) (by omega)) ?_
  refine ok_bnd (fun A2 e118 => ?_)
  have hA_A2 : TK A2 := e118.symm ▸ tk_u hA_A1 (j := 11) (show (-1 : Int) ≤ (-1 : Int32).toInt from (by decide)) (show (-1 : Int32).toInt ≤ (300 : Int) from (by decide))
  refine ok_chk (ti_in (by omega) (by omega)) ?_
  refine ok_bnd (fun A3 e119 => ?_)
  have hA_A3 : TK A3 := e119.symm ▸ tk_u hA_A2 (j := 12) (show (0 : Int) ≤ (0 : Int32).toInt from (by decide)) (show (0 : Int32).toInt ≤ (4 : Int) from (by decide))
  refine ok_chk (ti_in (by omega) (by omega)) ?_
  refine ok_bnd (fun A4 e120 => ?_)
  have hA_A4 : TK A4 := e120.symm ▸ tk_u hA_A3 (j := 14) (show (0 : Int) ≤ (0 : Int32).toInt from (by decide)) (show (0 : Int32).toInt ≤ (200 : Int) from (by decide))
  exact ok_ret ⟨hI, hA_A4, trivial⟩
theorem t_clearNode  {I : Nat → Int32} {A : Nat → Nat → Int32} {x1 : Int32} (hI : TJ I) (hA : TK A) (r_x1 : (0 : Int) ≤ x1.toInt ∧ x1.toInt ≤ (601 : Int)) : Ok (f_clearNode x1 I A) (fun o => TJ o.2.1 ∧ TK o.2.2 ∧ True) := t_clearNode_0  hI hA r_x1
theorem t_readTag_124 {aa : Int} {I : Nat → Int32} {A : Nat → Nat → Int32} {self71 : Int32 → Int32 → Int32 → Int32 → Int32 → (Nat → Int32) → (Nat → Nat → Int32) → Option (Int32 × MS)} {N71 : Nat} (hself71 : ∀ (x1 : Int32) (x2 : Int32) (x3 : Int32) (x4 : Int32) (x5 : Int32) (I : Nat → Int32) (A : Nat → Nat → Int32), TJ I → TK A → ((0 : Int) ≤ x1.toInt ∧ x1.toInt ≤ (1 : Int)) → ((0 : Int) ≤ x2.toInt ∧ x2.toInt ≤ (2000 : Int)) → ((0 : Int) ≤ x3.toInt ∧ x3.toInt ≤ (8 : Int)) → ((0 : Int) ≤ x4.toInt ∧ x4.toInt ≤ (1 : Int)) → ((0 : Int) ≤ x5.toInt ∧ x5.toInt ≤ (2100 : Int)) → ((I 37).toInt ≤ (I 1).toInt) → (aa < (I 37).toInt) → ((I 29).toInt ≤ 1999) → (x5.toInt ≤ (I 37).toInt) → (x4.toInt = 0 → x3.toInt ≤ 7) → (cE A (x1).toNatClampNeg x3.toInt) → ((I 1).toInt - (I 37).toInt) < (N71 : Int) → Ok (self71 x1 x2 x3 x4 x5 I A) (fun o => TJ o.2.1 ∧ TK o.2.2 ∧ ((0 : Int) ≤ o.1.toInt ∧ o.1.toInt ≤ (92100 : Int)) ∧ ((o.2.1 37).toInt ≤ (o.2.1 1).toInt ∧ aa < (o.2.1 37).toInt) ∧ ((o.2.1 29).toInt ≤ 1999))) {x1 : Int32} {x2 : Int32} {x3 : Int32} {x4 : Int32} {x5 : Int32} (hI : TJ I) (hA : TK A) (r_x1 : (0 : Int) ≤ x1.toInt ∧ x1.toInt ≤ (1 : Int)) (r_x2 : (0 : Int) ≤ x2.toInt ∧ x2.toInt ≤ (2000 : Int)) (r_x3 : (0 : Int) ≤ x3.toInt ∧ x3.toInt ≤ (8 : Int)) (r_x4 : (0 : Int) ≤ x4.toInt ∧ x4.toInt ≤ (1 : Int)) (r_x5 : (0 : Int) ≤ x5.toInt ∧ x5.toInt ≤ (2100 : Int)) (q0 : (I 37).toInt < (I 1).toInt) (q1 : aa < (I 37).toInt) (q2 : (I 29).toInt ≤ 1999) (q3 : x5.toInt ≤ (I 37).toInt) (q4 : x4.toInt = 0 → x3.toInt ≤ 7) (q5 : cE A (x1).toNatClampNeg x3.toInt) (m71 : ((I 1).toInt - (I 37).toInt) ≤ (N71 : Int)) : Ok (f_readTag_124 self71 x1 x2 x3 x4 x5 I A) (fun o => TJ o.2.1 ∧ TK o.2.2 ∧ ((0 : Int) ≤ o.1.toInt ∧ o.1.toInt ≤ (92100 : Int)) ∧ ((o.2.1 37).toInt ≤ (o.2.1 1).toInt ∧ aa < (o.2.1 37).toInt) ∧ ((o.2.1 29).toInt ≤ 1999)) := by
  unfold f_readTag_124
  have b_I_1 := tI_1 hI
  have b_I_37 := tI_37 hI
  have b_I_29 := tI_29 hI
  refine ok_bnd (fun v1 e121 => ?_)
  have t_v1 : v1.toInt = x5.toInt + 1 := ti_add e121 rfl (show (1 : Int32).toInt = 1 from rfl) (by omega) (by omega)
  refine ok_bnd (fun v2 e122 => ?_)
  have t_v2 : v2.toInt = (I 37).toInt + 1 := ti_add e122 rfl (show (1 : Int32).toInt = 1 from rfl) (by omega) (by omega)
  refine ok_bnd (fun I3 e123 => ?_)
  have hI_I3 : TJ I3 := e123.symm ▸ tj_u hI (k := 37) (show (0 : Int) ≤ v2.toInt from (by omega)) (show v2.toInt ≤ (2100 : Int) from (by omega))
  have : (I3 1).toInt = (I 1).toInt := by rw [e123]; rfl
  have : (I3 37).toInt = v2.toInt := by rw [e123]; exact rfl
  have : (I3 29).toInt = (I 29).toInt := by rw [e123]; rfl
  have b_I3_1 := tI_1 hI_I3
  have b_I3_37 := tI_37 hI_I3
  have b_I3_29 := tI_29 hI_I3
  exact hself71 x1 x2 x3 x4 v1 I3 A hI_I3 hA r_x1 r_x2 r_x3 r_x4 (by omega) (by omega) (by omega) (by omega) (by omega) q4 q5 (by omega)
theorem t_readTag_91 {aa : Int} {I : Nat → Int32} {A : Nat → Nat → Int32} {self71 : Int32 → Int32 → Int32 → Int32 → Int32 → (Nat → Int32) → (Nat → Nat → Int32) → Option (Int32 × MS)} {N71 : Nat} (hself71 : ∀ (x1 : Int32) (x2 : Int32) (x3 : Int32) (x4 : Int32) (x5 : Int32) (I : Nat → Int32) (A : Nat → Nat → Int32), TJ I → TK A → ((0 : Int) ≤ x1.toInt ∧ x1.toInt ≤ (1 : Int)) → ((0 : Int) ≤ x2.toInt ∧ x2.toInt ≤ (2000 : Int)) → ((0 : Int) ≤ x3.toInt ∧ x3.toInt ≤ (8 : Int)) → ((0 : Int) ≤ x4.toInt ∧ x4.toInt ≤ (1 : Int)) → ((0 : Int) ≤ x5.toInt ∧ x5.toInt ≤ (2100 : Int)) → ((I 37).toInt ≤ (I 1).toInt) → (aa < (I 37).toInt) → ((I 29).toInt ≤ 1999) → (x5.toInt ≤ (I 37).toInt) → (x4.toInt = 0 → x3.toInt ≤ 7) → (cE A (x1).toNatClampNeg x3.toInt) → ((I 1).toInt - (I 37).toInt) < (N71 : Int) → Ok (self71 x1 x2 x3 x4 x5 I A) (fun o => TJ o.2.1 ∧ TK o.2.2 ∧ ((0 : Int) ≤ o.1.toInt ∧ o.1.toInt ≤ (92100 : Int)) ∧ ((o.2.1 37).toInt ≤ (o.2.1 1).toInt ∧ aa < (o.2.1 37).toInt) ∧ ((o.2.1 29).toInt ≤ 1999))) {x1 : Int32} {x2 : Int32} {x3 : Int32} {x4 : Int32} {x5 : Int32} (hI : TJ I) (hA : TK A) (r_x1 : (0 : Int) ≤ x1.toInt ∧ x1.toInt ≤ (1 : Int)) (r_x2 : (0 : Int) ≤ x2.toInt ∧ x2.toInt ≤ (2000 : Int)) (r_x3 : (0 : Int) ≤ x3.toInt ∧ x3.toInt ≤ (8 : Int)) (r_x4 : (0 : Int) ≤ x4.toInt ∧ x4.toInt ≤ (1 : Int)) (r_x5 : (0 : Int) ≤ x5.toInt ∧ x5.toInt ≤ (2100 : Int)) (q0 : (I 37).toInt < (I 1).toInt) (q1 : aa < (I 37).toInt) (q2 : (I 29).toInt ≤ 1999) (q3 : x5.toInt ≤ (I 37).toInt) (q4 : x4.toInt = 0 → x3.toInt ≤ 7) (q5 : cE A (x1).toNatClampNeg x3.toInt) (m71 : ((I 1).toInt - (I 37).toInt) ≤ (N71 : Int)) : Ok (f_readTag_91 self71 x1 x2 x3 x4 x5 I A) (fun o => TJ o.2.1 ∧ TK o.2.2 ∧ ((0 : Int) ≤ o.1.toInt ∧ o.1.toInt ≤ (92100 : Int)) ∧ ((o.2.1 37).toInt ≤ (o.2.1 1).toInt ∧ aa < (o.2.1 37).toInt) ∧ ((o.2.1 29).toInt ≤ 1999)) := by
  unfold f_readTag_91
  have b_I_1 := tI_1 hI
  have b_I_37 := tI_37 hI
  have b_I_29 := tI_29 hI
  refine ok_if (fun c124 => ?_) (fun c124 => ?_)
  ·
    replace c124 := ti_leP c124 (show (12 : Int32).toInt = 12 from rfl) rfl
    exact t_readTag_124 (aa := aa)  hself71 (x1 := x1) (x2 := x2) (x3 := x3) (x4 := x4) (x5 := x5) hI hA r_x1 r_x2 r_x3 r_x4 r_x5 q0 q1 q2 q3 q4 q5 m71
  ·
    replace c124 := ti_leN c124 (show (12 : Int32).toInt = 12 from rfl) rfl
    refine ok_if (fun c125 => ?_) (fun c125 => ?_)
    ·
      replace c125 := ti_eqP c125 rfl (show (0 : Int32).toInt = 0 from rfl)
      refine ok_bnd (fun v1 e126 => ?_)
      have t_v1 : v1.toInt = 96 * x1.toInt := ti_mul e126 (show (96 : Int32).toInt = 96 from rfl) rfl (by omega) (by omega)
      refine ok_bnd (fun v2 e127 => ?_)
      have t_v2 : v2.toInt = 12 * x3.toInt := ti_mul e127 (show (12 : Int32).toInt = 12 from rfl) rfl (by omega) (by omega)
      refine ok_bnd (fun v3 e128 => ?_)
      have t_v3 : v3.toInt = v1.toInt + v2.toInt := ti_add e128 rfl rfl (by omega) (by omega)
      refine ok_bnd (fun v4 e129 => ?_)
      have t_v4 : v4.toInt = v3.toInt + x5.toInt := ti_add e129 rfl rfl (by omega) (by omega)
      obtain ⟨r5, h_r5, p_r5⟩ := ro (t_look   hI hA )
      refine ok_clR h_r5 ?_
      dsimp only at p_r5
      refine ok_chk (ti_in (by omega) (by omega)) ?_
      refine ok_bnd (fun A6 e130 => ?_)
      have hA_A6 : TK A6 := e130.symm ▸ tk_n hA rfl
      have k131 : cE A6 (x1).toNatClampNeg x3.toInt := cE_fr (show A6 18 = A 18 by rw [e130]; exact va_up_ne _ _ (by decide)) q5
      exact t_readTag_124 (aa := aa)  hself71 (x1 := x1) (x2 := x2) (x3 := x3) (x4 := x4) (x5 := x5) hI hA_A6 r_x1 r_x2 r_x3 r_x4 r_x5 q0 q1 q2 q3 q4 k131 m71
    ·
      replace c125 := ti_eqN c125 rfl (show (0 : Int32).toInt = 0 from rfl)
      exact t_readTag_124 (aa := aa)  hself71 (x1 := x1) (x2 := x2) (x3 := x3) (x4 := x4) (x5 := x5) hI hA r_x1 r_x2 r_x3 r_x4 r_x5 q0 q1 q2 q3 q4 q5 m71
theorem t_readTag_370 {aa : Int} {I : Nat → Int32} {A : Nat → Nat → Int32} {x2 : Int32} (hI : TJ I) (hA : TK A) (r_x2 : (0 : Int) ≤ x2.toInt ∧ x2.toInt ≤ (2000 : Int)) (q0 : (I 37).toInt ≤ (I 1).toInt) (q1 : aa < (I 37).toInt) (q2 : (I 29).toInt ≤ 1999) : Ok (f_readTag_370 x2 I A) (fun o => TJ o.2.1 ∧ TK o.2.2 ∧ ((0 : Int) ≤ o.1.toInt ∧ o.1.toInt ≤ (92100 : Int)) ∧ ((o.2.1 37).toInt ≤ (o.2.1 1).toInt ∧ aa < (o.2.1 37).toInt) ∧ ((o.2.1 29).toInt ≤ 1999)) := by
  unfold f_readTag_370
  have b_I_1 := tI_1 hI
  have b_I_37 := tI_37 hI
  have b_I_29 := tI_29 hI
  obtain ⟨r1, h_r1, p_r1⟩ := ro (t_fault (x0 := (2 : Int32)) (x1 := x2)  hI hA (by decide) (by omega))
  refine ok_clR h_r1 ?_
  dsimp only at p_r1
  exact ok_ret ⟨hI, hA, (show (0 : Int) ≤ r1.toInt ∧ r1.toInt ≤ (92100 : Int) from (by omega)), (by show (I 37).toInt ≤ (I 1).toInt ∧ aa < (I 37).toInt; omega), q2⟩
theorem t_readTag_457 {aa : Int} {I : Nat → Int32} {A : Nat → Nat → Int32} {x1 : Int32} (hI : TJ I) (hA : TK A) (r_x1 : (0 : Int) ≤ x1.toInt ∧ x1.toInt ≤ (1 : Int)) (q0 : (I 37).toInt ≤ (I 1).toInt) (q1 : aa < (I 37).toInt) (q2 : (I 29).toInt ≤ 1999) (q3 : (A 18 (x1).toNatClampNeg).toInt ≤ 7) : Ok (f_readTag_457 x1 I A) (fun o => TJ o.2.1 ∧ TK o.2.2 ∧ ((0 : Int) ≤ o.1.toInt ∧ o.1.toInt ≤ (92100 : Int)) ∧ ((o.2.1 37).toInt ≤ (o.2.1 1).toInt ∧ aa < (o.2.1 37).toInt) ∧ ((o.2.1 29).toInt ≤ 1999)) := by
  unfold f_readTag_457
  have b_I_1 := tI_1 hI
  have b_I_37 := tI_37 hI
  have b_I_29 := tI_29 hI
  refine ok_chk (ti_in (by omega) (by omega)) ?_
  refine ok_bnd (fun v1 e132 => ?_)
  have b_v1 := tA_18 hA ((x1).toNatClampNeg)
  rw [← e132] at b_v1
  have l1 : v1.toInt ≤ 7 := by rw [e132]; exact q3
  refine ok_bnd (fun v2 e133 => ?_)
  have t_v2 : v2.toInt = v1.toInt + 1 := ti_add e133 rfl (show (1 : Int32).toInt = 1 from rfl) (by omega) (by omega)
  refine ok_chk (ti_in (by omega) (by omega)) ?_
  refine ok_bnd (fun A3 e134 => ?_)
  have hA_A3 : TK A3 := e134.symm ▸ tk_u hA (j := 18) (show (0 : Int) ≤ v2.toInt from (by omega)) (show v2.toInt ≤ (8 : Int) from (by omega))
  exact ok_ret ⟨hI, hA_A3, (show (0 : Int) ≤ (0 : Int32).toInt ∧ (0 : Int32).toInt ≤ (92100 : Int) from (by decide)), (by show (I 37).toInt ≤ (I 1).toInt ∧ aa < (I 37).toInt; have z : (0 : Int32).toInt = 0 := rfl; omega), q2⟩
theorem t_readTag_250 {aa : Int} {I : Nat → Int32} {A : Nat → Nat → Int32} (hI : TJ I) (hA : TK A) (q0 : (I 37).toInt ≤ (I 1).toInt) (q1 : aa < (I 37).toInt) (q2 : (I 29).toInt ≤ 1999) : Ok (f_readTag_250 I A) (fun o => TJ o.2.1 ∧ TK o.2.2 ∧ ((0 : Int) ≤ o.1.toInt ∧ o.1.toInt ≤ (92100 : Int)) ∧ ((o.2.1 37).toInt ≤ (o.2.1 1).toInt ∧ aa < (o.2.1 37).toInt) ∧ ((o.2.1 29).toInt ≤ 1999)) := by
  unfold f_readTag_250
  have b_I_1 := tI_1 hI
  have b_I_37 := tI_37 hI
  have b_I_29 := tI_29 hI
  obtain ⟨r1, h_r1, p_r1⟩ := ro (t_fault (x0 := (1 : Int32)) (x1 := (I 37))  hI hA (by decide) (by omega))
  refine ok_clR h_r1 ?_
  dsimp only at p_r1
  exact ok_ret ⟨hI, hA, (show (0 : Int) ≤ r1.toInt ∧ r1.toInt ≤ (92100 : Int) from (by omega)), (by show (I 37).toInt ≤ (I 1).toInt ∧ aa < (I 37).toInt; omega), q2⟩
theorem t_readTag_293 {aa : Int} {I : Nat → Int32} {A : Nat → Nat → Int32} {self175 : Int32 → Int32 → Int32 → Int32 → Int32 → Int32 → (Nat → Int32) → (Nat → Nat → Int32) → Option (Int32 × MS)} {N175 : Nat} (hself175 : ∀ (x1 : Int32) (x2 : Int32) (x3 : Int32) (x4 : Int32) (x5 : Int32) (x6 : Int32) (I : Nat → Int32) (A : Nat → Nat → Int32), TJ I → TK A → ((0 : Int) ≤ x1.toInt ∧ x1.toInt ≤ (1 : Int)) → ((0 : Int) ≤ x2.toInt ∧ x2.toInt ≤ (2000 : Int)) → ((0 : Int) ≤ x3.toInt ∧ x3.toInt ≤ (8 : Int)) → ((0 : Int) ≤ x4.toInt ∧ x4.toInt ≤ (1 : Int)) → ((0 : Int) ≤ x5.toInt ∧ x5.toInt ≤ (2100 : Int)) → ((0 : Int) ≤ x6.toInt ∧ x6.toInt ≤ (2100 : Int)) → ((I 37).toInt ≤ (I 1).toInt) → (aa < (I 37).toInt) → ((I 29).toInt ≤ 1999) → (x6.toInt ≤ (I 37).toInt) → (x4.toInt = 0 → x3.toInt ≤ 7) → (cE A (x1).toNatClampNeg x3.toInt) → ((I 1).toInt - (I 37).toInt) < (N175 : Int) → Ok (self175 x1 x2 x3 x4 x5 x6 I A) (fun o => TJ o.2.1 ∧ TK o.2.2 ∧ ((0 : Int) ≤ o.1.toInt ∧ o.1.toInt ≤ (92100 : Int)) ∧ ((o.2.1 37).toInt ≤ (o.2.1 1).toInt ∧ aa < (o.2.1 37).toInt) ∧ ((o.2.1 29).toInt ≤ 1999))) {x1 : Int32} {x2 : Int32} {x3 : Int32} {x4 : Int32} {x5 : Int32} {x6 : Int32} (hI : TJ I) (hA : TK A) (r_x1 : (0 : Int) ≤ x1.toInt ∧ x1.toInt ≤ (1 : Int)) (r_x2 : (0 : Int) ≤ x2.toInt ∧ x2.toInt ≤ (2000 : Int)) (r_x3 : (0 : Int) ≤ x3.toInt ∧ x3.toInt ≤ (8 : Int)) (r_x4 : (0 : Int) ≤ x4.toInt ∧ x4.toInt ≤ (1 : Int)) (r_x5 : (0 : Int) ≤ x5.toInt ∧ x5.toInt ≤ (2100 : Int)) (r_x6 : (0 : Int) ≤ x6.toInt ∧ x6.toInt ≤ (2100 : Int)) (q0 : (I 37).toInt < (I 1).toInt) (q1 : aa < (I 37).toInt) (q2 : (I 29).toInt ≤ 1999) (q3 : x6.toInt ≤ (I 37).toInt) (q4 : x4.toInt = 0 → x3.toInt ≤ 7) (q5 : cE A (x1).toNatClampNeg x3.toInt) (m175 : ((I 1).toInt - (I 37).toInt) ≤ (N175 : Int)) : Ok (f_readTag_293 self175 x1 x2 x3 x4 x5 x6 I A) (fun o => TJ o.2.1 ∧ TK o.2.2 ∧ ((0 : Int) ≤ o.1.toInt ∧ o.1.toInt ≤ (92100 : Int)) ∧ ((o.2.1 37).toInt ≤ (o.2.1 1).toInt ∧ aa < (o.2.1 37).toInt) ∧ ((o.2.1 29).toInt ≤ 1999)) := by
  unfold f_readTag_293
  have b_I_1 := tI_1 hI
  have b_I_37 := tI_37 hI
  have b_I_29 := tI_29 hI
  refine ok_bnd (fun v1 e135 => ?_)
  have t_v1 : v1.toInt = x6.toInt + 1 := ti_add e135 rfl (show (1 : Int32).toInt = 1 from rfl) (by omega) (by omega)
  refine ok_bnd (fun v2 e136 => ?_)
  have t_v2 : v2.toInt = (I 37).toInt + 1 := ti_add e136 rfl (show (1 : Int32).toInt = 1 from rfl) (by omega) (by omega)
  refine ok_bnd (fun I3 e137 => ?_)
  have hI_I3 : TJ I3 := e137.symm ▸ tj_u hI (k := 37) (show (0 : Int) ≤ v2.toInt from (by omega)) (show v2.toInt ≤ (2100 : Int) from (by omega))
  have : (I3 1).toInt = (I 1).toInt := by rw [e137]; rfl
  have : (I3 37).toInt = v2.toInt := by rw [e137]; exact rfl
  have : (I3 29).toInt = (I 29).toInt := by rw [e137]; rfl
  have b_I3_1 := tI_1 hI_I3
  have b_I3_37 := tI_37 hI_I3
  have b_I3_29 := tI_29 hI_I3
  exact hself175 x1 x2 x3 x4 x5 v1 I3 A hI_I3 hA r_x1 r_x2 r_x3 r_x4 r_x5 (by omega) (by omega) (by omega) (by omega) (by omega) q4 q5 (by omega)
theorem t_readTag_230 {aa : Int} {I : Nat → Int32} {A : Nat → Nat → Int32} {self175 : Int32 → Int32 → Int32 → Int32 → Int32 → Int32 → (Nat → Int32) → (Nat → Nat → Int32) → Option (Int32 × MS)} {N175 : Nat} (hself175 : ∀ (x1 : Int32) (x2 : Int32) (x3 : Int32) (x4 : Int32) (x5 : Int32) (x6 : Int32) (I : Nat → Int32) (A : Nat → Nat → Int32), TJ I → TK A → ((0 : Int) ≤ x1.toInt ∧ x1.toInt ≤ (1 : Int)) → ((0 : Int) ≤ x2.toInt ∧ x2.toInt ≤ (2000 : Int)) → ((0 : Int) ≤ x3.toInt ∧ x3.toInt ≤ (8 : Int)) → ((0 : Int) ≤ x4.toInt ∧ x4.toInt ≤ (1 : Int)) → ((0 : Int) ≤ x5.toInt ∧ x5.toInt ≤ (2100 : Int)) → ((0 : Int) ≤ x6.toInt ∧ x6.toInt ≤ (2100 : Int)) → ((I 37).toInt ≤ (I 1).toInt) → (aa < (I 37).toInt) → ((I 29).toInt ≤ 1999) → (x6.toInt ≤ (I 37).toInt) → (x4.toInt = 0 → x3.toInt ≤ 7) → (cE A (x1).toNatClampNeg x3.toInt) → ((I 1).toInt - (I 37).toInt) < (N175 : Int) → Ok (self175 x1 x2 x3 x4 x5 x6 I A) (fun o => TJ o.2.1 ∧ TK o.2.2 ∧ ((0 : Int) ≤ o.1.toInt ∧ o.1.toInt ≤ (92100 : Int)) ∧ ((o.2.1 37).toInt ≤ (o.2.1 1).toInt ∧ aa < (o.2.1 37).toInt) ∧ ((o.2.1 29).toInt ≤ 1999))) {x1 : Int32} {x2 : Int32} {x3 : Int32} {x4 : Int32} {x5 : Int32} {x6 : Int32} (hI : TJ I) (hA : TK A) (r_x1 : (0 : Int) ≤ x1.toInt ∧ x1.toInt ≤ (1 : Int)) (r_x2 : (0 : Int) ≤ x2.toInt ∧ x2.toInt ≤ (2000 : Int)) (r_x3 : (0 : Int) ≤ x3.toInt ∧ x3.toInt ≤ (8 : Int)) (r_x4 : (0 : Int) ≤ x4.toInt ∧ x4.toInt ≤ (1 : Int)) (r_x5 : (0 : Int) ≤ x5.toInt ∧ x5.toInt ≤ (2100 : Int)) (r_x6 : (0 : Int) ≤ x6.toInt ∧ x6.toInt ≤ (2100 : Int)) (q0 : (I 37).toInt ≤ (I 1).toInt) (q1 : aa < (I 37).toInt) (q2 : (I 29).toInt ≤ 1999) (q3 : x6.toInt ≤ (I 37).toInt) (q4 : x4.toInt = 0 → x3.toInt ≤ 7) (q5 : cE A (x1).toNatClampNeg x3.toInt) (m175 : ((I 1).toInt - (I 37).toInt) ≤ (N175 : Int)) : Ok (f_readTag_230 self175 x1 x2 x3 x4 x5 x6 I A) (fun o => TJ o.2.1 ∧ TK o.2.2 ∧ ((0 : Int) ≤ o.1.toInt ∧ o.1.toInt ≤ (92100 : Int)) ∧ ((o.2.1 37).toInt ≤ (o.2.1 1).toInt ∧ aa < (o.2.1 37).toInt) ∧ ((o.2.1 29).toInt ≤ 1999)) := by
  unfold f_readTag_230
  have b_I_1 := tI_1 hI
  have b_I_37 := tI_37 hI
  have b_I_29 := tI_29 hI
  refine ok_if (fun c138 => ?_) (fun c138 => ?_)
  ·
    replace c138 := ti_eqP c138 rfl rfl
    exact t_readTag_250 (aa := aa)    hI hA q0 q1 q2
  ·
    replace c138 := ti_eqN c138 rfl rfl
    obtain ⟨r1, h_r1, p_r1⟩ := ro (t_look   hI hA )
    refine ok_clR h_r1 ?_
    dsimp only at p_r1
    refine ok_if (fun c139 => ?_) (fun c139 => ?_)
    ·
      replace c139 := ti_eqP c139 rfl (show (10 : Int32).toInt = 10 from rfl)
      exact t_readTag_250 (aa := aa)    hI hA q0 q1 q2
    ·
      replace c139 := ti_eqN c139 rfl (show (10 : Int32).toInt = 10 from rfl)
      refine ok_if (fun c140 => ?_) (fun c140 => ?_)
      ·
        replace c140 := ti_leP c140 (show (96 : Int32).toInt = 96 from rfl) rfl
        exact t_readTag_293 (aa := aa)  hself175 (x1 := x1) (x2 := x2) (x3 := x3) (x4 := x4) (x5 := x5) (x6 := x6) hI hA r_x1 r_x2 r_x3 r_x4 r_x5 r_x6 (by omega) q1 q2 q3 q4 q5 m175
      ·
        replace c140 := ti_leN c140 (show (96 : Int32).toInt = 96 from rfl) rfl
        refine ok_if (fun c141 => ?_) (fun c141 => ?_)
        ·
          replace c141 := ti_eqP c141 rfl (show (0 : Int32).toInt = 0 from rfl)
          refine ok_bnd (fun v2 e142 => ?_)
          have t_v2 : v2.toInt = 768 * x1.toInt := ti_mul e142 (show (768 : Int32).toInt = 768 from rfl) rfl (by omega) (by omega)
          refine ok_bnd (fun v3 e143 => ?_)
          have t_v3 : v3.toInt = 96 * x3.toInt := ti_mul e143 (show (96 : Int32).toInt = 96 from rfl) rfl (by omega) (by omega)
          refine ok_bnd (fun v4 e144 => ?_)
          have t_v4 : v4.toInt = v2.toInt + v3.toInt := ti_add e144 rfl rfl (by omega) (by omega)
          refine ok_bnd (fun v5 e145 => ?_)
          have t_v5 : v5.toInt = v4.toInt + x6.toInt := ti_add e145 rfl rfl (by omega) (by omega)
          obtain ⟨r6, h_r6, p_r6⟩ := ro (t_look   hI hA )
          refine ok_clR h_r6 ?_
          dsimp only at p_r6
          refine ok_chk (ti_in (by omega) (by omega)) ?_
          refine ok_bnd (fun A7 e146 => ?_)
          have hA_A7 : TK A7 := e146.symm ▸ tk_n hA rfl
          have k147 : cE A7 (x1).toNatClampNeg x3.toInt := cE_fr (show A7 18 = A 18 by rw [e146]; exact va_up_ne _ _ (by decide)) q5
          exact t_readTag_293 (aa := aa)  hself175 (x1 := x1) (x2 := x2) (x3 := x3) (x4 := x4) (x5 := x5) (x6 := x6) hI hA_A7 r_x1 r_x2 r_x3 r_x4 r_x5 r_x6 (by omega) q1 q2 q3 q4 k147 m175
        ·
          replace c141 := ti_eqN c141 rfl (show (0 : Int32).toInt = 0 from rfl)
          exact t_readTag_293 (aa := aa)  hself175 (x1 := x1) (x2 := x2) (x3 := x3) (x4 := x4) (x5 := x5) (x6 := x6) hI hA r_x1 r_x2 r_x3 r_x4 r_x5 r_x6 (by omega) q1 q2 q3 q4 q5 m175
theorem t_readTag_175s {aa : Int} {I : Nat → Int32} {A : Nat → Nat → Int32} {self175 : Int32 → Int32 → Int32 → Int32 → Int32 → Int32 → (Nat → Int32) → (Nat → Nat → Int32) → Option (Int32 × MS)} {N175 : Nat} (hself175 : ∀ (x1 : Int32) (x2 : Int32) (x3 : Int32) (x4 : Int32) (x5 : Int32) (x6 : Int32) (I : Nat → Int32) (A : Nat → Nat → Int32), TJ I → TK A → ((0 : Int) ≤ x1.toInt ∧ x1.toInt ≤ (1 : Int)) → ((0 : Int) ≤ x2.toInt ∧ x2.toInt ≤ (2000 : Int)) → ((0 : Int) ≤ x3.toInt ∧ x3.toInt ≤ (8 : Int)) → ((0 : Int) ≤ x4.toInt ∧ x4.toInt ≤ (1 : Int)) → ((0 : Int) ≤ x5.toInt ∧ x5.toInt ≤ (2100 : Int)) → ((0 : Int) ≤ x6.toInt ∧ x6.toInt ≤ (2100 : Int)) → ((I 37).toInt ≤ (I 1).toInt) → (aa < (I 37).toInt) → ((I 29).toInt ≤ 1999) → (x6.toInt ≤ (I 37).toInt) → (x4.toInt = 0 → x3.toInt ≤ 7) → (cE A (x1).toNatClampNeg x3.toInt) → ((I 1).toInt - (I 37).toInt) < (N175 : Int) → Ok (self175 x1 x2 x3 x4 x5 x6 I A) (fun o => TJ o.2.1 ∧ TK o.2.2 ∧ ((0 : Int) ≤ o.1.toInt ∧ o.1.toInt ≤ (92100 : Int)) ∧ ((o.2.1 37).toInt ≤ (o.2.1 1).toInt ∧ aa < (o.2.1 37).toInt) ∧ ((o.2.1 29).toInt ≤ 1999))) {x1 : Int32} {x2 : Int32} {x3 : Int32} {x4 : Int32} {x5 : Int32} {x6 : Int32} (hI : TJ I) (hA : TK A) (r_x1 : (0 : Int) ≤ x1.toInt ∧ x1.toInt ≤ (1 : Int)) (r_x2 : (0 : Int) ≤ x2.toInt ∧ x2.toInt ≤ (2000 : Int)) (r_x3 : (0 : Int) ≤ x3.toInt ∧ x3.toInt ≤ (8 : Int)) (r_x4 : (0 : Int) ≤ x4.toInt ∧ x4.toInt ≤ (1 : Int)) (r_x5 : (0 : Int) ≤ x5.toInt ∧ x5.toInt ≤ (2100 : Int)) (r_x6 : (0 : Int) ≤ x6.toInt ∧ x6.toInt ≤ (2100 : Int)) (q0 : (I 37).toInt ≤ (I 1).toInt) (q1 : aa < (I 37).toInt) (q2 : (I 29).toInt ≤ 1999) (q3 : x6.toInt ≤ (I 37).toInt) (q4 : x4.toInt = 0 → x3.toInt ≤ 7) (q5 : cE A (x1).toNatClampNeg x3.toInt) (m175 : ((I 1).toInt - (I 37).toInt) ≤ (N175 : Int)) : Ok (f_readTag_175s self175 x1 x2 x3 x4 x5 x6 I A) (fun o => TJ o.2.1 ∧ TK o.2.2 ∧ ((0 : Int) ≤ o.1.toInt ∧ o.1.toInt ≤ (92100 : Int)) ∧ ((o.2.1 37).toInt ≤ (o.2.1 1).toInt ∧ aa < (o.2.1 37).toInt) ∧ ((o.2.1 29).toInt ≤ 1999)) := by
  unfold f_readTag_175s
  have b_I_1 := tI_1 hI
  have b_I_37 := tI_37 hI
  have b_I_29 := tI_29 hI
  obtain ⟨r1, h_r1, p_r1⟩ := ro (t_look   hI hA )
  refine ok_clR h_r1 ?_
  dsimp only at p_r1
  refine ok_if (fun c148 => ?_) (fun c148 => ?_)
  ·
    replace c148 := ti_eqP c148 rfl (show (34 : Int32).toInt = 34 from rfl)
    refine ok_bnd (fun v2 e149 => ?_)
    have t_v2 : v2.toInt = (I 37).toInt + 1 := ti_add e149 rfl (show (1 : Int32).toInt = 1 from rfl) (by omega) (by omega)
    refine ok_bnd (fun I3 e150 => ?_)
    have hI_I3 : TJ I3 := e150.symm ▸ tj_u hI (k := 37) (show (0 : Int) ≤ v2.toInt from (by omega)) (show v2.toInt ≤ (2100 : Int) from (by omega))
    have : (I3 1).toInt = (I 1).toInt := by rw [e150]; rfl
    have : (I3 37).toInt = v2.toInt := by rw [e150]; exact rfl
    have : (I3 29).toInt = (I 29).toInt := by rw [e150]; rfl
    have b_I3_1 := tI_1 hI_I3
    have b_I3_37 := tI_37 hI_I3
    obtain ⟨⟨r4, Ic4, Ac4⟩, h_r4, hI_Ic4, hA_Ac4, p_r4_0⟩ := t_blanks   hI_I3 hA (show (I3 37).toInt ≤ (I3 37).toInt ∧ (I3 37).toInt ≤ (I3 1).toInt ∧ (I3 1).toInt ≤ (I3 1).toInt from ⟨Int.le_refl _, by omega, Int.le_refl _⟩)
    replace hI_Ic4 : TJ Ic4 := hI_Ic4
    replace hA_Ac4 : TK Ac4 := hA_Ac4
    dsimp only at p_r4_0
    refine ok_clR h_r4 ?_
    have f_r4 := fw_blanks h_r4
    have : (Ic4 1).toInt = (I3 1).toInt := congrArg Int32.toInt (f_r4.1 1 (by decide))
    have : (Ic4 29).toInt = (I3 29).toInt := congrArg Int32.toInt (f_r4.1 29 (by decide))
    have k151 : cE Ac4 (x1).toNatClampNeg x3.toInt := cE_fr (f_r4.2 18 (by decide)) q5
    obtain ⟨r5, h_r5, p_r5⟩ := ro (t_look   hI_Ic4 hA_Ac4 )
    refine ok_clR h_r5 ?_
    dsimp only at p_r5
    refine ok_if (fun c152 => ?_) (fun c152 => ?_)
    ·
      replace c152 := ti_eqP c152 rfl (show (93 : Int32).toInt = 93 from rfl)
      refine ok_bnd (fun v6 e153 => ?_)
      have b_Ic4_37 := tI_37 hI_Ic4
      have t_v6 : v6.toInt = (Ic4 37).toInt + 1 := ti_add e153 rfl (show (1 : Int32).toInt = 1 from rfl) (by omega) (by omega)
      refine ok_bnd (fun I7 e154 => ?_)
      have hI_I7 : TJ I7 := e154.symm ▸ tj_u hI_Ic4 (k := 37) (show (0 : Int) ≤ v6.toInt from (by omega)) (show v6.toInt ≤ (2100 : Int) from (by omega))
      have : (I7 1).toInt = (Ic4 1).toInt := by rw [e154]; rfl
      have : (I7 37).toInt = v6.toInt := by rw [e154]; exact rfl
      have : (I7 29).toInt = (Ic4 29).toInt := by rw [e154]; rfl
      refine ok_if (fun c155 => ?_) (fun c155 => ?_)
      ·
        replace c155 := ti_eqP c155 rfl (show (0 : Int32).toInt = 0 from rfl)
        refine ok_if (fun c156 => ?_) (fun c156 => ?_)
        ·
          replace c156 := ti_ltP c156 (show (12 : Int32).toInt = 12 from rfl) rfl
          have b_I7_1 := tI_1 hI_I7
          have b_I7_37 := tI_37 hI_I7
          have b_I7_29 := tI_29 hI_I7
          exact t_readTag_370 (aa := aa)   (x2 := x2) hI_I7 hA_Ac4 r_x2 (by omega) (by omega) (by omega)
        ·
          replace c156 := ti_ltN c156 (show (12 : Int32).toInt = 12 from rfl) rfl
          refine ok_if (fun c157 => ?_) (fun c157 => ?_)
          ·
            replace c157 := ti_leP c157 rfl (show (96 : Int32).toInt = 96 from rfl)
            refine ok_bnd (fun v8 e158 => ?_)
            have t_v8 : v8.toInt = 8 * x1.toInt := ti_mul e158 (show (8 : Int32).toInt = 8 from rfl) rfl (by omega) (by omega)
            refine ok_bnd (fun v9 e159 => ?_)
            have t_v9 : v9.toInt = v8.toInt + x3.toInt := ti_add e159 rfl rfl (by omega) (by omega)
            refine ok_chk (ti_in (by omega) (by omega)) ?_
            refine ok_bnd (fun A10 e160 => ?_)
            have hA_A10 : TK A10 := e160.symm ▸ tk_u hA_Ac4 (j := 19) (show (0 : Int) ≤ x5.toInt from (by omega)) (show x5.toInt ≤ (12 : Int) from (by omega))
            have k161 : cE A10 (x1).toNatClampNeg x3.toInt := cE_fr (show A10 18 = Ac4 18 by rw [e160]; exact va_up_ne _ _ (by decide)) k151
            refine ok_bnd (fun v11 e162 => ?_)
            have t_v11 : v11.toInt = 8 * x1.toInt := ti_mul e162 (show (8 : Int32).toInt = 8 from rfl) rfl (by omega) (by omega)
            refine ok_bnd (fun v12 e163 => ?_)
            have t_v12 : v12.toInt = v11.toInt + x3.toInt := ti_add e163 rfl rfl (by omega) (by omega)
            refine ok_chk (ti_in (by omega) (by omega)) ?_
            refine ok_bnd (fun A13 e164 => ?_)
            have hA_A13 : TK A13 := e164.symm ▸ tk_u hA_A10 (j := 21) (show (0 : Int) ≤ x6.toInt from (by omega)) (show x6.toInt ≤ (96 : Int) from (by omega))
            have k165 : cE A13 (x1).toNatClampNeg x3.toInt := cE_fr (show A13 18 = A10 18 by rw [e164]; exact va_up_ne _ _ (by decide)) k161
            obtain ⟨r14, h_r14, p_r14⟩ := ro (t_isNameThere (x1 := x1) (x2 := x3)  hI_I7 hA_A13 r_x1 (by omega))
            refine ok_clR h_r14 ?_
            dsimp only at p_r14
            refine ok_if (fun c166 => ?_) (fun c166 => ?_)
            ·
              replace c166 := ti_eqP c166 rfl (show (0 : Int32).toInt = 0 from rfl)
              obtain ⟨r15, h_r15, p_r15⟩ := ro (t_isTag (x1 := x3) (x2 := x1) (x3 := (0 : Int32))  hI_I7 hA_A13 (by omega) r_x1 (by decide))
              refine ok_clR h_r15 ?_
              dsimp only at p_r15
              refine ok_if (fun c167 => ?_) (fun c167 => ?_)
              ·
                replace c167 := ti_eqP c167 rfl (show (0 : Int32).toInt = 0 from rfl)
                have b_I7_1 := tI_1 hI_I7
                have b_I7_37 := tI_37 hI_I7
                have b_I7_29 := tI_29 hI_I7
                exact t_readTag_457 (aa := aa)   (x1 := x1) hI_I7 hA_A13 r_x1 (by omega) (by omega) (by omega) (by have z := k165; unfold cE at z; omega)
              ·
                replace c167 := ti_eqN c167 rfl (show (0 : Int32).toInt = 0 from rfl)
                refine ok_bnd (fun v16 e168 => ?_)
                have t_v16 : v16.toInt = 768 * x1.toInt := ti_mul e168 (show (768 : Int32).toInt = 768 from rfl) rfl (by omega) (by omega)
                refine ok_bnd (fun v17 e169 => ?_)
                have t_v17 : v17.toInt = 96 * x3.toInt := ti_mul e169 (show (96 : Int32).toInt = 96 from rfl) rfl (by omega) (by omega)
                refine ok_bnd (fun v18 e170 => ?_)
                have t_v18 : v18.toInt = v16.toInt + v17.toInt := ti_add e170 rfl rfl (by omega) (by omega)
                have b_I7_29 := tI_29 hI_I7
                obtain ⟨⟨r19, Ic19, Ac19⟩, h_r19, hI_Ic19, hA_Ac19, p_r19, p_r19_0, p_r19_1⟩ := t_readPosition (x1 := v18) (x2 := x6)  hI_I7 hA_A13 (by omega) (by omega) (by omega) (by omega)
                replace hI_Ic19 : TJ Ic19 := hI_Ic19
                replace hA_Ac19 : TK Ac19 := hA_Ac19
                dsimp only at p_r19 p_r19_0 p_r19_1
                refine ok_clR h_r19 ?_
                have f_r19 := fw_readPosition h_r19
                have : (Ic19 1).toInt = (I7 1).toInt := congrArg Int32.toInt (f_r19.1 1 (by decide))
                have : (Ic19 37).toInt = (I7 37).toInt := congrArg Int32.toInt (f_r19.1 37 (by decide))
                have k171 : cE Ac19 (x1).toNatClampNeg x3.toInt := cE_fr (f_r19.2 18 (by decide)) k165
                refine ok_if (fun c172 => ?_) (fun c172 => ?_)
                ·
                  replace c172 := ti_eqP c172 rfl (show (0 : Int32).toInt = 0 from rfl)
                  obtain ⟨r21, h_r21, p_r21⟩ := ro (t_fault (x0 := (3 : Int32)) (x1 := x2)  hI_Ic19 hA_Ac19 (by decide) (by omega))
                  refine ok_clR h_r21 ?_
                  dsimp only at p_r21
                  exact ok_ret ⟨hI_Ic19, hA_Ac19, (show (0 : Int) ≤ r21.toInt ∧ r21.toInt ≤ (92100 : Int) from (by omega)), (by show (Ic19 37).toInt ≤ (Ic19 1).toInt ∧ aa < (Ic19 37).toInt; omega), (by show (Ic19 29).toInt ≤ 1999; omega)⟩
                ·
                  replace c172 := ti_eqN c172 rfl (show (0 : Int32).toInt = 0 from rfl)
                  have b_Ic19_29 := tI_29 hI_Ic19
                  obtain ⟨⟨r20, Ic20, Ac20⟩, h_r20, hI_Ic20, hA_Ac20, -⟩ := t_start (x1 := x1)  hI_Ic19 hA_Ac19 r_x1 (by omega)
                  replace hI_Ic20 : TJ Ic20 := hI_Ic20
                  replace hA_Ac20 : TK Ac20 := hA_Ac20
                  refine ok_clR h_r20 ?_
                  have f_r20 := fw_start h_r20
                  have : (Ic20 1).toInt = (Ic19 1).toInt := congrArg Int32.toInt (f_r20.1 1 (by decide))
                  have : (Ic20 37).toInt = (Ic19 37).toInt := congrArg Int32.toInt (f_r20.1 37 (by decide))
                  have : (Ic20 29).toInt = (Ic19 29).toInt := congrArg Int32.toInt (f_r20.1 29 (by decide))
                  have k173 : cE Ac20 (x1).toNatClampNeg x3.toInt := cE_fr (f_r20.2 18 (by decide)) k171
                  have b_Ic20_1 := tI_1 hI_Ic20
                  have b_Ic20_37 := tI_37 hI_Ic20
                  have b_Ic20_29 := tI_29 hI_Ic20
                  exact t_readTag_457 (aa := aa)   (x1 := x1) hI_Ic20 hA_Ac20 r_x1 (by omega) (by omega) (by omega) (by have z := k173; unfold cE at z; omega)
            ·
              replace c166 := ti_eqN c166 rfl (show (0 : Int32).toInt = 0 from rfl)
              obtain ⟨r22, h_r22, p_r22⟩ := ro (t_fault (x0 := (2 : Int32)) (x1 := x2)  hI_I7 hA_A13 (by decide) (by omega))
              refine ok_clR h_r22 ?_
              dsimp only at p_r22
              exact ok_ret ⟨hI_I7, hA_A13, (show (0 : Int) ≤ r22.toInt ∧ r22.toInt ≤ (92100 : Int) from (by omega)), (by show (I7 37).toInt ≤ (I7 1).toInt ∧ aa < (I7 37).toInt; omega), (by show (I7 29).toInt ≤ 1999; omega)⟩
          ·
            replace c157 := ti_leN c157 rfl (show (96 : Int32).toInt = 96 from rfl)
            have b_I7_1 := tI_1 hI_I7
            have b_I7_37 := tI_37 hI_I7
            have b_I7_29 := tI_29 hI_I7
            exact t_readTag_370 (aa := aa)   (x2 := x2) hI_I7 hA_Ac4 r_x2 (by omega) (by omega) (by omega)
      ·
        replace c155 := ti_eqN c155 rfl (show (0 : Int32).toInt = 0 from rfl)
        have b_I7_1 := tI_1 hI_I7
        have b_I7_37 := tI_37 hI_I7
        have b_I7_29 := tI_29 hI_I7
        exact t_readTag_370 (aa := aa)   (x2 := x2) hI_I7 hA_Ac4 r_x2 (by omega) (by omega) (by omega)
    ·
      replace c152 := ti_eqN c152 rfl (show (93 : Int32).toInt = 93 from rfl)
      have b_Ic4_37 := tI_37 hI_Ic4
      obtain ⟨r23, h_r23, p_r23⟩ := ro (t_fault (x0 := (1 : Int32)) (x1 := (Ic4 37))  hI_Ic4 hA_Ac4 (by decide) (by omega))
      refine ok_clR h_r23 ?_
      dsimp only at p_r23
      exact ok_ret ⟨hI_Ic4, hA_Ac4, (show (0 : Int) ≤ r23.toInt ∧ r23.toInt ≤ (92100 : Int) from (by omega)), (by show (Ic4 37).toInt ≤ (Ic4 1).toInt ∧ aa < (Ic4 37).toInt; omega), (by show (Ic4 29).toInt ≤ 1999; omega)⟩
  ·
    replace c148 := ti_eqN c148 rfl (show (34 : Int32).toInt = 34 from rfl)
    obtain ⟨r24, h_r24, p_r24⟩ := ro (t_look   hI hA )
    refine ok_clR h_r24 ?_
    dsimp only at p_r24
    refine ok_if (fun c174 => ?_) (fun c174 => ?_)
    ·
      replace c174 := ti_eqP c174 rfl (show (92 : Int32).toInt = 92 from rfl)
      refine ok_bnd (fun v25 e175 => ?_)
      have t_v25 : v25.toInt = (I 37).toInt + 1 := ti_add e175 rfl (show (1 : Int32).toInt = 1 from rfl) (by omega) (by omega)
      refine ok_bnd (fun I26 e176 => ?_)
      have hI_I26 : TJ I26 := e176.symm ▸ tj_u hI (k := 37) (show (0 : Int) ≤ v25.toInt from (by omega)) (show v25.toInt ≤ (2100 : Int) from (by omega))
      have : (I26 1).toInt = (I 1).toInt := by rw [e176]; rfl
      have : (I26 37).toInt = v25.toInt := by rw [e176]; exact rfl
      have : (I26 29).toInt = (I 29).toInt := by rw [e176]; rfl
      obtain ⟨r27, h_r27, p_r27⟩ := ro (t_look   hI_I26 hA )
      refine ok_clR h_r27 ?_
      dsimp only at p_r27
      refine ok_if (fun c177 => ?_) (fun c177 => ?_)
      ·
        replace c177 := ti_eqP c177 rfl (show (34 : Int32).toInt = 34 from rfl)
        have b_I26_1 := tI_1 hI_I26
        have b_I26_37 := tI_37 hI_I26
        have b_I26_29 := tI_29 hI_I26
        exact t_readTag_230 (aa := aa)  hself175 (x1 := x1) (x2 := x2) (x3 := x3) (x4 := x4) (x5 := x5) (x6 := x6) hI_I26 hA r_x1 r_x2 r_x3 r_x4 r_x5 r_x6 (by omega) (by omega) (by omega) (by omega) q4 q5 (by omega)
      ·
        replace c177 := ti_eqN c177 rfl (show (34 : Int32).toInt = 34 from rfl)
        obtain ⟨r28, h_r28, p_r28⟩ := ro (t_look   hI_I26 hA )
        refine ok_clR h_r28 ?_
        dsimp only at p_r28
        refine ok_if (fun c178 => ?_) (fun c178 => ?_)
        ·
          replace c178 := ti_eqP c178 rfl (show (92 : Int32).toInt = 92 from rfl)
          have b_I26_1 := tI_1 hI_I26
          have b_I26_37 := tI_37 hI_I26
          have b_I26_29 := tI_29 hI_I26
          exact t_readTag_230 (aa := aa)  hself175 (x1 := x1) (x2 := x2) (x3 := x3) (x4 := x4) (x5 := x5) (x6 := x6) hI_I26 hA r_x1 r_x2 r_x3 r_x4 r_x5 r_x6 (by omega) (by omega) (by omega) (by omega) q4 q5 (by omega)
        ·
          replace c178 := ti_eqN c178 rfl (show (92 : Int32).toInt = 92 from rfl)
          have b_I26_37 := tI_37 hI_I26
          obtain ⟨r29, h_r29, p_r29⟩ := ro (t_fault (x0 := (1 : Int32)) (x1 := (I26 37))  hI_I26 hA (by decide) (by omega))
          refine ok_clR h_r29 ?_
          dsimp only at p_r29
          exact ok_ret ⟨hI_I26, hA, (show (0 : Int) ≤ r29.toInt ∧ r29.toInt ≤ (92100 : Int) from (by omega)), (by show (I26 37).toInt ≤ (I26 1).toInt ∧ aa < (I26 37).toInt; omega), (by show (I26 29).toInt ≤ 1999; omega)⟩
    ·
      replace c174 := ti_eqN c174 rfl (show (92 : Int32).toInt = 92 from rfl)
      exact t_readTag_230 (aa := aa)  hself175 (x1 := x1) (x2 := x2) (x3 := x3) (x4 := x4) (x5 := x5) (x6 := x6) hI hA r_x1 r_x2 r_x3 r_x4 r_x5 r_x6 q0 q1 q2 q3 q4 q5 m175
theorem t_readTag_175 {aa : Int}  : ∀ (n : Nat) (x1 : Int32) (x2 : Int32) (x3 : Int32) (x4 : Int32) (x5 : Int32) (x6 : Int32) (I : Nat → Int32) (A : Nat → Nat → Int32), TJ I → TK A → ((0 : Int) ≤ x1.toInt ∧ x1.toInt ≤ (1 : Int)) → ((0 : Int) ≤ x2.toInt ∧ x2.toInt ≤ (2000 : Int)) → ((0 : Int) ≤ x3.toInt ∧ x3.toInt ≤ (8 : Int)) → ((0 : Int) ≤ x4.toInt ∧ x4.toInt ≤ (1 : Int)) → ((0 : Int) ≤ x5.toInt ∧ x5.toInt ≤ (2100 : Int)) → ((0 : Int) ≤ x6.toInt ∧ x6.toInt ≤ (2100 : Int)) → ((I 37).toInt ≤ (I 1).toInt) → (aa < (I 37).toInt) → ((I 29).toInt ≤ 1999) → (x6.toInt ≤ (I 37).toInt) → (x4.toInt = 0 → x3.toInt ≤ 7) → (cE A (x1).toNatClampNeg x3.toInt) → ((I 1).toInt - (I 37).toInt) < (n : Int) → Ok (f_readTag_175  n x1 x2 x3 x4 x5 x6 I A) (fun o => TJ o.2.1 ∧ TK o.2.2 ∧ ((0 : Int) ≤ o.1.toInt ∧ o.1.toInt ≤ (92100 : Int)) ∧ ((o.2.1 37).toInt ≤ (o.2.1 1).toInt ∧ aa < (o.2.1 37).toInt) ∧ ((o.2.1 29).toInt ≤ 1999)) := by
  intro n
  induction n with
  | zero => intro x1 x2 x3 x4 x5 x6 I A hI hA g0 g1 g2 g3 g4 g5 g6 g7 g8 g9 g10 g11  hm; exfalso; omega
  | succ n ih =>
    intro x1 x2 x3 x4 x5 x6 I A hI hA g0 g1 g2 g3 g4 g5 g6 g7 g8 g9 g10 g11  hm
    exact t_readTag_175s (aa := aa)  (N175 := n)  ih hI hA g0 g1 g2 g3 g4 g5 g6 g7 g8 g9 g10 g11  (by omega)
theorem t_readTag_71s {aa : Int} {I : Nat → Int32} {A : Nat → Nat → Int32} {self71 : Int32 → Int32 → Int32 → Int32 → Int32 → (Nat → Int32) → (Nat → Nat → Int32) → Option (Int32 × MS)} {N71 : Nat} (hself71 : ∀ (x1 : Int32) (x2 : Int32) (x3 : Int32) (x4 : Int32) (x5 : Int32) (I : Nat → Int32) (A : Nat → Nat → Int32), TJ I → TK A → ((0 : Int) ≤ x1.toInt ∧ x1.toInt ≤ (1 : Int)) → ((0 : Int) ≤ x2.toInt ∧ x2.toInt ≤ (2000 : Int)) → ((0 : Int) ≤ x3.toInt ∧ x3.toInt ≤ (8 : Int)) → ((0 : Int) ≤ x4.toInt ∧ x4.toInt ≤ (1 : Int)) → ((0 : Int) ≤ x5.toInt ∧ x5.toInt ≤ (2100 : Int)) → ((I 37).toInt ≤ (I 1).toInt) → (aa < (I 37).toInt) → ((I 29).toInt ≤ 1999) → (x5.toInt ≤ (I 37).toInt) → (x4.toInt = 0 → x3.toInt ≤ 7) → (cE A (x1).toNatClampNeg x3.toInt) → ((I 1).toInt - (I 37).toInt) < (N71 : Int) → Ok (self71 x1 x2 x3 x4 x5 I A) (fun o => TJ o.2.1 ∧ TK o.2.2 ∧ ((0 : Int) ≤ o.1.toInt ∧ o.1.toInt ≤ (92100 : Int)) ∧ ((o.2.1 37).toInt ≤ (o.2.1 1).toInt ∧ aa < (o.2.1 37).toInt) ∧ ((o.2.1 29).toInt ≤ 1999))) {x1 : Int32} {x2 : Int32} {x3 : Int32} {x4 : Int32} {x5 : Int32} (hI : TJ I) (hA : TK A) (r_x1 : (0 : Int) ≤ x1.toInt ∧ x1.toInt ≤ (1 : Int)) (r_x2 : (0 : Int) ≤ x2.toInt ∧ x2.toInt ≤ (2000 : Int)) (r_x3 : (0 : Int) ≤ x3.toInt ∧ x3.toInt ≤ (8 : Int)) (r_x4 : (0 : Int) ≤ x4.toInt ∧ x4.toInt ≤ (1 : Int)) (r_x5 : (0 : Int) ≤ x5.toInt ∧ x5.toInt ≤ (2100 : Int)) (q0 : (I 37).toInt ≤ (I 1).toInt) (q1 : aa < (I 37).toInt) (q2 : (I 29).toInt ≤ 1999) (q3 : x5.toInt ≤ (I 37).toInt) (q4 : x4.toInt = 0 → x3.toInt ≤ 7) (q5 : cE A (x1).toNatClampNeg x3.toInt) (m71 : ((I 1).toInt - (I 37).toInt) ≤ (N71 : Int)) : Ok (f_readTag_71s self71 x1 x2 x3 x4 x5 I A) (fun o => TJ o.2.1 ∧ TK o.2.2 ∧ ((0 : Int) ≤ o.1.toInt ∧ o.1.toInt ≤ (92100 : Int)) ∧ ((o.2.1 37).toInt ≤ (o.2.1 1).toInt ∧ aa < (o.2.1 37).toInt) ∧ ((o.2.1 29).toInt ≤ 1999)) := by
  unfold f_readTag_71s
  have b_I_1 := tI_1 hI
  have b_I_37 := tI_37 hI
  have b_I_29 := tI_29 hI
  obtain ⟨r1, h_r1, p_r1⟩ := ro (t_look   hI hA )
  refine ok_clR h_r1 ?_
  dsimp only at p_r1
  obtain ⟨r2, h_r2, p_r2⟩ := ro (t_isLetter (x0 := r1)  hI hA )
  refine ok_clR h_r2 ?_
  dsimp only at p_r2
  refine ok_if (fun c179 => ?_) (fun c179 => ?_)
  ·
    replace c179 := ti_eqP c179 rfl (show (0 : Int32).toInt = 0 from rfl)
    obtain ⟨r3, h_r3, p_r3⟩ := ro (t_look   hI hA )
    refine ok_clR h_r3 ?_
    dsimp only at p_r3
    obtain ⟨r4, h_r4, p_r4⟩ := ro (t_isDigit (x0 := r3)  hI hA )
    refine ok_clR h_r4 ?_
    dsimp only at p_r4
    refine ok_if (fun c180 => ?_) (fun c180 => ?_)
    ·
      replace c180 := ti_eqP c180 rfl (show (0 : Int32).toInt = 0 from rfl)
      obtain ⟨⟨r5, Ic5, Ac5⟩, h_r5, hI_Ic5, hA_Ac5, p_r5_0⟩ := t_blanks   hI hA (show (I 37).toInt ≤ (I 37).toInt ∧ (I 37).toInt ≤ (I 1).toInt ∧ (I 1).toInt ≤ (I 1).toInt from ⟨Int.le_refl _, by omega, Int.le_refl _⟩)
      replace hI_Ic5 : TJ Ic5 := hI_Ic5
      replace hA_Ac5 : TK Ac5 := hA_Ac5
      dsimp only at p_r5_0
      refine ok_clR h_r5 ?_
      have f_r5 := fw_blanks h_r5
      have : (Ic5 1).toInt = (I 1).toInt := congrArg Int32.toInt (f_r5.1 1 (by decide))
      have : (Ic5 29).toInt = (I 29).toInt := congrArg Int32.toInt (f_r5.1 29 (by decide))
      have k181 : cE Ac5 (x1).toNatClampNeg x3.toInt := cE_fr (f_r5.2 18 (by decide)) q5
      obtain ⟨r6, h_r6, p_r6⟩ := ro (t_look   hI_Ic5 hA_Ac5 )
      refine ok_clR h_r6 ?_
      dsimp only at p_r6
      refine ok_if (fun c182 => ?_) (fun c182 => ?_)
      ·
        replace c182 := ti_eqP c182 rfl (show (34 : Int32).toInt = 34 from rfl)
        refine ok_bnd (fun v7 e183 => ?_)
        have b_Ic5_37 := tI_37 hI_Ic5
        have t_v7 : v7.toInt = (Ic5 37).toInt + 1 := ti_add e183 rfl (show (1 : Int32).toInt = 1 from rfl) (by omega) (by omega)
        refine ok_bnd (fun I8 e184 => ?_)
        have hI_I8 : TJ I8 := e184.symm ▸ tj_u hI_Ic5 (k := 37) (show (0 : Int) ≤ v7.toInt from (by omega)) (show v7.toInt ≤ (2100 : Int) from (by omega))
        have : (I8 1).toInt = (Ic5 1).toInt := by rw [e184]; rfl
        have : (I8 37).toInt = v7.toInt := by rw [e184]; exact rfl
        have : (I8 29).toInt = (Ic5 29).toInt := by rw [e184]; rfl
        have b_I8_1 := tI_1 hI_I8
        have b_I8_37 := tI_37 hI_I8
        have b_I8_29 := tI_29 hI_I8
        exact t_readTag_175 (aa := aa)    mFuel x1 x2 x3 x4 x5 (0 : Int32) I8 Ac5 hI_I8 hA_Ac5 r_x1 r_x2 r_x3 r_x4 r_x5 (by decide) (by have z0 : (0 : Int32).toInt = 0 := rfl; omega) (by have z0 : (0 : Int32).toInt = 0 := rfl; omega) (by have z0 : (0 : Int32).toInt = 0 := rfl; omega) (by have z0 : (0 : Int32).toInt = 0 := rfl; omega) q4 k181 (by show _ < ((200000 : Nat) : Int); have z0 : (0 : Int32).toInt = 0 := rfl; omega)
      ·
        replace c182 := ti_eqN c182 rfl (show (34 : Int32).toInt = 34 from rfl)
        have b_Ic5_37 := tI_37 hI_Ic5
        obtain ⟨r9, h_r9, p_r9⟩ := ro (t_fault (x0 := (1 : Int32)) (x1 := (Ic5 37))  hI_Ic5 hA_Ac5 (by decide) (by omega))
        refine ok_clR h_r9 ?_
        dsimp only at p_r9
        exact ok_ret ⟨hI_Ic5, hA_Ac5, (show (0 : Int) ≤ r9.toInt ∧ r9.toInt ≤ (92100 : Int) from (by omega)), (by show (Ic5 37).toInt ≤ (Ic5 1).toInt ∧ aa < (Ic5 37).toInt; omega), (by show (Ic5 29).toInt ≤ 1999; omega)⟩
    ·
      replace c180 := ti_eqN c180 rfl (show (0 : Int32).toInt = 0 from rfl)
      exact t_readTag_91 (aa := aa)  hself71 (x1 := x1) (x2 := x2) (x3 := x3) (x4 := x4) (x5 := x5) hI hA r_x1 r_x2 r_x3 r_x4 r_x5 (by omega) q1 q2 q3 q4 q5 m71
  ·
    replace c179 := ti_eqN c179 rfl (show (0 : Int32).toInt = 0 from rfl)
    exact t_readTag_91 (aa := aa)  hself71 (x1 := x1) (x2 := x2) (x3 := x3) (x4 := x4) (x5 := x5) hI hA r_x1 r_x2 r_x3 r_x4 r_x5 (by omega) q1 q2 q3 q4 q5 m71
theorem t_readTag_71 {aa : Int}  : ∀ (n : Nat) (x1 : Int32) (x2 : Int32) (x3 : Int32) (x4 : Int32) (x5 : Int32) (I : Nat → Int32) (A : Nat → Nat → Int32), TJ I → TK A → ((0 : Int) ≤ x1.toInt ∧ x1.toInt ≤ (1 : Int)) → ((0 : Int) ≤ x2.toInt ∧ x2.toInt ≤ (2000 : Int)) → ((0 : Int) ≤ x3.toInt ∧ x3.toInt ≤ (8 : Int)) → ((0 : Int) ≤ x4.toInt ∧ x4.toInt ≤ (1 : Int)) → ((0 : Int) ≤ x5.toInt ∧ x5.toInt ≤ (2100 : Int)) → ((I 37).toInt ≤ (I 1).toInt) → (aa < (I 37).toInt) → ((I 29).toInt ≤ 1999) → (x5.toInt ≤ (I 37).toInt) → (x4.toInt = 0 → x3.toInt ≤ 7) → (cE A (x1).toNatClampNeg x3.toInt) → ((I 1).toInt - (I 37).toInt) < (n : Int) → Ok (f_readTag_71  n x1 x2 x3 x4 x5 I A) (fun o => TJ o.2.1 ∧ TK o.2.2 ∧ ((0 : Int) ≤ o.1.toInt ∧ o.1.toInt ≤ (92100 : Int)) ∧ ((o.2.1 37).toInt ≤ (o.2.1 1).toInt ∧ aa < (o.2.1 37).toInt) ∧ ((o.2.1 29).toInt ≤ 1999)) := by
  intro n
  induction n with
  | zero => intro x1 x2 x3 x4 x5 I A hI hA g0 g1 g2 g3 g4 g5 g6 g7 g8 g9 g10  hm; exfalso; omega
  | succ n ih =>
    intro x1 x2 x3 x4 x5 I A hI hA g0 g1 g2 g3 g4 g5 g6 g7 g8 g9 g10  hm
    exact t_readTag_71s (aa := aa)  (N71 := n)  ih hI hA g0 g1 g2 g3 g4 g5 g6 g7 g8 g9 g10  (by omega)
theorem t_readTag_23 {aa : Int} {I : Nat → Int32} {A : Nat → Nat → Int32} {x1 : Int32} {x2 : Int32} {x3 : Int32} {t0 : Int32} (hI : TJ I) (hA : TK A) (r_x1 : (0 : Int) ≤ x1.toInt ∧ x1.toInt ≤ (1 : Int)) (r_x2 : (0 : Int) ≤ x2.toInt ∧ x2.toInt ≤ (2000 : Int)) (r_x3 : (0 : Int) ≤ x3.toInt ∧ x3.toInt ≤ (8 : Int)) (r_t0 : (0 : Int) ≤ t0.toInt ∧ t0.toInt ≤ (1 : Int)) (q0 : (I 37).toInt < (I 1).toInt) (q1 : aa ≤ (I 37).toInt) (q2 : (I 29).toInt ≤ 1999) (q3 : t0.toInt = 0 → x3.toInt ≤ 7) (q4 : cE A (x1).toNatClampNeg x3.toInt) : Ok (f_readTag_23 x1 x2 x3 t0 I A) (fun o => TJ o.2.1 ∧ TK o.2.2 ∧ ((0 : Int) ≤ o.1.toInt ∧ o.1.toInt ≤ (92100 : Int)) ∧ ((o.2.1 37).toInt ≤ (o.2.1 1).toInt ∧ aa < (o.2.1 37).toInt) ∧ ((o.2.1 29).toInt ≤ 1999)) := by
  unfold f_readTag_23
  have b_I_1 := tI_1 hI
  have b_I_37 := tI_37 hI
  have b_I_29 := tI_29 hI
  refine ok_bnd (fun v1 e185 => ?_)
  have t_v1 : v1.toInt = (I 37).toInt + 1 := ti_add e185 rfl (show (1 : Int32).toInt = 1 from rfl) (by omega) (by omega)
  refine ok_bnd (fun I2 e186 => ?_)
  have hI_I2 : TJ I2 := e186.symm ▸ tj_u hI (k := 37) (show (0 : Int) ≤ v1.toInt from (by omega)) (show v1.toInt ≤ (2100 : Int) from (by omega))
  have : (I2 1).toInt = (I 1).toInt := by rw [e186]; rfl
  have : (I2 37).toInt = v1.toInt := by rw [e186]; exact rfl
  have : (I2 29).toInt = (I 29).toInt := by rw [e186]; rfl
  have b_I2_1 := tI_1 hI_I2
  have b_I2_37 := tI_37 hI_I2
  obtain ⟨⟨r3, Ic3, Ac3⟩, h_r3, hI_Ic3, hA_Ac3, p_r3_0⟩ := t_blanks   hI_I2 hA (show (I2 37).toInt ≤ (I2 37).toInt ∧ (I2 37).toInt ≤ (I2 1).toInt ∧ (I2 1).toInt ≤ (I2 1).toInt from ⟨Int.le_refl _, by omega, Int.le_refl _⟩)
  replace hI_Ic3 : TJ Ic3 := hI_Ic3
  replace hA_Ac3 : TK Ac3 := hA_Ac3
  dsimp only at p_r3_0
  refine ok_clR h_r3 ?_
  have f_r3 := fw_blanks h_r3
  have : (Ic3 1).toInt = (I2 1).toInt := congrArg Int32.toInt (f_r3.1 1 (by decide))
  have : (Ic3 29).toInt = (I2 29).toInt := congrArg Int32.toInt (f_r3.1 29 (by decide))
  have k187 : cE Ac3 (x1).toNatClampNeg x3.toInt := cE_fr (f_r3.2 18 (by decide)) q4
  obtain ⟨r4, h_r4, p_r4⟩ := ro (t_look   hI_Ic3 hA_Ac3 )
  refine ok_clR h_r4 ?_
  dsimp only at p_r4
  obtain ⟨r5, h_r5, p_r5⟩ := ro (t_isLetter (x0 := r4)  hI_Ic3 hA_Ac3 )
  refine ok_clR h_r5 ?_
  dsimp only at p_r5
  refine ok_if (fun c188 => ?_) (fun c188 => ?_)
  ·
    replace c188 := ti_eqP c188 rfl (show (0 : Int32).toInt = 0 from rfl)
    obtain ⟨r6, h_r6, p_r6⟩ := ro (t_look   hI_Ic3 hA_Ac3 )
    refine ok_clR h_r6 ?_
    dsimp only at p_r6
    obtain ⟨r7, h_r7, p_r7⟩ := ro (t_isDigit (x0 := r6)  hI_Ic3 hA_Ac3 )
    refine ok_clR h_r7 ?_
    dsimp only at p_r7
    refine ok_if (fun c189 => ?_) (fun c189 => ?_)
    ·
      replace c189 := ti_eqP c189 rfl (show (0 : Int32).toInt = 0 from rfl)
      have b_Ic3_37 := tI_37 hI_Ic3
      obtain ⟨r8, h_r8, p_r8⟩ := ro (t_fault (x0 := (1 : Int32)) (x1 := (Ic3 37))  hI_Ic3 hA_Ac3 (by decide) (by omega))
      refine ok_clR h_r8 ?_
      dsimp only at p_r8
      exact ok_ret ⟨hI_Ic3, hA_Ac3, (show (0 : Int) ≤ r8.toInt ∧ r8.toInt ≤ (92100 : Int) from (by omega)), (by show (Ic3 37).toInt ≤ (Ic3 1).toInt ∧ aa < (Ic3 37).toInt; omega), (by show (Ic3 29).toInt ≤ 1999; omega)⟩
    ·
      replace c189 := ti_eqN c189 rfl (show (0 : Int32).toInt = 0 from rfl)
      have b_Ic3_1 := tI_1 hI_Ic3
      have b_Ic3_37 := tI_37 hI_Ic3
      have b_Ic3_29 := tI_29 hI_Ic3
      exact t_readTag_71 (aa := aa)    mFuel x1 x2 x3 t0 (0 : Int32) Ic3 Ac3 hI_Ic3 hA_Ac3 r_x1 r_x2 r_x3 r_t0 (by decide) (by have z0 : (0 : Int32).toInt = 0 := rfl; omega) (by have z0 : (0 : Int32).toInt = 0 := rfl; omega) (by have z0 : (0 : Int32).toInt = 0 := rfl; omega) (by have z0 : (0 : Int32).toInt = 0 := rfl; omega) q3 k187 (by show _ < ((200000 : Nat) : Int); have z0 : (0 : Int32).toInt = 0 := rfl; omega)
  ·
    replace c188 := ti_eqN c188 rfl (show (0 : Int32).toInt = 0 from rfl)
    have b_Ic3_1 := tI_1 hI_Ic3
    have b_Ic3_37 := tI_37 hI_Ic3
    have b_Ic3_29 := tI_29 hI_Ic3
    exact t_readTag_71 (aa := aa)    mFuel x1 x2 x3 t0 (0 : Int32) Ic3 Ac3 hI_Ic3 hA_Ac3 r_x1 r_x2 r_x3 r_t0 (by decide) (by have z0 : (0 : Int32).toInt = 0 := rfl; omega) (by have z0 : (0 : Int32).toInt = 0 := rfl; omega) (by have z0 : (0 : Int32).toInt = 0 := rfl; omega) (by have z0 : (0 : Int32).toInt = 0 := rfl; omega) q3 k187 (by show _ < ((200000 : Nat) : Int); have z0 : (0 : Int32).toInt = 0 := rfl; omega)
theorem t_readTag_0 {aa : Int} {I : Nat → Int32} {A : Nat → Nat → Int32} {x1 : Int32} (hI : TJ I) (hA : TK A) (r_x1 : (0 : Int) ≤ x1.toInt ∧ x1.toInt ≤ (1 : Int)) (q0 : (I 37).toInt < (I 1).toInt) (q1 : aa ≤ (I 37).toInt) (q2 : (I 29).toInt ≤ 1999) : Ok (f_readTag_0 x1 I A) (fun o => TJ o.2.1 ∧ TK o.2.2 ∧ ((0 : Int) ≤ o.1.toInt ∧ o.1.toInt ≤ (92100 : Int)) ∧ ((o.2.1 37).toInt ≤ (o.2.1 1).toInt ∧ aa < (o.2.1 37).toInt) ∧ ((o.2.1 29).toInt ≤ 1999)) := by
  unfold f_readTag_0
  have b_I_1 := tI_1 hI
  have b_I_37 := tI_37 hI
  have b_I_29 := tI_29 hI
  refine ok_chk (ti_in (by omega) (by omega)) ?_
  refine ok_bnd (fun v1 e190 => ?_)
  have b_v1 := tA_18 hA ((x1).toNatClampNeg)
  rw [← e190] at b_v1
  refine ok_if (fun c191 => ?_) (fun c191 => ?_)
  ·
    replace c191 := ti_eqP c191 rfl (show (8 : Int32).toInt = 8 from rfl)
    exact t_readTag_23 (aa := aa)   (x1 := x1) (x2 := (I 37)) (x3 := v1) (t0 := (1 : Int32)) hI hA r_x1 (by omega) (by omega) (by decide) q0 q1 q2 (by have z0 : (1 : Int32).toInt = 1 := rfl; omega) (by unfold cE; rw [e190])
  ·
    replace c191 := ti_eqN c191 rfl (show (8 : Int32).toInt = 8 from rfl)
    exact t_readTag_23 (aa := aa)   (x1 := x1) (x2 := (I 37)) (x3 := v1) (t0 := (0 : Int32)) hI hA r_x1 (by omega) (by omega) (by decide) q0 q1 q2 (by have z0 : (0 : Int32).toInt = 0 := rfl; omega) (by unfold cE; rw [e190])
theorem t_readTag {aa : Int} {I : Nat → Int32} {A : Nat → Nat → Int32} {x1 : Int32} (hI : TJ I) (hA : TK A) (r_x1 : (0 : Int) ≤ x1.toInt ∧ x1.toInt ≤ (1 : Int)) (q0 : (I 37).toInt < (I 1).toInt) (q1 : aa ≤ (I 37).toInt) (q2 : (I 29).toInt ≤ 1999) : Ok (f_readTag x1 I A) (fun o => TJ o.2.1 ∧ TK o.2.2 ∧ ((0 : Int) ≤ o.1.toInt ∧ o.1.toInt ≤ (92100 : Int)) ∧ ((o.2.1 37).toInt ≤ (o.2.1 1).toInt ∧ aa < (o.2.1 37).toInt) ∧ ((o.2.1 29).toInt ≤ 1999)) := t_readTag_0 (aa := aa) hI hA r_x1 q0 q1 q2
theorem t_readRemarks_344 {aa : Int} {I : Nat → Int32} {A : Nat → Nat → Int32} {self4 : Int32 → Int32 → (Nat → Int32) → (Nat → Nat → Int32) → Option (Int32 × MS)} {N4 : Nat} (hself4 : ∀ (x1 : Int32) (x2 : Int32) (I : Nat → Int32) (A : Nat → Nat → Int32), TJ I → TK A → ((0 : Int) ≤ x1.toInt ∧ x1.toInt ≤ (1 : Int)) → ((0 : Int) ≤ x2.toInt ∧ x2.toInt ≤ (300 : Int)) → ((I 37).toInt ≤ (I 1).toInt) → (aa ≤ (I 37).toInt) → ((I 1).toInt - (I 37).toInt) < (N4 : Int) → Ok (self4 x1 x2 I A) (fun o => TJ o.2.1 ∧ TK o.2.2 ∧ ((0 : Int) ≤ o.1.toInt ∧ o.1.toInt ≤ (92100 : Int)) ∧ ((o.2.1 37).toInt ≤ (o.2.1 1).toInt ∧ aa ≤ (o.2.1 37).toInt))) {x1 : Int32} {x2 : Int32} {t0 : Int32} (hI : TJ I) (hA : TK A) (r_x1 : (0 : Int) ≤ x1.toInt ∧ x1.toInt ≤ (1 : Int)) (r_x2 : (0 : Int) ≤ x2.toInt ∧ x2.toInt ≤ (300 : Int)) (r_t0 : (0 : Int) ≤ t0.toInt ∧ t0.toInt ≤ (2000 : Int)) (q0 : t0.toInt ≤ (I 1).toInt) (q1 : aa ≤ t0.toInt) (m4 : ((I 1).toInt - t0.toInt + 1) ≤ (N4 : Int)) : Ok (f_readRemarks_344 self4 x1 x2 t0 I A) (fun o => TJ o.2.1 ∧ TK o.2.2 ∧ ((0 : Int) ≤ o.1.toInt ∧ o.1.toInt ≤ (92100 : Int)) ∧ ((o.2.1 37).toInt ≤ (o.2.1 1).toInt ∧ aa ≤ (o.2.1 37).toInt)) := by
  unfold f_readRemarks_344
  have b_I_1 := tI_1 hI
  have b_I_37 := tI_37 hI
  refine ok_bnd (fun I1 e192 => ?_)
  have hI_I1 : TJ I1 := e192.symm ▸ tj_u hI (k := 37) (show (0 : Int) ≤ t0.toInt from (by omega)) (show t0.toInt ≤ (2100 : Int) from (by omega))
  have : (I1 1).toInt = (I 1).toInt := by rw [e192]; rfl
  have : (I1 37).toInt = t0.toInt := by rw [e192]; exact rfl
  have b_I1_1 := tI_1 hI_I1
  have b_I1_37 := tI_37 hI_I1
  obtain ⟨⟨r2, Ic2, Ac2⟩, h_r2, hI_Ic2, hA_Ac2, p_r2_0⟩ := t_blanks   hI_I1 hA (show (I1 37).toInt ≤ (I1 37).toInt ∧ (I1 37).toInt ≤ (I1 1).toInt ∧ (I1 1).toInt ≤ (I1 1).toInt from ⟨Int.le_refl _, by omega, Int.le_refl _⟩)
  replace hI_Ic2 : TJ Ic2 := hI_Ic2
  replace hA_Ac2 : TK Ac2 := hA_Ac2
  dsimp only at p_r2_0
  refine ok_clR h_r2 ?_
  have f_r2 := fw_blanks h_r2
  have : (Ic2 1).toInt = (I1 1).toInt := congrArg Int32.toInt (f_r2.1 1 (by decide))
  have b_Ic2_1 := tI_1 hI_Ic2
  have b_Ic2_37 := tI_37 hI_Ic2
  exact hself4 x1 x2 Ic2 Ac2 hI_Ic2 hA_Ac2 r_x1 r_x2 (by omega) (by omega) (by omega)
theorem t_readRemarks_303 {aa : Int} {I : Nat → Int32} {A : Nat → Nat → Int32} {self4 : Int32 → Int32 → (Nat → Int32) → (Nat → Nat → Int32) → Option (Int32 × MS)} {N4 : Nat} (hself4 : ∀ (x1 : Int32) (x2 : Int32) (I : Nat → Int32) (A : Nat → Nat → Int32), TJ I → TK A → ((0 : Int) ≤ x1.toInt ∧ x1.toInt ≤ (1 : Int)) → ((0 : Int) ≤ x2.toInt ∧ x2.toInt ≤ (300 : Int)) → ((I 37).toInt ≤ (I 1).toInt) → (aa ≤ (I 37).toInt) → ((I 1).toInt - (I 37).toInt) < (N4 : Int) → Ok (self4 x1 x2 I A) (fun o => TJ o.2.1 ∧ TK o.2.2 ∧ ((0 : Int) ≤ o.1.toInt ∧ o.1.toInt ≤ (92100 : Int)) ∧ ((o.2.1 37).toInt ≤ (o.2.1 1).toInt ∧ aa ≤ (o.2.1 37).toInt))) {self247 : Int32 → Int32 → Int32 → Int32 → Int32 → Int32 → Int32 → Int32 → Int32 → (Nat → Int32) → (Nat → Nat → Int32) → Option (Int32 × MS)} {N247 : Nat} (hself247 : ∀ (x1 : Int32) (x2 : Int32) (x4 : Int32) (x5 : Int32) (x6 : Int32) (x7 : Int32) (x8 : Int32) (x9 : Int32) (x10 : Int32) (I : Nat → Int32) (A : Nat → Nat → Int32), TJ I → TK A → ((0 : Int) ≤ x1.toInt ∧ x1.toInt ≤ (1 : Int)) → ((0 : Int) ≤ x2.toInt ∧ x2.toInt ≤ (300 : Int)) → ((0 : Int) ≤ x4.toInt ∧ x4.toInt ≤ (1 : Int)) → ((0 : Int) ≤ x5.toInt ∧ x5.toInt ≤ (2000 : Int)) → ((0 : Int) ≤ x6.toInt ∧ x6.toInt ≤ (2000 : Int)) → ((0 : Int) ≤ x7.toInt ∧ x7.toInt ≤ (601 : Int)) → ((0 : Int) ≤ x8.toInt ∧ x8.toInt ≤ (200 : Int)) → ((0 : Int) ≤ x9.toInt ∧ x9.toInt ≤ (1 : Int)) → ((0 : Int) ≤ x10.toInt ∧ x10.toInt ≤ (2000 : Int)) → ((I 37).toInt ≤ (I 1).toInt) → (aa ≤ (I 37).toInt) → (x8.toInt + x9.toInt + x6.toInt ≤ 200) → (x5.toInt + x6.toInt = (I 37).toInt) → (x4.toInt = 1 → (I 37).toInt < (I 1).toInt) → (((I 1).toInt - (I 37).toInt + 1) ≤ (N4 : Int)) → (2001 - x10.toInt) < (N247 : Int) → Ok (self247 x1 x2 x4 x5 x6 x7 x8 x9 x10 I A) (fun o => TJ o.2.1 ∧ TK o.2.2 ∧ ((0 : Int) ≤ o.1.toInt ∧ o.1.toInt ≤ (92100 : Int)) ∧ ((o.2.1 37).toInt ≤ (o.2.1 1).toInt ∧ aa ≤ (o.2.1 37).toInt))) {x1 : Int32} {x2 : Int32} {x4 : Int32} {x5 : Int32} {x6 : Int32} {x7 : Int32} {x8 : Int32} {x9 : Int32} {x10 : Int32} {t0 : Int32} {t1 : Int32} (hI : TJ I) (hA : TK A) (r_x1 : (0 : Int) ≤ x1.toInt ∧ x1.toInt ≤ (1 : Int)) (r_x2 : (0 : Int) ≤ x2.toInt ∧ x2.toInt ≤ (300 : Int)) (r_x4 : (0 : Int) ≤ x4.toInt ∧ x4.toInt ≤ (1 : Int)) (r_x5 : (0 : Int) ≤ x5.toInt ∧ x5.toInt ≤ (2000 : Int)) (r_x6 : (0 : Int) ≤ x6.toInt ∧ x6.toInt ≤ (2000 : Int)) (r_x7 : (0 : Int) ≤ x7.toInt ∧ x7.toInt ≤ (601 : Int)) (r_x8 : (0 : Int) ≤ x8.toInt ∧ x8.toInt ≤ (200 : Int)) (r_x9 : (0 : Int) ≤ x9.toInt ∧ x9.toInt ≤ (1 : Int)) (r_x10 : (0 : Int) ≤ x10.toInt ∧ x10.toInt ≤ (1999 : Int)) (r_t1 : (0 : Int) ≤ t1.toInt ∧ t1.toInt ≤ (120399 : Int)) (q0 : (I 37).toInt ≤ (I 1).toInt) (q1 : aa ≤ (I 37).toInt) (q2 : x8.toInt + x9.toInt + x6.toInt ≤ 200) (q3 : x5.toInt + x6.toInt = (I 37).toInt) (q4 : x4.toInt = 1 → (I 37).toInt < (I 1).toInt) (m4 : ((I 1).toInt - (I 37).toInt + 1) ≤ (N4 : Int)) (m247 : (2001 - x10.toInt) ≤ (N247 : Int)) : Ok (f_readRemarks_303 self4 self247 x1 x2 x4 x5 x6 x7 x8 x9 x10 t0 t1 I A) (fun o => TJ o.2.1 ∧ TK o.2.2 ∧ ((0 : Int) ≤ o.1.toInt ∧ o.1.toInt ≤ (92100 : Int)) ∧ ((o.2.1 37).toInt ≤ (o.2.1 1).toInt ∧ aa ≤ (o.2.1 37).toInt)) := by
  unfold f_readRemarks_303
  have b_I_1 := tI_1 hI
  have b_I_37 := tI_37 hI
  refine ok_chk (ti_in (by omega) (by omega)) ?_
  refine ok_bnd (fun A1 e193 => ?_)
  have hA_A1 : TK A1 := e193.symm ▸ tk_n hA rfl
  refine ok_bnd (fun v2 e194 => ?_)
  have t_v2 : v2.toInt = x10.toInt + 1 := ti_add e194 rfl (show (1 : Int32).toInt = 1 from rfl) (by omega) (by omega)
  exact hself247 x1 x2 x4 x5 x6 x7 x8 x9 v2 I A1 hI hA_A1 r_x1 r_x2 r_x4 r_x5 r_x6 r_x7 r_x8 r_x9 (by omega) q0 q1 q2 q3 q4 m4 (by omega)
theorem t_readRemarks_247s {aa : Int} {I : Nat → Int32} {A : Nat → Nat → Int32} {self4 : Int32 → Int32 → (Nat → Int32) → (Nat → Nat → Int32) → Option (Int32 × MS)} {N4 : Nat} (hself4 : ∀ (x1 : Int32) (x2 : Int32) (I : Nat → Int32) (A : Nat → Nat → Int32), TJ I → TK A → ((0 : Int) ≤ x1.toInt ∧ x1.toInt ≤ (1 : Int)) → ((0 : Int) ≤ x2.toInt ∧ x2.toInt ≤ (300 : Int)) → ((I 37).toInt ≤ (I 1).toInt) → (aa ≤ (I 37).toInt) → ((I 1).toInt - (I 37).toInt) < (N4 : Int) → Ok (self4 x1 x2 I A) (fun o => TJ o.2.1 ∧ TK o.2.2 ∧ ((0 : Int) ≤ o.1.toInt ∧ o.1.toInt ≤ (92100 : Int)) ∧ ((o.2.1 37).toInt ≤ (o.2.1 1).toInt ∧ aa ≤ (o.2.1 37).toInt))) {self247 : Int32 → Int32 → Int32 → Int32 → Int32 → Int32 → Int32 → Int32 → Int32 → (Nat → Int32) → (Nat → Nat → Int32) → Option (Int32 × MS)} {N247 : Nat} (hself247 : ∀ (x1 : Int32) (x2 : Int32) (x4 : Int32) (x5 : Int32) (x6 : Int32) (x7 : Int32) (x8 : Int32) (x9 : Int32) (x10 : Int32) (I : Nat → Int32) (A : Nat → Nat → Int32), TJ I → TK A → ((0 : Int) ≤ x1.toInt ∧ x1.toInt ≤ (1 : Int)) → ((0 : Int) ≤ x2.toInt ∧ x2.toInt ≤ (300 : Int)) → ((0 : Int) ≤ x4.toInt ∧ x4.toInt ≤ (1 : Int)) → ((0 : Int) ≤ x5.toInt ∧ x5.toInt ≤ (2000 : Int)) → ((0 : Int) ≤ x6.toInt ∧ x6.toInt ≤ (2000 : Int)) → ((0 : Int) ≤ x7.toInt ∧ x7.toInt ≤ (601 : Int)) → ((0 : Int) ≤ x8.toInt ∧ x8.toInt ≤ (200 : Int)) → ((0 : Int) ≤ x9.toInt ∧ x9.toInt ≤ (1 : Int)) → ((0 : Int) ≤ x10.toInt ∧ x10.toInt ≤ (2000 : Int)) → ((I 37).toInt ≤ (I 1).toInt) → (aa ≤ (I 37).toInt) → (x8.toInt + x9.toInt + x6.toInt ≤ 200) → (x5.toInt + x6.toInt = (I 37).toInt) → (x4.toInt = 1 → (I 37).toInt < (I 1).toInt) → (((I 1).toInt - (I 37).toInt + 1) ≤ (N4 : Int)) → (2001 - x10.toInt) < (N247 : Int) → Ok (self247 x1 x2 x4 x5 x6 x7 x8 x9 x10 I A) (fun o => TJ o.2.1 ∧ TK o.2.2 ∧ ((0 : Int) ≤ o.1.toInt ∧ o.1.toInt ≤ (92100 : Int)) ∧ ((o.2.1 37).toInt ≤ (o.2.1 1).toInt ∧ aa ≤ (o.2.1 37).toInt))) {x1 : Int32} {x2 : Int32} {x4 : Int32} {x5 : Int32} {x6 : Int32} {x7 : Int32} {x8 : Int32} {x9 : Int32} {x10 : Int32} (hI : TJ I) (hA : TK A) (r_x1 : (0 : Int) ≤ x1.toInt ∧ x1.toInt ≤ (1 : Int)) (r_x2 : (0 : Int) ≤ x2.toInt ∧ x2.toInt ≤ (300 : Int)) (r_x4 : (0 : Int) ≤ x4.toInt ∧ x4.toInt ≤ (1 : Int)) (r_x5 : (0 : Int) ≤ x5.toInt ∧ x5.toInt ≤ (2000 : Int)) (r_x6 : (0 : Int) ≤ x6.toInt ∧ x6.toInt ≤ (2000 : Int)) (r_x7 : (0 : Int) ≤ x7.toInt ∧ x7.toInt ≤ (601 : Int)) (r_x8 : (0 : Int) ≤ x8.toInt ∧ x8.toInt ≤ (200 : Int)) (r_x9 : (0 : Int) ≤ x9.toInt ∧ x9.toInt ≤ (1 : Int)) (r_x10 : (0 : Int) ≤ x10.toInt ∧ x10.toInt ≤ (2000 : Int)) (q0 : (I 37).toInt ≤ (I 1).toInt) (q1 : aa ≤ (I 37).toInt) (q2 : x8.toInt + x9.toInt + x6.toInt ≤ 200) (q3 : x5.toInt + x6.toInt = (I 37).toInt) (q4 : x4.toInt = 1 → (I 37).toInt < (I 1).toInt) (m4 : ((I 1).toInt - (I 37).toInt + 1) ≤ (N4 : Int)) (m247 : (2001 - x10.toInt) ≤ (N247 : Int)) : Ok (f_readRemarks_247s self4 self247 x1 x2 x4 x5 x6 x7 x8 x9 x10 I A) (fun o => TJ o.2.1 ∧ TK o.2.2 ∧ ((0 : Int) ≤ o.1.toInt ∧ o.1.toInt ≤ (92100 : Int)) ∧ ((o.2.1 37).toInt ≤ (o.2.1 1).toInt ∧ aa ≤ (o.2.1 37).toInt)) := by
  unfold f_readRemarks_247s
  have b_I_1 := tI_1 hI
  have b_I_37 := tI_37 hI
  refine ok_if (fun c195 => ?_) (fun c195 => ?_)
  ·
    replace c195 := ti_leP c195 rfl rfl
    refine ok_bnd (fun v1 e196 => ?_)
    have t_v1 : v1.toInt = x8.toInt + x9.toInt := ti_add e196 rfl rfl (by omega) (by omega)
    refine ok_bnd (fun v2 e197 => ?_)
    have t_v2 : v2.toInt = v1.toInt + x6.toInt := ti_add e197 rfl rfl (by omega) (by omega)
    refine ok_chk (ti_in (by omega) (by omega)) ?_
    refine ok_bnd (fun A3 e198 => ?_)
    have hA_A3 : TK A3 := e198.symm ▸ tk_u hA (j := 14) (show (0 : Int) ≤ v2.toInt from (by omega)) (show v2.toInt ≤ (200 : Int) from (by omega))
    refine ok_if (fun c199 => ?_) (fun c199 => ?_)
    ·
      replace c199 := ti_eqP c199 rfl (show (0 : Int32).toInt = 0 from rfl)
      exact t_readRemarks_344 (aa := aa)  hself4 (x1 := x1) (x2 := x2) (t0 := (I 37)) hI hA_A3 r_x1 r_x2 (by omega) q0 q1 m4
    ·
      replace c199 := ti_eqN c199 rfl (show (0 : Int32).toInt = 0 from rfl)
      refine ok_bnd (fun v4 e200 => ?_)
      have t_v4 : v4.toInt = (I 37).toInt + 1 := ti_add e200 rfl (show (1 : Int32).toInt = 1 from rfl) (by omega) (by omega)
      exact t_readRemarks_344 (aa := aa)  hself4 (x1 := x1) (x2 := x2) (t0 := v4) hI hA_A3 r_x1 r_x2 (by omega) (by omega) (by omega) (by omega)
  ·
    replace c195 := ti_leN c195 rfl rfl
    refine ok_bnd (fun v5 e201 => ?_)
    have t_v5 : v5.toInt = 200 * x7.toInt := ti_mul e201 (show (200 : Int32).toInt = 200 from rfl) rfl (by omega) (by omega)
    refine ok_bnd (fun v6 e202 => ?_)
    have t_v6 : v6.toInt = v5.toInt + x8.toInt := ti_add e202 rfl rfl (by omega) (by omega)
    refine ok_bnd (fun v7 e203 => ?_)
    have t_v7 : v7.toInt = v6.toInt + x9.toInt := ti_add e203 rfl rfl (by omega) (by omega)
    refine ok_bnd (fun v8 e204 => ?_)
    have t_v8 : v8.toInt = v7.toInt + x10.toInt := ti_add e204 rfl rfl (by omega) (by omega)
    refine ok_bnd (fun v9 e205 => ?_)
    have t_v9 : v9.toInt = x5.toInt + x10.toInt := ti_add e205 rfl rfl (by omega) (by omega)
    refine ok_chk (ti_in (by omega) (by omega)) ?_
    refine ok_bnd (fun v10 e206 => ?_)
    have b_v10 := tA_2 hA ((v9).toNatClampNeg)
    rw [← e206] at b_v10
    refine ok_if (fun c207 => ?_) (fun c207 => ?_)
    ·
      replace c207 := ti_eqP c207 rfl (show (10 : Int32).toInt = 10 from rfl)
      exact t_readRemarks_303 (aa := aa)  hself4 hself247 (x1 := x1) (x2 := x2) (x4 := x4) (x5 := x5) (x6 := x6) (x7 := x7) (x8 := x8) (x9 := x9) (x10 := x10) (t0 := (32 : Int32)) (t1 := v8) hI hA r_x1 r_x2 r_x4 r_x5 r_x6 r_x7 r_x8 r_x9 (by omega) (by omega) q0 q1 q2 q3 q4 m4 m247
    ·
      replace c207 := ti_eqN c207 rfl (show (10 : Int32).toInt = 10 from rfl)
      refine ok_bnd (fun v11 e208 => ?_)
      have t_v11 : v11.toInt = x5.toInt + x10.toInt := ti_add e208 rfl rfl (by omega) (by omega)
      refine ok_chk (ti_in (by omega) (by omega)) ?_
      refine ok_bnd (fun v12 e209 => ?_)
      have b_v12 := tA_2 hA ((v11).toNatClampNeg)
      rw [← e209] at b_v12
      exact t_readRemarks_303 (aa := aa)  hself4 hself247 (x1 := x1) (x2 := x2) (x4 := x4) (x5 := x5) (x6 := x6) (x7 := x7) (x8 := x8) (x9 := x9) (x10 := x10) (t0 := v12) (t1 := v8) hI hA r_x1 r_x2 r_x4 r_x5 r_x6 r_x7 r_x8 r_x9 (by omega) (by omega) q0 q1 q2 q3 q4 m4 m247
theorem t_readRemarks_247 {aa : Int} {self4 : Int32 → Int32 → (Nat → Int32) → (Nat → Nat → Int32) → Option (Int32 × MS)} {N4 : Nat} (hself4 : ∀ (x1 : Int32) (x2 : Int32) (I : Nat → Int32) (A : Nat → Nat → Int32), TJ I → TK A → ((0 : Int) ≤ x1.toInt ∧ x1.toInt ≤ (1 : Int)) → ((0 : Int) ≤ x2.toInt ∧ x2.toInt ≤ (300 : Int)) → ((I 37).toInt ≤ (I 1).toInt) → (aa ≤ (I 37).toInt) → ((I 1).toInt - (I 37).toInt) < (N4 : Int) → Ok (self4 x1 x2 I A) (fun o => TJ o.2.1 ∧ TK o.2.2 ∧ ((0 : Int) ≤ o.1.toInt ∧ o.1.toInt ≤ (92100 : Int)) ∧ ((o.2.1 37).toInt ≤ (o.2.1 1).toInt ∧ aa ≤ (o.2.1 37).toInt))) : ∀ (n : Nat) (x1 : Int32) (x2 : Int32) (x4 : Int32) (x5 : Int32) (x6 : Int32) (x7 : Int32) (x8 : Int32) (x9 : Int32) (x10 : Int32) (I : Nat → Int32) (A : Nat → Nat → Int32), TJ I → TK A → ((0 : Int) ≤ x1.toInt ∧ x1.toInt ≤ (1 : Int)) → ((0 : Int) ≤ x2.toInt ∧ x2.toInt ≤ (300 : Int)) → ((0 : Int) ≤ x4.toInt ∧ x4.toInt ≤ (1 : Int)) → ((0 : Int) ≤ x5.toInt ∧ x5.toInt ≤ (2000 : Int)) → ((0 : Int) ≤ x6.toInt ∧ x6.toInt ≤ (2000 : Int)) → ((0 : Int) ≤ x7.toInt ∧ x7.toInt ≤ (601 : Int)) → ((0 : Int) ≤ x8.toInt ∧ x8.toInt ≤ (200 : Int)) → ((0 : Int) ≤ x9.toInt ∧ x9.toInt ≤ (1 : Int)) → ((0 : Int) ≤ x10.toInt ∧ x10.toInt ≤ (2000 : Int)) → ((I 37).toInt ≤ (I 1).toInt) → (aa ≤ (I 37).toInt) → (x8.toInt + x9.toInt + x6.toInt ≤ 200) → (x5.toInt + x6.toInt = (I 37).toInt) → (x4.toInt = 1 → (I 37).toInt < (I 1).toInt) → (((I 1).toInt - (I 37).toInt + 1) ≤ (N4 : Int)) → (2001 - x10.toInt) < (n : Int) → Ok (f_readRemarks_247 self4 n x1 x2 x4 x5 x6 x7 x8 x9 x10 I A) (fun o => TJ o.2.1 ∧ TK o.2.2 ∧ ((0 : Int) ≤ o.1.toInt ∧ o.1.toInt ≤ (92100 : Int)) ∧ ((o.2.1 37).toInt ≤ (o.2.1 1).toInt ∧ aa ≤ (o.2.1 37).toInt)) := by
  intro n
  induction n with
  | zero => intro x1 x2 x4 x5 x6 x7 x8 x9 x10 I A hI hA g0 g1 g2 g3 g4 g5 g6 g7 g8 g9 g10 g11 g12 g13 w0 hm; exfalso; omega
  | succ n ih =>
    intro x1 x2 x4 x5 x6 x7 x8 x9 x10 I A hI hA g0 g1 g2 g3 g4 g5 g6 g7 g8 g9 g10 g11 g12 g13 w0 hm
    exact t_readRemarks_247s (aa := aa)  (N247 := n) hself4 ih hI hA g0 g1 g2 g3 g4 g5 g6 g7 g8 g9 g10 g11 g12 g13 w0 (by omega)
theorem t_readRemarks_244 {aa : Int} {I : Nat → Int32} {A : Nat → Nat → Int32} {self4 : Int32 → Int32 → (Nat → Int32) → (Nat → Nat → Int32) → Option (Int32 × MS)} {N4 : Nat} (hself4 : ∀ (x1 : Int32) (x2 : Int32) (I : Nat → Int32) (A : Nat → Nat → Int32), TJ I → TK A → ((0 : Int) ≤ x1.toInt ∧ x1.toInt ≤ (1 : Int)) → ((0 : Int) ≤ x2.toInt ∧ x2.toInt ≤ (300 : Int)) → ((I 37).toInt ≤ (I 1).toInt) → (aa ≤ (I 37).toInt) → ((I 1).toInt - (I 37).toInt) < (N4 : Int) → Ok (self4 x1 x2 I A) (fun o => TJ o.2.1 ∧ TK o.2.2 ∧ ((0 : Int) ≤ o.1.toInt ∧ o.1.toInt ≤ (92100 : Int)) ∧ ((o.2.1 37).toInt ≤ (o.2.1 1).toInt ∧ aa ≤ (o.2.1 37).toInt))) {x1 : Int32} {x2 : Int32} {x4 : Int32} {x5 : Int32} {x6 : Int32} {x7 : Int32} {x8 : Int32} {x9 : Int32} (hI : TJ I) (hA : TK A) (r_x1 : (0 : Int) ≤ x1.toInt ∧ x1.toInt ≤ (1 : Int)) (r_x2 : (0 : Int) ≤ x2.toInt ∧ x2.toInt ≤ (300 : Int)) (r_x4 : (0 : Int) ≤ x4.toInt ∧ x4.toInt ≤ (1 : Int)) (r_x5 : (0 : Int) ≤ x5.toInt ∧ x5.toInt ≤ (2000 : Int)) (r_x6 : (0 : Int) ≤ x6.toInt ∧ x6.toInt ≤ (2000 : Int)) (r_x7 : (0 : Int) ≤ x7.toInt ∧ x7.toInt ≤ (601 : Int)) (r_x8 : (0 : Int) ≤ x8.toInt ∧ x8.toInt ≤ (200 : Int)) (r_x9 : (0 : Int) ≤ x9.toInt ∧ x9.toInt ≤ (1 : Int)) (q0 : (I 37).toInt ≤ (I 1).toInt) (q1 : aa ≤ (I 37).toInt) (q2 : x8.toInt + x9.toInt + x6.toInt ≤ 200) (q3 : x5.toInt + x6.toInt = (I 37).toInt) (q4 : x4.toInt = 1 → (I 37).toInt < (I 1).toInt) (m4 : ((I 1).toInt - (I 37).toInt + 1) ≤ (N4 : Int)) : Ok (f_readRemarks_244 self4 x1 x2 x4 x5 x6 x7 x8 x9 I A) (fun o => TJ o.2.1 ∧ TK o.2.2 ∧ ((0 : Int) ≤ o.1.toInt ∧ o.1.toInt ≤ (92100 : Int)) ∧ ((o.2.1 37).toInt ≤ (o.2.1 1).toInt ∧ aa ≤ (o.2.1 37).toInt)) := by
  unfold f_readRemarks_244
  have b_I_1 := tI_1 hI
  have b_I_37 := tI_37 hI
  exact t_readRemarks_247 (aa := aa)  hself4  mFuel x1 x2 x4 x5 x6 x7 x8 x9 (0 : Int32) I A hI hA r_x1 r_x2 r_x4 r_x5 r_x6 r_x7 r_x8 r_x9 (by decide) q0 q1 q2 q3 q4 m4 (by show _ < ((200000 : Nat) : Int); have z0 : (0 : Int32).toInt = 0 := rfl; omega)
theorem t_readRemarks_199 {aa : Int} {I : Nat → Int32} {A : Nat → Nat → Int32} {self4 : Int32 → Int32 → (Nat → Int32) → (Nat → Nat → Int32) → Option (Int32 × MS)} {N4 : Nat} (hself4 : ∀ (x1 : Int32) (x2 : Int32) (I : Nat → Int32) (A : Nat → Nat → Int32), TJ I → TK A → ((0 : Int) ≤ x1.toInt ∧ x1.toInt ≤ (1 : Int)) → ((0 : Int) ≤ x2.toInt ∧ x2.toInt ≤ (300 : Int)) → ((I 37).toInt ≤ (I 1).toInt) → (aa ≤ (I 37).toInt) → ((I 1).toInt - (I 37).toInt) < (N4 : Int) → Ok (self4 x1 x2 I A) (fun o => TJ o.2.1 ∧ TK o.2.2 ∧ ((0 : Int) ≤ o.1.toInt ∧ o.1.toInt ≤ (92100 : Int)) ∧ ((o.2.1 37).toInt ≤ (o.2.1 1).toInt ∧ aa ≤ (o.2.1 37).toInt))) {x1 : Int32} {x2 : Int32} {x3 : Int32} {x4 : Int32} {x5 : Int32} {x6 : Int32} {x7 : Int32} {x8 : Int32} {t0 : Int32} (hI : TJ I) (hA : TK A) (r_x1 : (0 : Int) ≤ x1.toInt ∧ x1.toInt ≤ (1 : Int)) (r_x2 : (0 : Int) ≤ x2.toInt ∧ x2.toInt ≤ (300 : Int)) (r_x3 : (0 : Int) ≤ x3.toInt ∧ x3.toInt ≤ (2000 : Int)) (r_x4 : (0 : Int) ≤ x4.toInt ∧ x4.toInt ≤ (1 : Int)) (r_x5 : (0 : Int) ≤ x5.toInt ∧ x5.toInt ≤ (2000 : Int)) (r_x6 : (0 : Int) ≤ x6.toInt ∧ x6.toInt ≤ (2000 : Int)) (r_x7 : (0 : Int) ≤ x7.toInt ∧ x7.toInt ≤ (601 : Int)) (r_x8 : (0 : Int) ≤ x8.toInt ∧ x8.toInt ≤ (200 : Int)) (r_t0 : (0 : Int) ≤ t0.toInt ∧ t0.toInt ≤ (1 : Int)) (q0 : (I 37).toInt ≤ (I 1).toInt) (q1 : aa ≤ (I 37).toInt) (q2 : x5.toInt + x6.toInt = (I 37).toInt) (q3 : x4.toInt = 1 → (I 37).toInt < (I 1).toInt) (m4 : ((I 1).toInt - (I 37).toInt + 1) ≤ (N4 : Int)) : Ok (f_readRemarks_199 self4 x1 x2 x3 x4 x5 x6 x7 x8 t0 I A) (fun o => TJ o.2.1 ∧ TK o.2.2 ∧ ((0 : Int) ≤ o.1.toInt ∧ o.1.toInt ≤ (92100 : Int)) ∧ ((o.2.1 37).toInt ≤ (o.2.1 1).toInt ∧ aa ≤ (o.2.1 37).toInt)) := by
  unfold f_readRemarks_199
  have b_I_1 := tI_1 hI
  have b_I_37 := tI_37 hI
  refine ok_bnd (fun v1 e210 => ?_)
  have t_v1 : v1.toInt = x8.toInt + t0.toInt := ti_add e210 rfl rfl (by omega) (by omega)
  refine ok_bnd (fun v2 e211 => ?_)
  have t_v2 : v2.toInt = v1.toInt + x6.toInt := ti_add e211 rfl rfl (by omega) (by omega)
  refine ok_if (fun c212 => ?_) (fun c212 => ?_)
  ·
    replace c212 := ti_leP c212 rfl (show (200 : Int32).toInt = 200 from rfl)
    refine ok_if (fun c213 => ?_) (fun c213 => ?_)
    ·
      replace c213 := ti_eqP c213 rfl (show (1 : Int32).toInt = 1 from rfl)
      refine ok_bnd (fun v3 e214 => ?_)
      have t_v3 : v3.toInt = 200 * x7.toInt := ti_mul e214 (show (200 : Int32).toInt = 200 from rfl) rfl (by omega) (by omega)
      refine ok_bnd (fun v4 e215 => ?_)
      have t_v4 : v4.toInt = v3.toInt + x8.toInt := ti_add e215 rfl rfl (by omega) (by omega)
      refine ok_chk (ti_in (by omega) (by omega)) ?_
      refine ok_bnd (fun A5 e216 => ?_)
      have hA_A5 : TK A5 := e216.symm ▸ tk_n hA rfl
      exact t_readRemarks_244 (aa := aa)  hself4 (x1 := x1) (x2 := x2) (x4 := x4) (x5 := x5) (x6 := x6) (x7 := x7) (x8 := x8) (x9 := t0) hI hA_A5 r_x1 r_x2 r_x4 r_x5 r_x6 r_x7 r_x8 r_t0 q0 q1 (by omega) q2 q3 m4
    ·
      replace c213 := ti_eqN c213 rfl (show (1 : Int32).toInt = 1 from rfl)
      exact t_readRemarks_244 (aa := aa)  hself4 (x1 := x1) (x2 := x2) (x4 := x4) (x5 := x5) (x6 := x6) (x7 := x7) (x8 := x8) (x9 := t0) hI hA r_x1 r_x2 r_x4 r_x5 r_x6 r_x7 r_x8 r_t0 q0 q1 (by omega) q2 q3 m4
  ·
    replace c212 := ti_leN c212 rfl (show (200 : Int32).toInt = 200 from rfl)
    obtain ⟨r6, h_r6, p_r6⟩ := ro (t_fault (x0 := (8 : Int32)) (x1 := x3)  hI hA (by decide) (by omega))
    refine ok_clR h_r6 ?_
    dsimp only at p_r6
    exact ok_ret ⟨hI, hA, (show (0 : Int) ≤ r6.toInt ∧ r6.toInt ≤ (92100 : Int) from (by omega)), (by show (I 37).toInt ≤ (I 1).toInt ∧ aa ≤ (I 37).toInt; omega)⟩
theorem t_readRemarks_157 {aa : Int} {I : Nat → Int32} {A : Nat → Nat → Int32} {self4 : Int32 → Int32 → (Nat → Int32) → (Nat → Nat → Int32) → Option (Int32 × MS)} {N4 : Nat} (hself4 : ∀ (x1 : Int32) (x2 : Int32) (I : Nat → Int32) (A : Nat → Nat → Int32), TJ I → TK A → ((0 : Int) ≤ x1.toInt ∧ x1.toInt ≤ (1 : Int)) → ((0 : Int) ≤ x2.toInt ∧ x2.toInt ≤ (300 : Int)) → ((I 37).toInt ≤ (I 1).toInt) → (aa ≤ (I 37).toInt) → ((I 1).toInt - (I 37).toInt) < (N4 : Int) → Ok (self4 x1 x2 I A) (fun o => TJ o.2.1 ∧ TK o.2.2 ∧ ((0 : Int) ≤ o.1.toInt ∧ o.1.toInt ≤ (92100 : Int)) ∧ ((o.2.1 37).toInt ≤ (o.2.1 1).toInt ∧ aa ≤ (o.2.1 37).toInt))) {x1 : Int32} {x2 : Int32} {x3 : Int32} {x4 : Int32} {x5 : Int32} (hI : TJ I) (hA : TK A) (r_x1 : (0 : Int) ≤ x1.toInt ∧ x1.toInt ≤ (1 : Int)) (r_x2 : (0 : Int) ≤ x2.toInt ∧ x2.toInt ≤ (300 : Int)) (r_x3 : (0 : Int) ≤ x3.toInt ∧ x3.toInt ≤ (2000 : Int)) (r_x4 : (0 : Int) ≤ x4.toInt ∧ x4.toInt ≤ (1 : Int)) (r_x5 : (0 : Int) ≤ x5.toInt ∧ x5.toInt ≤ (2000 : Int)) (q0 : (I 37).toInt ≤ (I 1).toInt) (q1 : aa ≤ (I 37).toInt) (q2 : x5.toInt ≤ (I 37).toInt) (q3 : x4.toInt = 1 → (I 37).toInt < (I 1).toInt) (m4 : ((I 1).toInt - (I 37).toInt + 1) ≤ (N4 : Int)) : Ok (f_readRemarks_157 self4 x1 x2 x3 x4 x5 I A) (fun o => TJ o.2.1 ∧ TK o.2.2 ∧ ((0 : Int) ≤ o.1.toInt ∧ o.1.toInt ≤ (92100 : Int)) ∧ ((o.2.1 37).toInt ≤ (o.2.1 1).toInt ∧ aa ≤ (o.2.1 37).toInt)) := by
  unfold f_readRemarks_157
  have b_I_1 := tI_1 hI
  have b_I_37 := tI_37 hI
  refine ok_bnd (fun v1 e217 => ?_)
  have t_v1 : v1.toInt = (I 37).toInt - x5.toInt := ti_sub e217 rfl rfl (by omega) (by omega)
  refine ok_bnd (fun v2 e218 => ?_)
  have t_v2 : v2.toInt = 301 * x1.toInt := ti_mul e218 (show (301 : Int32).toInt = 301 from rfl) rfl (by omega) (by omega)
  refine ok_bnd (fun v3 e219 => ?_)
  have t_v3 : v3.toInt = v2.toInt + x2.toInt := ti_add e219 rfl rfl (by omega) (by omega)
  refine ok_chk (ti_in (by omega) (by omega)) ?_
  refine ok_bnd (fun v4 e220 => ?_)
  have b_v4 := tA_14 hA ((v3).toNatClampNeg)
  rw [← e220] at b_v4
  refine ok_if (fun c221 => ?_) (fun c221 => ?_)
  ·
    replace c221 := ti_leP c221 rfl (show (0 : Int32).toInt = 0 from rfl)
    unfold f_readRemarks_198
    exact t_readRemarks_199 (aa := aa)  hself4 (x1 := x1) (x2 := x2) (x3 := x3) (x4 := x4) (x5 := x5) (x6 := v1) (x7 := v3) (x8 := v4) (t0 := (0 : Int32)) hI hA r_x1 r_x2 r_x3 r_x4 r_x5 (by omega) (by omega) (by omega) (by decide) q0 q1 (by have z0 : (0 : Int32).toInt = 0 := rfl; omega) q3 m4
  ·
    replace c221 := ti_leN c221 rfl (show (0 : Int32).toInt = 0 from rfl)
    refine ok_if (fun c222 => ?_) (fun c222 => ?_)
    ·
      replace c222 := ti_leP c222 rfl (show (0 : Int32).toInt = 0 from rfl)
      unfold f_readRemarks_198
      exact t_readRemarks_199 (aa := aa)  hself4 (x1 := x1) (x2 := x2) (x3 := x3) (x4 := x4) (x5 := x5) (x6 := v1) (x7 := v3) (x8 := v4) (t0 := (0 : Int32)) hI hA r_x1 r_x2 r_x3 r_x4 r_x5 (by omega) (by omega) (by omega) (by decide) q0 q1 (by have z0 : (0 : Int32).toInt = 0 := rfl; omega) q3 m4
    ·
      replace c222 := ti_leN c222 rfl (show (0 : Int32).toInt = 0 from rfl)
      exact t_readRemarks_199 (aa := aa)  hself4 (x1 := x1) (x2 := x2) (x3 := x3) (x4 := x4) (x5 := x5) (x6 := v1) (x7 := v3) (x8 := v4) (t0 := (1 : Int32)) hI hA r_x1 r_x2 r_x3 r_x4 r_x5 (by omega) (by omega) (by omega) (by decide) q0 q1 (by have z0 : (1 : Int32).toInt = 1 := rfl; omega) q3 m4
theorem t_readRemarks_132 {aa : Int} {I : Nat → Int32} {A : Nat → Nat → Int32} {self4 : Int32 → Int32 → (Nat → Int32) → (Nat → Nat → Int32) → Option (Int32 × MS)} {N4 : Nat} (hself4 : ∀ (x1 : Int32) (x2 : Int32) (I : Nat → Int32) (A : Nat → Nat → Int32), TJ I → TK A → ((0 : Int) ≤ x1.toInt ∧ x1.toInt ≤ (1 : Int)) → ((0 : Int) ≤ x2.toInt ∧ x2.toInt ≤ (300 : Int)) → ((I 37).toInt ≤ (I 1).toInt) → (aa ≤ (I 37).toInt) → ((I 1).toInt - (I 37).toInt) < (N4 : Int) → Ok (self4 x1 x2 I A) (fun o => TJ o.2.1 ∧ TK o.2.2 ∧ ((0 : Int) ≤ o.1.toInt ∧ o.1.toInt ≤ (92100 : Int)) ∧ ((o.2.1 37).toInt ≤ (o.2.1 1).toInt ∧ aa ≤ (o.2.1 37).toInt))) {x1 : Int32} {x2 : Int32} {x3 : Int32} {x4 : Int32} {x5 : Int32} (hI : TJ I) (hA : TK A) (r_x1 : (0 : Int) ≤ x1.toInt ∧ x1.toInt ≤ (1 : Int)) (r_x2 : (0 : Int) ≤ x2.toInt ∧ x2.toInt ≤ (300 : Int)) (r_x3 : (0 : Int) ≤ x3.toInt ∧ x3.toInt ≤ (2000 : Int)) (r_x4 : (0 : Int) ≤ x4.toInt ∧ x4.toInt ≤ (1 : Int)) (r_x5 : (0 : Int) ≤ x5.toInt ∧ x5.toInt ≤ (2000 : Int)) (q0 : (I 37).toInt ≤ (I 1).toInt) (q1 : aa ≤ (I 37).toInt) (q2 : x5.toInt ≤ (I 37).toInt) (m4 : ((I 1).toInt - (I 37).toInt + 1) ≤ (N4 : Int)) : Ok (f_readRemarks_132 self4 x1 x2 x3 x4 x5 I A) (fun o => TJ o.2.1 ∧ TK o.2.2 ∧ ((0 : Int) ≤ o.1.toInt ∧ o.1.toInt ≤ (92100 : Int)) ∧ ((o.2.1 37).toInt ≤ (o.2.1 1).toInt ∧ aa ≤ (o.2.1 37).toInt)) := by
  unfold f_readRemarks_132
  have b_I_1 := tI_1 hI
  have b_I_37 := tI_37 hI
  refine ok_if (fun c223 => ?_) (fun c223 => ?_)
  ·
    replace c223 := ti_eqP c223 rfl (show (0 : Int32).toInt = 0 from rfl)
    exact t_readRemarks_157 (aa := aa)  hself4 (x1 := x1) (x2 := x2) (x3 := x3) (x4 := x4) (x5 := x5) hI hA r_x1 r_x2 r_x3 r_x4 r_x5 q0 q1 q2 (by omega) m4
  ·
    replace c223 := ti_eqN c223 rfl (show (0 : Int32).toInt = 0 from rfl)
    refine ok_if (fun c224 => ?_) (fun c224 => ?_)
    ·
      replace c224 := ti_eqP c224 rfl rfl
      obtain ⟨r1, h_r1, p_r1⟩ := ro (t_fault (x0 := (1 : Int32)) (x1 := (I 37))  hI hA (by decide) (by omega))
      refine ok_clR h_r1 ?_
      dsimp only at p_r1
      exact ok_ret ⟨hI, hA, (show (0 : Int) ≤ r1.toInt ∧ r1.toInt ≤ (92100 : Int) from (by omega)), (by show (I 37).toInt ≤ (I 1).toInt ∧ aa ≤ (I 37).toInt; omega)⟩
    ·
      replace c224 := ti_eqN c224 rfl rfl
      exact t_readRemarks_157 (aa := aa)  hself4 (x1 := x1) (x2 := x2) (x3 := x3) (x4 := x4) (x5 := x5) hI hA r_x1 r_x2 r_x3 r_x4 r_x5 q0 q1 q2 (by omega) m4
theorem t_readRemarks_119 {aa : Int} {I : Nat → Int32} {A : Nat → Nat → Int32} {self4 : Int32 → Int32 → (Nat → Int32) → (Nat → Nat → Int32) → Option (Int32 × MS)} {N4 : Nat} (hself4 : ∀ (x1 : Int32) (x2 : Int32) (I : Nat → Int32) (A : Nat → Nat → Int32), TJ I → TK A → ((0 : Int) ≤ x1.toInt ∧ x1.toInt ≤ (1 : Int)) → ((0 : Int) ≤ x2.toInt ∧ x2.toInt ≤ (300 : Int)) → ((I 37).toInt ≤ (I 1).toInt) → (aa ≤ (I 37).toInt) → ((I 1).toInt - (I 37).toInt) < (N4 : Int) → Ok (self4 x1 x2 I A) (fun o => TJ o.2.1 ∧ TK o.2.2 ∧ ((0 : Int) ≤ o.1.toInt ∧ o.1.toInt ≤ (92100 : Int)) ∧ ((o.2.1 37).toInt ≤ (o.2.1 1).toInt ∧ aa ≤ (o.2.1 37).toInt))) {self59 : Int32 → Int32 → Int32 → Int32 → Int32 → (Nat → Int32) → (Nat → Nat → Int32) → Option (Int32 × MS)} {N59 : Nat} (hself59 : ∀ (x1 : Int32) (x2 : Int32) (x3 : Int32) (x4 : Int32) (x5 : Int32) (I : Nat → Int32) (A : Nat → Nat → Int32), TJ I → TK A → ((0 : Int) ≤ x1.toInt ∧ x1.toInt ≤ (1 : Int)) → ((0 : Int) ≤ x2.toInt ∧ x2.toInt ≤ (300 : Int)) → ((0 : Int) ≤ x3.toInt ∧ x3.toInt ≤ (2000 : Int)) → ((0 : Int) ≤ x4.toInt ∧ x4.toInt ≤ (1 : Int)) → ((0 : Int) ≤ x5.toInt ∧ x5.toInt ≤ (2000 : Int)) → ((I 37).toInt ≤ (I 1).toInt) → (aa ≤ (I 37).toInt) → (x5.toInt ≤ (I 37).toInt) → (((I 1).toInt - (I 37).toInt + 1) ≤ (N4 : Int)) → ((I 1).toInt - (I 37).toInt) < (N59 : Int) → Ok (self59 x1 x2 x3 x4 x5 I A) (fun o => TJ o.2.1 ∧ TK o.2.2 ∧ ((0 : Int) ≤ o.1.toInt ∧ o.1.toInt ≤ (92100 : Int)) ∧ ((o.2.1 37).toInt ≤ (o.2.1 1).toInt ∧ aa ≤ (o.2.1 37).toInt))) {x1 : Int32} {x2 : Int32} {x3 : Int32} {x4 : Int32} {x5 : Int32} (hI : TJ I) (hA : TK A) (r_x1 : (0 : Int) ≤ x1.toInt ∧ x1.toInt ≤ (1 : Int)) (r_x2 : (0 : Int) ≤ x2.toInt ∧ x2.toInt ≤ (300 : Int)) (r_x3 : (0 : Int) ≤ x3.toInt ∧ x3.toInt ≤ (2000 : Int)) (r_x4 : (0 : Int) ≤ x4.toInt ∧ x4.toInt ≤ (1 : Int)) (r_x5 : (0 : Int) ≤ x5.toInt ∧ x5.toInt ≤ (2000 : Int)) (q0 : (I 37).toInt < (I 1).toInt) (q1 : aa ≤ (I 37).toInt) (q2 : x5.toInt ≤ (I 37).toInt) (m4 : ((I 1).toInt - (I 37).toInt + 1) ≤ (N4 : Int)) (m59 : ((I 1).toInt - (I 37).toInt) ≤ (N59 : Int)) : Ok (f_readRemarks_119 self4 self59 x1 x2 x3 x4 x5 I A) (fun o => TJ o.2.1 ∧ TK o.2.2 ∧ ((0 : Int) ≤ o.1.toInt ∧ o.1.toInt ≤ (92100 : Int)) ∧ ((o.2.1 37).toInt ≤ (o.2.1 1).toInt ∧ aa ≤ (o.2.1 37).toInt)) := by
  unfold f_readRemarks_119
  have b_I_1 := tI_1 hI
  have b_I_37 := tI_37 hI
  refine ok_bnd (fun v1 e225 => ?_)
  have t_v1 : v1.toInt = (I 37).toInt + 1 := ti_add e225 rfl (show (1 : Int32).toInt = 1 from rfl) (by omega) (by omega)
  refine ok_bnd (fun I2 e226 => ?_)
  have hI_I2 : TJ I2 := e226.symm ▸ tj_u hI (k := 37) (show (0 : Int) ≤ v1.toInt from (by omega)) (show v1.toInt ≤ (2100 : Int) from (by omega))
  have : (I2 1).toInt = (I 1).toInt := by rw [e226]; rfl
  have : (I2 37).toInt = v1.toInt := by rw [e226]; exact rfl
  have b_I2_1 := tI_1 hI_I2
  have b_I2_37 := tI_37 hI_I2
  exact hself59 x1 x2 x3 x4 x5 I2 A hI_I2 hA r_x1 r_x2 r_x3 r_x4 r_x5 (by omega) (by omega) (by omega) (by omega) (by omega)
theorem t_readRemarks_96 {aa : Int} {I : Nat → Int32} {A : Nat → Nat → Int32} {self4 : Int32 → Int32 → (Nat → Int32) → (Nat → Nat → Int32) → Option (Int32 × MS)} {N4 : Nat} (hself4 : ∀ (x1 : Int32) (x2 : Int32) (I : Nat → Int32) (A : Nat → Nat → Int32), TJ I → TK A → ((0 : Int) ≤ x1.toInt ∧ x1.toInt ≤ (1 : Int)) → ((0 : Int) ≤ x2.toInt ∧ x2.toInt ≤ (300 : Int)) → ((I 37).toInt ≤ (I 1).toInt) → (aa ≤ (I 37).toInt) → ((I 1).toInt - (I 37).toInt) < (N4 : Int) → Ok (self4 x1 x2 I A) (fun o => TJ o.2.1 ∧ TK o.2.2 ∧ ((0 : Int) ≤ o.1.toInt ∧ o.1.toInt ≤ (92100 : Int)) ∧ ((o.2.1 37).toInt ≤ (o.2.1 1).toInt ∧ aa ≤ (o.2.1 37).toInt))) {self59 : Int32 → Int32 → Int32 → Int32 → Int32 → (Nat → Int32) → (Nat → Nat → Int32) → Option (Int32 × MS)} {N59 : Nat} (hself59 : ∀ (x1 : Int32) (x2 : Int32) (x3 : Int32) (x4 : Int32) (x5 : Int32) (I : Nat → Int32) (A : Nat → Nat → Int32), TJ I → TK A → ((0 : Int) ≤ x1.toInt ∧ x1.toInt ≤ (1 : Int)) → ((0 : Int) ≤ x2.toInt ∧ x2.toInt ≤ (300 : Int)) → ((0 : Int) ≤ x3.toInt ∧ x3.toInt ≤ (2000 : Int)) → ((0 : Int) ≤ x4.toInt ∧ x4.toInt ≤ (1 : Int)) → ((0 : Int) ≤ x5.toInt ∧ x5.toInt ≤ (2000 : Int)) → ((I 37).toInt ≤ (I 1).toInt) → (aa ≤ (I 37).toInt) → (x5.toInt ≤ (I 37).toInt) → (((I 1).toInt - (I 37).toInt + 1) ≤ (N4 : Int)) → ((I 1).toInt - (I 37).toInt) < (N59 : Int) → Ok (self59 x1 x2 x3 x4 x5 I A) (fun o => TJ o.2.1 ∧ TK o.2.2 ∧ ((0 : Int) ≤ o.1.toInt ∧ o.1.toInt ≤ (92100 : Int)) ∧ ((o.2.1 37).toInt ≤ (o.2.1 1).toInt ∧ aa ≤ (o.2.1 37).toInt))) {x1 : Int32} {x2 : Int32} {x3 : Int32} {x4 : Int32} {x5 : Int32} (hI : TJ I) (hA : TK A) (r_x1 : (0 : Int) ≤ x1.toInt ∧ x1.toInt ≤ (1 : Int)) (r_x2 : (0 : Int) ≤ x2.toInt ∧ x2.toInt ≤ (300 : Int)) (r_x3 : (0 : Int) ≤ x3.toInt ∧ x3.toInt ≤ (2000 : Int)) (r_x4 : (0 : Int) ≤ x4.toInt ∧ x4.toInt ≤ (1 : Int)) (r_x5 : (0 : Int) ≤ x5.toInt ∧ x5.toInt ≤ (2000 : Int)) (q0 : (I 37).toInt < (I 1).toInt) (q1 : aa ≤ (I 37).toInt) (q2 : x5.toInt ≤ (I 37).toInt) (m4 : ((I 1).toInt - (I 37).toInt + 1) ≤ (N4 : Int)) (m59 : ((I 1).toInt - (I 37).toInt) ≤ (N59 : Int)) : Ok (f_readRemarks_96 self4 self59 x1 x2 x3 x4 x5 I A) (fun o => TJ o.2.1 ∧ TK o.2.2 ∧ ((0 : Int) ≤ o.1.toInt ∧ o.1.toInt ≤ (92100 : Int)) ∧ ((o.2.1 37).toInt ≤ (o.2.1 1).toInt ∧ aa ≤ (o.2.1 37).toInt)) := by
  unfold f_readRemarks_96
  have b_I_1 := tI_1 hI
  have b_I_37 := tI_37 hI
  refine ok_if (fun c227 => ?_) (fun c227 => ?_)
  ·
    replace c227 := ti_eqP c227 rfl (show (0 : Int32).toInt = 0 from rfl)
    obtain ⟨r1, h_r1, p_r1⟩ := ro (t_look   hI hA )
    refine ok_clR h_r1 ?_
    dsimp only at p_r1
    refine ok_if (fun c228 => ?_) (fun c228 => ?_)
    ·
      replace c228 := ti_eqP c228 rfl (show (125 : Int32).toInt = 125 from rfl)
      obtain ⟨r2, h_r2, p_r2⟩ := ro (t_fault (x0 := (1 : Int32)) (x1 := (I 37))  hI hA (by decide) (by omega))
      refine ok_clR h_r2 ?_
      dsimp only at p_r2
      exact ok_ret ⟨hI, hA, (show (0 : Int) ≤ r2.toInt ∧ r2.toInt ≤ (92100 : Int) from (by omega)), (by show (I 37).toInt ≤ (I 1).toInt ∧ aa ≤ (I 37).toInt; omega)⟩
    ·
      replace c228 := ti_eqN c228 rfl (show (125 : Int32).toInt = 125 from rfl)
      exact t_readRemarks_119 (aa := aa)  hself4 hself59 (x1 := x1) (x2 := x2) (x3 := x3) (x4 := x4) (x5 := x5) hI hA r_x1 r_x2 r_x3 r_x4 r_x5 q0 q1 q2 m4 m59
  ·
    replace c227 := ti_eqN c227 rfl (show (0 : Int32).toInt = 0 from rfl)
    exact t_readRemarks_119 (aa := aa)  hself4 hself59 (x1 := x1) (x2 := x2) (x3 := x3) (x4 := x4) (x5 := x5) hI hA r_x1 r_x2 r_x3 r_x4 r_x5 q0 q1 q2 m4 m59
theorem t_readRemarks_59s {aa : Int} {I : Nat → Int32} {A : Nat → Nat → Int32} {self4 : Int32 → Int32 → (Nat → Int32) → (Nat → Nat → Int32) → Option (Int32 × MS)} {N4 : Nat} (hself4 : ∀ (x1 : Int32) (x2 : Int32) (I : Nat → Int32) (A : Nat → Nat → Int32), TJ I → TK A → ((0 : Int) ≤ x1.toInt ∧ x1.toInt ≤ (1 : Int)) → ((0 : Int) ≤ x2.toInt ∧ x2.toInt ≤ (300 : Int)) → ((I 37).toInt ≤ (I 1).toInt) → (aa ≤ (I 37).toInt) → ((I 1).toInt - (I 37).toInt) < (N4 : Int) → Ok (self4 x1 x2 I A) (fun o => TJ o.2.1 ∧ TK o.2.2 ∧ ((0 : Int) ≤ o.1.toInt ∧ o.1.toInt ≤ (92100 : Int)) ∧ ((o.2.1 37).toInt ≤ (o.2.1 1).toInt ∧ aa ≤ (o.2.1 37).toInt))) {self59 : Int32 → Int32 → Int32 → Int32 → Int32 → (Nat → Int32) → (Nat → Nat → Int32) → Option (Int32 × MS)} {N59 : Nat} (hself59 : ∀ (x1 : Int32) (x2 : Int32) (x3 : Int32) (x4 : Int32) (x5 : Int32) (I : Nat → Int32) (A : Nat → Nat → Int32), TJ I → TK A → ((0 : Int) ≤ x1.toInt ∧ x1.toInt ≤ (1 : Int)) → ((0 : Int) ≤ x2.toInt ∧ x2.toInt ≤ (300 : Int)) → ((0 : Int) ≤ x3.toInt ∧ x3.toInt ≤ (2000 : Int)) → ((0 : Int) ≤ x4.toInt ∧ x4.toInt ≤ (1 : Int)) → ((0 : Int) ≤ x5.toInt ∧ x5.toInt ≤ (2000 : Int)) → ((I 37).toInt ≤ (I 1).toInt) → (aa ≤ (I 37).toInt) → (x5.toInt ≤ (I 37).toInt) → (((I 1).toInt - (I 37).toInt + 1) ≤ (N4 : Int)) → ((I 1).toInt - (I 37).toInt) < (N59 : Int) → Ok (self59 x1 x2 x3 x4 x5 I A) (fun o => TJ o.2.1 ∧ TK o.2.2 ∧ ((0 : Int) ≤ o.1.toInt ∧ o.1.toInt ≤ (92100 : Int)) ∧ ((o.2.1 37).toInt ≤ (o.2.1 1).toInt ∧ aa ≤ (o.2.1 37).toInt))) {x1 : Int32} {x2 : Int32} {x3 : Int32} {x4 : Int32} {x5 : Int32} (hI : TJ I) (hA : TK A) (r_x1 : (0 : Int) ≤ x1.toInt ∧ x1.toInt ≤ (1 : Int)) (r_x2 : (0 : Int) ≤ x2.toInt ∧ x2.toInt ≤ (300 : Int)) (r_x3 : (0 : Int) ≤ x3.toInt ∧ x3.toInt ≤ (2000 : Int)) (r_x4 : (0 : Int) ≤ x4.toInt ∧ x4.toInt ≤ (1 : Int)) (r_x5 : (0 : Int) ≤ x5.toInt ∧ x5.toInt ≤ (2000 : Int)) (q0 : (I 37).toInt ≤ (I 1).toInt) (q1 : aa ≤ (I 37).toInt) (q2 : x5.toInt ≤ (I 37).toInt) (m4 : ((I 1).toInt - (I 37).toInt + 1) ≤ (N4 : Int)) (m59 : ((I 1).toInt - (I 37).toInt) ≤ (N59 : Int)) : Ok (f_readRemarks_59s self4 self59 x1 x2 x3 x4 x5 I A) (fun o => TJ o.2.1 ∧ TK o.2.2 ∧ ((0 : Int) ≤ o.1.toInt ∧ o.1.toInt ≤ (92100 : Int)) ∧ ((o.2.1 37).toInt ≤ (o.2.1 1).toInt ∧ aa ≤ (o.2.1 37).toInt)) := by
  unfold f_readRemarks_59s
  have b_I_1 := tI_1 hI
  have b_I_37 := tI_37 hI
  refine ok_if (fun c229 => ?_) (fun c229 => ?_)
  ·
    replace c229 := ti_leP c229 rfl rfl
    exact t_readRemarks_132 (aa := aa)  hself4 (x1 := x1) (x2 := x2) (x3 := x3) (x4 := x4) (x5 := x5) hI hA r_x1 r_x2 r_x3 r_x4 r_x5 q0 q1 q2 m4
  ·
    replace c229 := ti_leN c229 rfl rfl
    refine ok_if (fun c230 => ?_) (fun c230 => ?_)
    ·
      replace c230 := ti_eqP c230 rfl (show (0 : Int32).toInt = 0 from rfl)
      obtain ⟨r1, h_r1, p_r1⟩ := ro (t_look   hI hA )
      refine ok_clR h_r1 ?_
      dsimp only at p_r1
      refine ok_if (fun c231 => ?_) (fun c231 => ?_)
      ·
        replace c231 := ti_eqP c231 rfl (show (10 : Int32).toInt = 10 from rfl)
        exact t_readRemarks_132 (aa := aa)  hself4 (x1 := x1) (x2 := x2) (x3 := x3) (x4 := x4) (x5 := x5) hI hA r_x1 r_x2 r_x3 r_x4 r_x5 q0 q1 q2 m4
      ·
        replace c231 := ti_eqN c231 rfl (show (10 : Int32).toInt = 10 from rfl)
        exact t_readRemarks_96 (aa := aa)  hself4 hself59 (x1 := x1) (x2 := x2) (x3 := x3) (x4 := x4) (x5 := x5) hI hA r_x1 r_x2 r_x3 r_x4 r_x5 (by omega) q1 q2 m4 m59
    ·
      replace c230 := ti_eqN c230 rfl (show (0 : Int32).toInt = 0 from rfl)
      obtain ⟨r2, h_r2, p_r2⟩ := ro (t_look   hI hA )
      refine ok_clR h_r2 ?_
      dsimp only at p_r2
      refine ok_if (fun c232 => ?_) (fun c232 => ?_)
      ·
        replace c232 := ti_eqP c232 rfl (show (125 : Int32).toInt = 125 from rfl)
        exact t_readRemarks_132 (aa := aa)  hself4 (x1 := x1) (x2 := x2) (x3 := x3) (x4 := x4) (x5 := x5) hI hA r_x1 r_x2 r_x3 r_x4 r_x5 q0 q1 q2 m4
      ·
        replace c232 := ti_eqN c232 rfl (show (125 : Int32).toInt = 125 from rfl)
        exact t_readRemarks_96 (aa := aa)  hself4 hself59 (x1 := x1) (x2 := x2) (x3 := x3) (x4 := x4) (x5 := x5) hI hA r_x1 r_x2 r_x3 r_x4 r_x5 (by omega) q1 q2 m4 m59
theorem t_readRemarks_59 {aa : Int} {self4 : Int32 → Int32 → (Nat → Int32) → (Nat → Nat → Int32) → Option (Int32 × MS)} {N4 : Nat} (hself4 : ∀ (x1 : Int32) (x2 : Int32) (I : Nat → Int32) (A : Nat → Nat → Int32), TJ I → TK A → ((0 : Int) ≤ x1.toInt ∧ x1.toInt ≤ (1 : Int)) → ((0 : Int) ≤ x2.toInt ∧ x2.toInt ≤ (300 : Int)) → ((I 37).toInt ≤ (I 1).toInt) → (aa ≤ (I 37).toInt) → ((I 1).toInt - (I 37).toInt) < (N4 : Int) → Ok (self4 x1 x2 I A) (fun o => TJ o.2.1 ∧ TK o.2.2 ∧ ((0 : Int) ≤ o.1.toInt ∧ o.1.toInt ≤ (92100 : Int)) ∧ ((o.2.1 37).toInt ≤ (o.2.1 1).toInt ∧ aa ≤ (o.2.1 37).toInt))) : ∀ (n : Nat) (x1 : Int32) (x2 : Int32) (x3 : Int32) (x4 : Int32) (x5 : Int32) (I : Nat → Int32) (A : Nat → Nat → Int32), TJ I → TK A → ((0 : Int) ≤ x1.toInt ∧ x1.toInt ≤ (1 : Int)) → ((0 : Int) ≤ x2.toInt ∧ x2.toInt ≤ (300 : Int)) → ((0 : Int) ≤ x3.toInt ∧ x3.toInt ≤ (2000 : Int)) → ((0 : Int) ≤ x4.toInt ∧ x4.toInt ≤ (1 : Int)) → ((0 : Int) ≤ x5.toInt ∧ x5.toInt ≤ (2000 : Int)) → ((I 37).toInt ≤ (I 1).toInt) → (aa ≤ (I 37).toInt) → (x5.toInt ≤ (I 37).toInt) → (((I 1).toInt - (I 37).toInt + 1) ≤ (N4 : Int)) → ((I 1).toInt - (I 37).toInt) < (n : Int) → Ok (f_readRemarks_59 self4 n x1 x2 x3 x4 x5 I A) (fun o => TJ o.2.1 ∧ TK o.2.2 ∧ ((0 : Int) ≤ o.1.toInt ∧ o.1.toInt ≤ (92100 : Int)) ∧ ((o.2.1 37).toInt ≤ (o.2.1 1).toInt ∧ aa ≤ (o.2.1 37).toInt)) := by
  intro n
  induction n with
  | zero => intro x1 x2 x3 x4 x5 I A hI hA g0 g1 g2 g3 g4 g5 g6 g7 w0 hm; exfalso; omega
  | succ n ih =>
    intro x1 x2 x3 x4 x5 I A hI hA g0 g1 g2 g3 g4 g5 g6 g7 w0 hm
    exact t_readRemarks_59s (aa := aa)  (N59 := n) hself4 ih hI hA g0 g1 g2 g3 g4 g5 g6 g7 w0 (by omega)
theorem t_readRemarks_41 {aa : Int} {I : Nat → Int32} {A : Nat → Nat → Int32} {self4 : Int32 → Int32 → (Nat → Int32) → (Nat → Nat → Int32) → Option (Int32 × MS)} {N4 : Nat} (hself4 : ∀ (x1 : Int32) (x2 : Int32) (I : Nat → Int32) (A : Nat → Nat → Int32), TJ I → TK A → ((0 : Int) ≤ x1.toInt ∧ x1.toInt ≤ (1 : Int)) → ((0 : Int) ≤ x2.toInt ∧ x2.toInt ≤ (300 : Int)) → ((I 37).toInt ≤ (I 1).toInt) → (aa ≤ (I 37).toInt) → ((I 1).toInt - (I 37).toInt) < (N4 : Int) → Ok (self4 x1 x2 I A) (fun o => TJ o.2.1 ∧ TK o.2.2 ∧ ((0 : Int) ≤ o.1.toInt ∧ o.1.toInt ≤ (92100 : Int)) ∧ ((o.2.1 37).toInt ≤ (o.2.1 1).toInt ∧ aa ≤ (o.2.1 37).toInt))) {x1 : Int32} {x2 : Int32} {x3 : Int32} {t0 : Int32} (hI : TJ I) (hA : TK A) (r_x1 : (0 : Int) ≤ x1.toInt ∧ x1.toInt ≤ (1 : Int)) (r_x2 : (0 : Int) ≤ x2.toInt ∧ x2.toInt ≤ (300 : Int)) (r_x3 : (0 : Int) ≤ x3.toInt ∧ x3.toInt ≤ (2000 : Int)) (r_t0 : (0 : Int) ≤ t0.toInt ∧ t0.toInt ≤ (1 : Int)) (q0 : (I 37).toInt < (I 1).toInt) (q1 : aa ≤ (I 37).toInt) (m4 : ((I 1).toInt - (I 37).toInt) ≤ (N4 : Int)) : Ok (f_readRemarks_41 self4 x1 x2 x3 t0 I A) (fun o => TJ o.2.1 ∧ TK o.2.2 ∧ ((0 : Int) ≤ o.1.toInt ∧ o.1.toInt ≤ (92100 : Int)) ∧ ((o.2.1 37).toInt ≤ (o.2.1 1).toInt ∧ aa ≤ (o.2.1 37).toInt)) := by
  unfold f_readRemarks_41
  have b_I_1 := tI_1 hI
  have b_I_37 := tI_37 hI
  refine ok_bnd (fun v1 e233 => ?_)
  have t_v1 : v1.toInt = (I 37).toInt + 1 := ti_add e233 rfl (show (1 : Int32).toInt = 1 from rfl) (by omega) (by omega)
  refine ok_bnd (fun I2 e234 => ?_)
  have hI_I2 : TJ I2 := e234.symm ▸ tj_u hI (k := 37) (show (0 : Int) ≤ v1.toInt from (by omega)) (show v1.toInt ≤ (2100 : Int) from (by omega))
  have : (I2 1).toInt = (I 1).toInt := by rw [e234]; rfl
  have : (I2 37).toInt = v1.toInt := by rw [e234]; exact rfl
  have b_I2_37 := tI_37 hI_I2
  have b_I2_1 := tI_1 hI_I2
  exact t_readRemarks_59 (aa := aa)  hself4  mFuel x1 x2 x3 t0 (I2 37) I2 A hI_I2 hA r_x1 r_x2 r_x3 r_t0 (by omega) (by omega) (by omega) (by omega) (by omega) (by show _ < ((200000 : Nat) : Int); omega)
theorem t_readRemarks_22 {aa : Int} {I : Nat → Int32} {A : Nat → Nat → Int32} {self4 : Int32 → Int32 → (Nat → Int32) → (Nat → Nat → Int32) → Option (Int32 × MS)} {N4 : Nat} (hself4 : ∀ (x1 : Int32) (x2 : Int32) (I : Nat → Int32) (A : Nat → Nat → Int32), TJ I → TK A → ((0 : Int) ≤ x1.toInt ∧ x1.toInt ≤ (1 : Int)) → ((0 : Int) ≤ x2.toInt ∧ x2.toInt ≤ (300 : Int)) → ((I 37).toInt ≤ (I 1).toInt) → (aa ≤ (I 37).toInt) → ((I 1).toInt - (I 37).toInt) < (N4 : Int) → Ok (self4 x1 x2 I A) (fun o => TJ o.2.1 ∧ TK o.2.2 ∧ ((0 : Int) ≤ o.1.toInt ∧ o.1.toInt ≤ (92100 : Int)) ∧ ((o.2.1 37).toInt ≤ (o.2.1 1).toInt ∧ aa ≤ (o.2.1 37).toInt))) {x1 : Int32} {x2 : Int32} (hI : TJ I) (hA : TK A) (r_x1 : (0 : Int) ≤ x1.toInt ∧ x1.toInt ≤ (1 : Int)) (r_x2 : (0 : Int) ≤ x2.toInt ∧ x2.toInt ≤ (300 : Int)) (q0 : (I 37).toInt < (I 1).toInt) (q1 : aa ≤ (I 37).toInt) (m4 : ((I 1).toInt - (I 37).toInt) ≤ (N4 : Int)) : Ok (f_readRemarks_22 self4 x1 x2 I A) (fun o => TJ o.2.1 ∧ TK o.2.2 ∧ ((0 : Int) ≤ o.1.toInt ∧ o.1.toInt ≤ (92100 : Int)) ∧ ((o.2.1 37).toInt ≤ (o.2.1 1).toInt ∧ aa ≤ (o.2.1 37).toInt)) := by
  unfold f_readRemarks_22
  have b_I_1 := tI_1 hI
  have b_I_37 := tI_37 hI
  obtain ⟨r1, h_r1, p_r1⟩ := ro (t_look   hI hA )
  refine ok_clR h_r1 ?_
  dsimp only at p_r1
  refine ok_if (fun c235 => ?_) (fun c235 => ?_)
  ·
    replace c235 := ti_eqP c235 rfl (show (123 : Int32).toInt = 123 from rfl)
    exact t_readRemarks_41 (aa := aa)  hself4 (x1 := x1) (x2 := x2) (x3 := (I 37)) (t0 := (1 : Int32)) hI hA r_x1 r_x2 (by omega) (by decide) q0 q1 m4
  ·
    replace c235 := ti_eqN c235 rfl (show (123 : Int32).toInt = 123 from rfl)
    exact t_readRemarks_41 (aa := aa)  hself4 (x1 := x1) (x2 := x2) (x3 := (I 37)) (t0 := (0 : Int32)) hI hA r_x1 r_x2 (by omega) (by decide) q0 q1 m4
theorem t_readRemarks_4s {aa : Int} {I : Nat → Int32} {A : Nat → Nat → Int32} {self4 : Int32 → Int32 → (Nat → Int32) → (Nat → Nat → Int32) → Option (Int32 × MS)} {N4 : Nat} (hself4 : ∀ (x1 : Int32) (x2 : Int32) (I : Nat → Int32) (A : Nat → Nat → Int32), TJ I → TK A → ((0 : Int) ≤ x1.toInt ∧ x1.toInt ≤ (1 : Int)) → ((0 : Int) ≤ x2.toInt ∧ x2.toInt ≤ (300 : Int)) → ((I 37).toInt ≤ (I 1).toInt) → (aa ≤ (I 37).toInt) → ((I 1).toInt - (I 37).toInt) < (N4 : Int) → Ok (self4 x1 x2 I A) (fun o => TJ o.2.1 ∧ TK o.2.2 ∧ ((0 : Int) ≤ o.1.toInt ∧ o.1.toInt ≤ (92100 : Int)) ∧ ((o.2.1 37).toInt ≤ (o.2.1 1).toInt ∧ aa ≤ (o.2.1 37).toInt))) {x1 : Int32} {x2 : Int32} (hI : TJ I) (hA : TK A) (r_x1 : (0 : Int) ≤ x1.toInt ∧ x1.toInt ≤ (1 : Int)) (r_x2 : (0 : Int) ≤ x2.toInt ∧ x2.toInt ≤ (300 : Int)) (q0 : (I 37).toInt ≤ (I 1).toInt) (q1 : aa ≤ (I 37).toInt) (m4 : ((I 1).toInt - (I 37).toInt) ≤ (N4 : Int)) : Ok (f_readRemarks_4s self4 x1 x2 I A) (fun o => TJ o.2.1 ∧ TK o.2.2 ∧ ((0 : Int) ≤ o.1.toInt ∧ o.1.toInt ≤ (92100 : Int)) ∧ ((o.2.1 37).toInt ≤ (o.2.1 1).toInt ∧ aa ≤ (o.2.1 37).toInt)) := by
  unfold f_readRemarks_4s
  have b_I_1 := tI_1 hI
  have b_I_37 := tI_37 hI
  obtain ⟨r1, h_r1, p_r1⟩ := ro (t_look   hI hA )
  refine ok_clR h_r1 ?_
  dsimp only at p_r1
  refine ok_if (fun c236 => ?_) (fun c236 => ?_)
  ·
    replace c236 := ti_eqP c236 rfl (show (123 : Int32).toInt = 123 from rfl)
    exact t_readRemarks_22 (aa := aa)  hself4 (x1 := x1) (x2 := x2) hI hA r_x1 r_x2 (by omega) q1 m4
  ·
    replace c236 := ti_eqN c236 rfl (show (123 : Int32).toInt = 123 from rfl)
    obtain ⟨r2, h_r2, p_r2⟩ := ro (t_look   hI hA )
    refine ok_clR h_r2 ?_
    dsimp only at p_r2
    refine ok_if (fun c237 => ?_) (fun c237 => ?_)
    ·
      replace c237 := ti_eqP c237 rfl (show (59 : Int32).toInt = 59 from rfl)
      exact t_readRemarks_22 (aa := aa)  hself4 (x1 := x1) (x2 := x2) hI hA r_x1 r_x2 (by omega) q1 m4
    ·
      replace c237 := ti_eqN c237 rfl (show (59 : Int32).toInt = 59 from rfl)
      exact ok_ret ⟨hI, hA, (show (0 : Int) ≤ (0 : Int32).toInt ∧ (0 : Int32).toInt ≤ (92100 : Int) from (by decide)), (by show (I 37).toInt ≤ (I 1).toInt ∧ aa ≤ (I 37).toInt; have z : (0 : Int32).toInt = 0 := rfl; omega)⟩
theorem t_readRemarks_4 {aa : Int}  : ∀ (n : Nat) (x1 : Int32) (x2 : Int32) (I : Nat → Int32) (A : Nat → Nat → Int32), TJ I → TK A → ((0 : Int) ≤ x1.toInt ∧ x1.toInt ≤ (1 : Int)) → ((0 : Int) ≤ x2.toInt ∧ x2.toInt ≤ (300 : Int)) → ((I 37).toInt ≤ (I 1).toInt) → (aa ≤ (I 37).toInt) → ((I 1).toInt - (I 37).toInt) < (n : Int) → Ok (f_readRemarks_4  n x1 x2 I A) (fun o => TJ o.2.1 ∧ TK o.2.2 ∧ ((0 : Int) ≤ o.1.toInt ∧ o.1.toInt ≤ (92100 : Int)) ∧ ((o.2.1 37).toInt ≤ (o.2.1 1).toInt ∧ aa ≤ (o.2.1 37).toInt)) := by
  intro n
  induction n with
  | zero => intro x1 x2 I A hI hA g0 g1 g2 g3  hm; exfalso; omega
  | succ n ih =>
    intro x1 x2 I A hI hA g0 g1 g2 g3  hm
    exact t_readRemarks_4s (aa := aa)  (N4 := n)  ih hI hA g0 g1 g2 g3  (by omega)
theorem t_readRemarks_0 {aa : Int} {I : Nat → Int32} {A : Nat → Nat → Int32} {x1 : Int32} {x2 : Int32} (hI : TJ I) (hA : TK A) (r_x1 : (0 : Int) ≤ x1.toInt ∧ x1.toInt ≤ (1 : Int)) (r_x2 : (0 : Int) ≤ x2.toInt ∧ x2.toInt ≤ (300 : Int)) (q0 : (I 37).toInt ≤ (I 1).toInt) (q1 : aa ≤ (I 37).toInt) : Ok (f_readRemarks_0 x1 x2 I A) (fun o => TJ o.2.1 ∧ TK o.2.2 ∧ ((0 : Int) ≤ o.1.toInt ∧ o.1.toInt ≤ (92100 : Int)) ∧ ((o.2.1 37).toInt ≤ (o.2.1 1).toInt ∧ aa ≤ (o.2.1 37).toInt)) := by
  unfold f_readRemarks_0
  have b_I_1 := tI_1 hI
  have b_I_37 := tI_37 hI
  obtain ⟨⟨r1, Ic1, Ac1⟩, h_r1, hI_Ic1, hA_Ac1, p_r1_0⟩ := t_blanks   hI hA (show (I 37).toInt ≤ (I 37).toInt ∧ (I 37).toInt ≤ (I 1).toInt ∧ (I 1).toInt ≤ (I 1).toInt from ⟨Int.le_refl _, by omega, Int.le_refl _⟩)
  replace hI_Ic1 : TJ Ic1 := hI_Ic1
  replace hA_Ac1 : TK Ac1 := hA_Ac1
  dsimp only at p_r1_0
  refine ok_clR h_r1 ?_
  have f_r1 := fw_blanks h_r1
  have : (Ic1 1).toInt = (I 1).toInt := congrArg Int32.toInt (f_r1.1 1 (by decide))
  have b_Ic1_1 := tI_1 hI_Ic1
  have b_Ic1_37 := tI_37 hI_Ic1
  exact t_readRemarks_4 (aa := aa)    mFuel x1 x2 Ic1 Ac1 hI_Ic1 hA_Ac1 r_x1 r_x2 (by omega) (by omega) (by show _ < ((200000 : Nat) : Int); omega)
theorem t_readRemarks {aa : Int} {I : Nat → Int32} {A : Nat → Nat → Int32} {x1 : Int32} {x2 : Int32} (hI : TJ I) (hA : TK A) (r_x1 : (0 : Int) ≤ x1.toInt ∧ x1.toInt ≤ (1 : Int)) (r_x2 : (0 : Int) ≤ x2.toInt ∧ x2.toInt ≤ (300 : Int)) (q0 : (I 37).toInt ≤ (I 1).toInt) (q1 : aa ≤ (I 37).toInt) : Ok (f_readRemarks x1 x2 I A) (fun o => TJ o.2.1 ∧ TK o.2.2 ∧ ((0 : Int) ≤ o.1.toInt ∧ o.1.toInt ≤ (92100 : Int)) ∧ ((o.2.1 37).toInt ≤ (o.2.1 1).toInt ∧ aa ≤ (o.2.1 37).toInt)) := t_readRemarks_0 (aa := aa) hI hA r_x1 r_x2 q0 q1
theorem t_goesOnWith_0  {I : Nat → Int32} {A : Nat → Nat → Int32} {x1 : Int32} {x2 : Int32} {x3 : Int32} (hI : TJ I) (hA : TK A) : Ok (f_goesOnWith_0 x1 x2 x3 I A) (fun o => o.2 = (I, A) ∧ ((0 : Int) ≤ o.1.toInt ∧ o.1.toInt ≤ (1 : Int))) := by
  unfold f_goesOnWith_0
  refine ok_bnd (fun v1 e238 => ?_)
  have b_I_37 := tI_37 hI
  have t_v1 : v1.toInt = (I 37).toInt + 2 := ti_add e238 rfl (show (2 : Int32).toInt = 2 from rfl) (by omega) (by omega)
  have b_I_1 := tI_1 hI
  refine ok_if (fun c239 => ?_) (fun c239 => ?_)
  ·
    replace c239 := ti_leP c239 rfl rfl
    unfold f_goesOnWith_60
    unfold f_goesOnWith_61
    refine ok_chk (by decide) ?_
    exact ok_ret ⟨rfl, (show (0 : Int) ≤ (0 : Int32).toInt ∧ (0 : Int32).toInt ≤ (1 : Int) from (by decide))⟩
  ·
    replace c239 := ti_leN c239 rfl rfl
    refine ok_chk (ti_in (by omega) (by omega)) ?_
    refine ok_bnd (fun v2 e240 => ?_)
    have b_v2 := tA_2 hA (((I 37)).toNatClampNeg)
    rw [← e240] at b_v2
    refine ok_if (fun c241 => ?_) (fun c241 => ?_)
    ·
      replace c241 := ti_eqP c241 rfl rfl
      refine ok_bnd (fun v3 e242 => ?_)
      have t_v3 : v3.toInt = (I 37).toInt + 1 := ti_add e242 rfl (show (1 : Int32).toInt = 1 from rfl) (by omega) (by omega)
      refine ok_chk (ti_in (by omega) (by omega)) ?_
      refine ok_bnd (fun v4 e243 => ?_)
      have b_v4 := tA_2 hA ((v3).toNatClampNeg)
      rw [← e243] at b_v4
      refine ok_if (fun c244 => ?_) (fun c244 => ?_)
      ·
        replace c244 := ti_eqP c244 rfl rfl
        refine ok_bnd (fun v5 e245 => ?_)
        have t_v5 : v5.toInt = (I 37).toInt + 2 := ti_add e245 rfl (show (2 : Int32).toInt = 2 from rfl) (by omega) (by omega)
        refine ok_chk (ti_in (by omega) (by omega)) ?_
        refine ok_bnd (fun v6 e246 => ?_)
        have b_v6 := tA_2 hA ((v5).toNatClampNeg)
        rw [← e246] at b_v6
        refine ok_if (fun c247 => ?_) (fun c247 => ?_)
        ·
          replace c247 := ti_eqP c247 rfl rfl
          unfold f_goesOnWith_61
          refine ok_chk (by decide) ?_
          exact ok_ret ⟨rfl, (show (0 : Int) ≤ (1 : Int32).toInt ∧ (1 : Int32).toInt ≤ (1 : Int) from (by decide))⟩
        ·
          replace c247 := ti_eqN c247 rfl rfl
          unfold f_goesOnWith_60
          unfold f_goesOnWith_61
          refine ok_chk (by decide) ?_
          exact ok_ret ⟨rfl, (show (0 : Int) ≤ (0 : Int32).toInt ∧ (0 : Int32).toInt ≤ (1 : Int) from (by decide))⟩
      ·
        replace c244 := ti_eqN c244 rfl rfl
        unfold f_goesOnWith_60
        unfold f_goesOnWith_61
        refine ok_chk (by decide) ?_
        exact ok_ret ⟨rfl, (show (0 : Int) ≤ (0 : Int32).toInt ∧ (0 : Int32).toInt ≤ (1 : Int) from (by decide))⟩
    ·
      replace c241 := ti_eqN c241 rfl rfl
      unfold f_goesOnWith_60
      unfold f_goesOnWith_61
      refine ok_chk (by decide) ?_
      exact ok_ret ⟨rfl, (show (0 : Int) ≤ (0 : Int32).toInt ∧ (0 : Int32).toInt ≤ (1 : Int) from (by decide))⟩
theorem t_goesOnWith  {I : Nat → Int32} {A : Nat → Nat → Int32} {x1 : Int32} {x2 : Int32} {x3 : Int32} (hI : TJ I) (hA : TK A) : Ok (f_goesOnWith x1 x2 x3 I A) (fun o => o.2 = (I, A) ∧ ((0 : Int) ≤ o.1.toInt ∧ o.1.toInt ≤ (1 : Int))) := t_goesOnWith_0  hI hA 
theorem t_resultHere_0  {I : Nat → Int32} {A : Nat → Nat → Int32} (hI : TJ I) (hA : TK A) : Ok (f_resultHere_0 I A) (fun o => o.2 = (I, A) ∧ ((-1 : Int) ≤ o.1.toInt ∧ o.1.toInt ≤ (3 : Int))) := by
  unfold f_resultHere_0
  obtain ⟨r1, h_r1, p_r1⟩ := ro (t_look   hI hA )
  refine ok_clR h_r1 ?_
  dsimp only at p_r1
  refine ok_if (fun c248 => ?_) (fun c248 => ?_)
  ·
    replace c248 := ti_eqP c248 rfl (show (42 : Int32).toInt = 42 from rfl)
    exact ok_ret ⟨rfl, (show (-1 : Int) ≤ (0 : Int32).toInt ∧ (0 : Int32).toInt ≤ (3 : Int) from (by decide))⟩
  ·
    replace c248 := ti_eqN c248 rfl (show (42 : Int32).toInt = 42 from rfl)
    obtain ⟨r2, h_r2, p_r2⟩ := ro (t_goesOnWith (x1 := (49 : Int32)) (x2 := (45 : Int32)) (x3 := (48 : Int32))  hI hA )
    refine ok_clR h_r2 ?_
    dsimp only at p_r2
    refine ok_if (fun c249 => ?_) (fun c249 => ?_)
    ·
      replace c249 := ti_eqP c249 rfl (show (0 : Int32).toInt = 0 from rfl)
      obtain ⟨r3, h_r3, p_r3⟩ := ro (t_goesOnWith (x1 := (48 : Int32)) (x2 := (45 : Int32)) (x3 := (49 : Int32))  hI hA )
      refine ok_clR h_r3 ?_
      dsimp only at p_r3
      refine ok_if (fun c250 => ?_) (fun c250 => ?_)
      ·
        replace c250 := ti_eqP c250 rfl (show (0 : Int32).toInt = 0 from rfl)
        obtain ⟨r4, h_r4, p_r4⟩ := ro (t_goesOnWith (x1 := (49 : Int32)) (x2 := (47 : Int32)) (x3 := (50 : Int32))  hI hA )
        refine ok_clR h_r4 ?_
        dsimp only at p_r4
        refine ok_if (fun c251 => ?_) (fun c251 => ?_)
        ·
          replace c251 := ti_eqP c251 rfl (show (0 : Int32).toInt = 0 from rfl)
          unfold f_resultHere_137
          unfold f_resultHere_138
          refine ok_ifT (by decide) ?_
          unfold f_resultHere_148
          exact ok_ret ⟨rfl, (show (-1 : Int) ≤ (-1 : Int32).toInt ∧ (-1 : Int32).toInt ≤ (3 : Int) from (by decide))⟩
        ·
          replace c251 := ti_eqN c251 rfl (show (0 : Int32).toInt = 0 from rfl)
          refine ok_bnd (fun v5 e252 => ?_)
          have b_I_37 := tI_37 hI
          have t_v5 : v5.toInt = (I 37).toInt + 6 := ti_add e252 rfl (show (6 : Int32).toInt = 6 from rfl) (by omega) (by omega)
          have b_I_1 := tI_1 hI
          refine ok_if (fun c253 => ?_) (fun c253 => ?_)
          ·
            replace c253 := ti_leP c253 rfl rfl
            unfold f_resultHere_137
            unfold f_resultHere_138
            refine ok_ifT (by decide) ?_
            unfold f_resultHere_148
            exact ok_ret ⟨rfl, (show (-1 : Int) ≤ (-1 : Int32).toInt ∧ (-1 : Int32).toInt ≤ (3 : Int) from (by decide))⟩
          ·
            replace c253 := ti_leN c253 rfl rfl
            refine ok_bnd (fun v6 e254 => ?_)
            have t_v6 : v6.toInt = (I 37).toInt + 3 := ti_add e254 rfl (show (3 : Int32).toInt = 3 from rfl) (by omega) (by omega)
            refine ok_chk (ti_in (by omega) (by omega)) ?_
            refine ok_bnd (fun v7 e255 => ?_)
            have b_v7 := tA_2 hA ((v6).toNatClampNeg)
            rw [← e255] at b_v7
            refine ok_if (fun c256 => ?_) (fun c256 => ?_)
            ·
              replace c256 := ti_eqP c256 rfl (show (45 : Int32).toInt = 45 from rfl)
              refine ok_bnd (fun v8 e257 => ?_)
              have t_v8 : v8.toInt = (I 37).toInt + 4 := ti_add e257 rfl (show (4 : Int32).toInt = 4 from rfl) (by omega) (by omega)
              refine ok_chk (ti_in (by omega) (by omega)) ?_
              refine ok_bnd (fun v9 e258 => ?_)
              have b_v9 := tA_2 hA ((v8).toNatClampNeg)
              rw [← e258] at b_v9
              refine ok_if (fun c259 => ?_) (fun c259 => ?_)
              ·
                replace c259 := ti_eqP c259 rfl (show (49 : Int32).toInt = 49 from rfl)
                refine ok_bnd (fun v10 e260 => ?_)
                have t_v10 : v10.toInt = (I 37).toInt + 5 := ti_add e260 rfl (show (5 : Int32).toInt = 5 from rfl) (by omega) (by omega)
                refine ok_chk (ti_in (by omega) (by omega)) ?_
                refine ok_bnd (fun v11 e261 => ?_)
                have b_v11 := tA_2 hA ((v10).toNatClampNeg)
                rw [← e261] at b_v11
                refine ok_if (fun c262 => ?_) (fun c262 => ?_)
                ·
                  replace c262 := ti_eqP c262 rfl (show (47 : Int32).toInt = 47 from rfl)
                  refine ok_bnd (fun v12 e263 => ?_)
                  have t_v12 : v12.toInt = (I 37).toInt + 6 := ti_add e263 rfl (show (6 : Int32).toInt = 6 from rfl) (by omega) (by omega)
                  refine ok_chk (ti_in (by omega) (by omega)) ?_
                  refine ok_bnd (fun v13 e264 => ?_)
                  have b_v13 := tA_2 hA ((v12).toNatClampNeg)
                  rw [← e264] at b_v13
                  refine ok_if (fun c265 => ?_) (fun c265 => ?_)
                  ·
                    replace c265 := ti_eqP c265 rfl (show (50 : Int32).toInt = 50 from rfl)
                    unfold f_resultHere_138
                    refine ok_ifF (by decide) ?_
                    unfold f_resultHere_148
                    exact ok_ret ⟨rfl, (show (-1 : Int) ≤ (3 : Int32).toInt ∧ (3 : Int32).toInt ≤ (3 : Int) from (by decide))⟩
                  ·
                    replace c265 := ti_eqN c265 rfl (show (50 : Int32).toInt = 50 from rfl)
                    unfold f_resultHere_137
                    unfold f_resultHere_138
                    refine ok_ifT (by decide) ?_
                    unfold f_resultHere_148
                    exact ok_ret ⟨rfl, (show (-1 : Int) ≤ (-1 : Int32).toInt ∧ (-1 : Int32).toInt ≤ (3 : Int) from (by decide))⟩
                ·
                  replace c262 := ti_eqN c262 rfl (show (47 : Int32).toInt = 47 from rfl)
                  unfold f_resultHere_137
                  unfold f_resultHere_138
                  refine ok_ifT (by decide) ?_
                  unfold f_resultHere_148
                  exact ok_ret ⟨rfl, (show (-1 : Int) ≤ (-1 : Int32).toInt ∧ (-1 : Int32).toInt ≤ (3 : Int) from (by decide))⟩
              ·
                replace c259 := ti_eqN c259 rfl (show (49 : Int32).toInt = 49 from rfl)
                unfold f_resultHere_137
                unfold f_resultHere_138
                refine ok_ifT (by decide) ?_
                unfold f_resultHere_148
                exact ok_ret ⟨rfl, (show (-1 : Int) ≤ (-1 : Int32).toInt ∧ (-1 : Int32).toInt ≤ (3 : Int) from (by decide))⟩
            ·
              replace c256 := ti_eqN c256 rfl (show (45 : Int32).toInt = 45 from rfl)
              unfold f_resultHere_137
              unfold f_resultHere_138
              refine ok_ifT (by decide) ?_
              unfold f_resultHere_148
              exact ok_ret ⟨rfl, (show (-1 : Int) ≤ (-1 : Int32).toInt ∧ (-1 : Int32).toInt ≤ (3 : Int) from (by decide))⟩
      ·
        replace c250 := ti_eqN c250 rfl (show (0 : Int32).toInt = 0 from rfl)
        exact ok_ret ⟨rfl, (show (-1 : Int) ≤ (2 : Int32).toInt ∧ (2 : Int32).toInt ≤ (3 : Int) from (by decide))⟩
    ·
      replace c249 := ti_eqN c249 rfl (show (0 : Int32).toInt = 0 from rfl)
      exact ok_ret ⟨rfl, (show (-1 : Int) ≤ (1 : Int32).toInt ∧ (1 : Int32).toInt ≤ (3 : Int) from (by decide))⟩
theorem t_resultHere  {I : Nat → Int32} {A : Nat → Nat → Int32}  (hI : TJ I) (hA : TK A) : Ok (f_resultHere  I A) (fun o => o.2 = (I, A) ∧ ((-1 : Int) ≤ o.1.toInt ∧ o.1.toInt ≤ (3 : Int))) := t_resultHere_0  hI hA 
theorem t_addMarkTo_0  {I : Nat → Int32} {A : Nat → Nat → Int32} {x1 : Int32} {x2 : Int32} {x3 : Int32} (hI : TJ I) (hA : TK A) (r_x1 : (0 : Int) ≤ x1.toInt ∧ x1.toInt ≤ (1 : Int)) (r_x2 : (0 : Int) ≤ x2.toInt ∧ x2.toInt ≤ (300 : Int)) (r_x3 : (0 : Int) ≤ x3.toInt ∧ x3.toInt ≤ (255 : Int)) (q0 : m3 A x1.toInt x2.toInt) : Ok (f_addMarkTo_0 x1 x2 x3 I A) (fun o => TJ o.2.1 ∧ TK o.2.2 ∧ True) := by
  unfold f_addMarkTo_0
  refine ok_bnd (fun v1 e266 => ?_)
  have t_v1 : v1.toInt = 301 * x1.toInt := ti_mul e266 (show (301 : Int32).toInt = 301 from rfl) rfl (by omega) (by omega)
  refine ok_bnd (fun v2 e267 => ?_)
  have t_v2 : v2.toInt = v1.toInt + x2.toInt := ti_add e267 rfl rfl (by omega) (by omega)
  refine ok_bnd (fun v3 e268 => ?_)
  have t_v3 : v3.toInt = 4 * v2.toInt := ti_mul e268 (show (4 : Int32).toInt = 4 from rfl) rfl (by omega) (by omega)
  refine ok_chk (ti_in (by omega) (by omega)) ?_
  refine ok_bnd (fun v4 e269 => ?_)
  have b_v4 := tA_12 hA ((v2).toNatClampNeg)
  rw [← e269] at b_v4
  have i4 : v2.toNatClampNeg = (301 * x1.toInt + x2.toInt).toNat := by have := ti_nc (a := v2) (by omega); omega
  have l4 : v4.toInt ≤ 3 := by rw [e269, i4]; exact q0
  refine ok_bnd (fun v5 e270 => ?_)
  have t_v5 : v5.toInt = v3.toInt + v4.toInt := ti_add e270 rfl rfl (by omega) (by omega)
  refine ok_chk (ti_in (by omega) (by omega)) ?_
  refine ok_bnd (fun A6 e271 => ?_)
  have hA_A6 : TK A6 := e271.symm ▸ tk_u hA (j := 13) (show (0 : Int) ≤ x3.toInt from (by omega)) (show x3.toInt ≤ (255 : Int) from (by omega))
  have k272 : m3 A6 x1.toInt x2.toInt := m3_fr (show A6 12 = A 12 by rw [e271]; exact va_up_ne _ _ (by decide)) q0
  refine ok_chk (ti_in (by omega) (by omega)) ?_
  refine ok_bnd (fun v7 e273 => ?_)
  have b_v7 := tA_12 hA_A6 ((v2).toNatClampNeg)
  rw [← e273] at b_v7
  have l7 : v7.toInt ≤ 3 := by rw [e273, e271, va_up_ne _ _ (by decide), i4]; exact q0
  refine ok_bnd (fun v8 e274 => ?_)
  have t_v8 : v8.toInt = v7.toInt + 1 := ti_add e274 rfl (show (1 : Int32).toInt = 1 from rfl) (by omega) (by omega)
  refine ok_chk (ti_in (by omega) (by omega)) ?_
  refine ok_bnd (fun A9 e275 => ?_)
  have hA_A9 : TK A9 := e275.symm ▸ tk_u hA_A6 (j := 12) (show (0 : Int) ≤ v8.toInt from (by omega)) (show v8.toInt ≤ (4 : Int) from (by omega))
  exact ok_ret ⟨hI, hA_A9, trivial⟩
theorem t_addMarkTo  {I : Nat → Int32} {A : Nat → Nat → Int32} {x1 : Int32} {x2 : Int32} {x3 : Int32} (hI : TJ I) (hA : TK A) (r_x1 : (0 : Int) ≤ x1.toInt ∧ x1.toInt ≤ (1 : Int)) (r_x2 : (0 : Int) ≤ x2.toInt ∧ x2.toInt ≤ (300 : Int)) (r_x3 : (0 : Int) ≤ x3.toInt ∧ x3.toInt ≤ (255 : Int)) (q0 : m3 A x1.toInt x2.toInt) : Ok (f_addMarkTo x1 x2 x3 I A) (fun o => TJ o.2.1 ∧ TK o.2.2 ∧ True) := t_addMarkTo_0  hI hA r_x1 r_x2 r_x3 q0
theorem t_readMarks_236 {aa : Int} {I : Nat → Int32} {A : Nat → Nat → Int32} (hI : TJ I) (hA : TK A) (q0 : (I 37).toInt ≤ (I 1).toInt) (q1 : aa ≤ (I 37).toInt) : Ok (f_readMarks_236 I A) (fun o => TJ o.2.1 ∧ TK o.2.2 ∧ ((0 : Int) ≤ o.1.toInt ∧ o.1.toInt ≤ (92100 : Int)) ∧ ((o.2.1 37).toInt ≤ (o.2.1 1).toInt ∧ aa ≤ (o.2.1 37).toInt)) := by
  unfold f_readMarks_236
  have b_I_1 := tI_1 hI
  have b_I_37 := tI_37 hI
  obtain ⟨r1, h_r1, p_r1⟩ := ro (t_fault (x0 := (1 : Int32)) (x1 := (I 37))  hI hA (by decide) (by omega))
  refine ok_clR h_r1 ?_
  dsimp only at p_r1
  exact ok_ret ⟨hI, hA, (show (0 : Int) ≤ r1.toInt ∧ r1.toInt ≤ (92100 : Int) from (by omega)), (by show (I 37).toInt ≤ (I 1).toInt ∧ aa ≤ (I 37).toInt; omega)⟩
theorem t_readMarks_269 {aa : Int} {I : Nat → Int32} {A : Nat → Nat → Int32} {x3 : Int32} (hI : TJ I) (hA : TK A) (r_x3 : (0 : Int) ≤ x3.toInt ∧ x3.toInt ≤ (2000 : Int)) (q0 : (I 37).toInt ≤ (I 1).toInt) (q1 : aa ≤ (I 37).toInt) : Ok (f_readMarks_269 x3 I A) (fun o => TJ o.2.1 ∧ TK o.2.2 ∧ ((0 : Int) ≤ o.1.toInt ∧ o.1.toInt ≤ (92100 : Int)) ∧ ((o.2.1 37).toInt ≤ (o.2.1 1).toInt ∧ aa ≤ (o.2.1 37).toInt)) := by
  unfold f_readMarks_269
  have b_I_1 := tI_1 hI
  have b_I_37 := tI_37 hI
  obtain ⟨r1, h_r1, p_r1⟩ := ro (t_fault (x0 := (8 : Int32)) (x1 := x3)  hI hA (by decide) (by omega))
  refine ok_clR h_r1 ?_
  dsimp only at p_r1
  exact ok_ret ⟨hI, hA, (show (0 : Int) ≤ r1.toInt ∧ r1.toInt ≤ (92100 : Int) from (by omega)), (by show (I 37).toInt ≤ (I 1).toInt ∧ aa ≤ (I 37).toInt; omega)⟩
theorem t_readMarks_221 {aa : Int} {I : Nat → Int32} {A : Nat → Nat → Int32} {self144 : Int32 → Int32 → (Nat → Int32) → (Nat → Nat → Int32) → Option (Int32 × MS)} {N144 : Nat} (hself144 : ∀ (x1 : Int32) (x2 : Int32) (I : Nat → Int32) (A : Nat → Nat → Int32), TJ I → TK A → ((0 : Int) ≤ x1.toInt ∧ x1.toInt ≤ (1 : Int)) → ((0 : Int) ≤ x2.toInt ∧ x2.toInt ≤ (300 : Int)) → ((I 37).toInt ≤ (I 1).toInt) → (aa ≤ (I 37).toInt) → ((I 1).toInt - (I 37).toInt) < (N144 : Int) → Ok (self144 x1 x2 I A) (fun o => TJ o.2.1 ∧ TK o.2.2 ∧ ((0 : Int) ≤ o.1.toInt ∧ o.1.toInt ≤ (92100 : Int)) ∧ ((o.2.1 37).toInt ≤ (o.2.1 1).toInt ∧ aa ≤ (o.2.1 37).toInt))) {x1 : Int32} {x2 : Int32} {x3 : Int32} {x4 : Int32} {x5 : Int32} (hI : TJ I) (hA : TK A) (r_x1 : (0 : Int) ≤ x1.toInt ∧ x1.toInt ≤ (1 : Int)) (r_x2 : (0 : Int) ≤ x2.toInt ∧ x2.toInt ≤ (300 : Int)) (r_x3 : (0 : Int) ≤ x3.toInt ∧ x3.toInt ≤ (2000 : Int)) (r_x4 : (0 : Int) ≤ x4.toInt ∧ x4.toInt ≤ (999 : Int)) (r_x5 : (0 : Int) ≤ x5.toInt ∧ x5.toInt ≤ (3 : Int)) (q0 : (I 37).toInt ≤ (I 1).toInt) (q1 : aa ≤ (I 37).toInt) (m144 : ((I 1).toInt - (I 37).toInt + 1) ≤ (N144 : Int)) : Ok (f_readMarks_221 self144 x1 x2 x3 x4 x5 I A) (fun o => TJ o.2.1 ∧ TK o.2.2 ∧ ((0 : Int) ≤ o.1.toInt ∧ o.1.toInt ≤ (92100 : Int)) ∧ ((o.2.1 37).toInt ≤ (o.2.1 1).toInt ∧ aa ≤ (o.2.1 37).toInt)) := by
  unfold f_readMarks_221
  have b_I_1 := tI_1 hI
  have b_I_37 := tI_37 hI
  refine ok_if (fun c276 => ?_) (fun c276 => ?_)
  ·
    replace c276 := ti_eqP c276 rfl (show (0 : Int32).toInt = 0 from rfl)
    exact t_readMarks_236 (aa := aa)    hI hA q0 q1
  ·
    replace c276 := ti_eqN c276 rfl (show (0 : Int32).toInt = 0 from rfl)
    obtain ⟨r1, h_r1, p_r1⟩ := ro (t_look   hI hA )
    refine ok_clR h_r1 ?_
    dsimp only at p_r1
    obtain ⟨r2, h_r2, p_r2⟩ := ro (t_isDigit (x0 := r1)  hI hA )
    refine ok_clR h_r2 ?_
    dsimp only at p_r2
    refine ok_if (fun c277 => ?_) (fun c277 => ?_)
    ·
      replace c277 := ti_eqP c277 rfl (show (0 : Int32).toInt = 0 from rfl)
      refine ok_if (fun c278 => ?_) (fun c278 => ?_)
      ·
        replace c278 := ti_ltP c278 (show (255 : Int32).toInt = 255 from rfl) rfl
        exact t_readMarks_269 (aa := aa)   (x3 := x3) hI hA r_x3 q0 q1
      ·
        replace c278 := ti_ltN c278 (show (255 : Int32).toInt = 255 from rfl) rfl
        refine ok_bnd (fun v3 e279 => ?_)
        have t_v3 : v3.toInt = 301 * x1.toInt := ti_mul e279 (show (301 : Int32).toInt = 301 from rfl) rfl (by omega) (by omega)
        refine ok_bnd (fun v4 e280 => ?_)
        have t_v4 : v4.toInt = v3.toInt + x2.toInt := ti_add e280 rfl rfl (by omega) (by omega)
        refine ok_chk (ti_in (by omega) (by omega)) ?_
        refine ok_bnd (fun v5 e281 => ?_)
        have b_v5 := tA_12 hA ((v4).toNatClampNeg)
        rw [← e281] at b_v5
        have i5 : v4.toNatClampNeg = (301 * x1.toInt + x2.toInt).toNat := by have := ti_nc (a := v4) (by omega); omega
        have j5 : (A 12 (301 * x1.toInt + x2.toInt).toNat).toInt = v5.toInt := by rw [e281, i5]
        refine ok_if (fun c282 => ?_) (fun c282 => ?_)
        ·
          replace c282 := ti_eqP c282 rfl (show (4 : Int32).toInt = 4 from rfl)
          exact t_readMarks_269 (aa := aa)   (x3 := x3) hI hA r_x3 q0 q1
        ·
          replace c282 := ti_eqN c282 rfl (show (4 : Int32).toInt = 4 from rfl)
          obtain ⟨⟨r6, Ic6, Ac6⟩, h_r6, hI_Ic6, hA_Ac6, -⟩ := t_addMarkTo (x1 := x1) (x2 := x2) (x3 := x4)  hI hA r_x1 r_x2 (by omega) (by unfold m3; omega)
          replace hI_Ic6 : TJ Ic6 := hI_Ic6
          replace hA_Ac6 : TK Ac6 := hA_Ac6
          refine ok_clR h_r6 ?_
          have f_r6 := fw_addMarkTo h_r6
          have : (Ic6 1).toInt = (I 1).toInt := congrArg Int32.toInt (f_r6.1 1 (by decide))
          have : (Ic6 37).toInt = (I 37).toInt := congrArg Int32.toInt (f_r6.1 37 (by decide))
          have b_Ic6_1 := tI_1 hI_Ic6
          have b_Ic6_37 := tI_37 hI_Ic6
          obtain ⟨⟨r7, Ic7, Ac7⟩, h_r7, hI_Ic7, hA_Ac7, p_r7_0⟩ := t_blanks   hI_Ic6 hA_Ac6 (show (Ic6 37).toInt ≤ (Ic6 37).toInt ∧ (Ic6 37).toInt ≤ (Ic6 1).toInt ∧ (Ic6 1).toInt ≤ (Ic6 1).toInt from ⟨Int.le_refl _, by omega, Int.le_refl _⟩)
          replace hI_Ic7 : TJ Ic7 := hI_Ic7
          replace hA_Ac7 : TK Ac7 := hA_Ac7
          dsimp only at p_r7_0
          refine ok_clR h_r7 ?_
          have f_r7 := fw_blanks h_r7
          have : (Ic7 1).toInt = (Ic6 1).toInt := congrArg Int32.toInt (f_r7.1 1 (by decide))
          have b_Ic7_1 := tI_1 hI_Ic7
          have b_Ic7_37 := tI_37 hI_Ic7
          exact hself144 x1 x2 Ic7 Ac7 hI_Ic7 hA_Ac7 r_x1 r_x2 (by omega) (by omega) (by omega)
    ·
      replace c277 := ti_eqN c277 rfl (show (0 : Int32).toInt = 0 from rfl)
      exact t_readMarks_236 (aa := aa)    hI hA q0 q1
theorem t_readMarks_174s {aa : Int} {I : Nat → Int32} {A : Nat → Nat → Int32} {self144 : Int32 → Int32 → (Nat → Int32) → (Nat → Nat → Int32) → Option (Int32 × MS)} {N144 : Nat} (hself144 : ∀ (x1 : Int32) (x2 : Int32) (I : Nat → Int32) (A : Nat → Nat → Int32), TJ I → TK A → ((0 : Int) ≤ x1.toInt ∧ x1.toInt ≤ (1 : Int)) → ((0 : Int) ≤ x2.toInt ∧ x2.toInt ≤ (300 : Int)) → ((I 37).toInt ≤ (I 1).toInt) → (aa ≤ (I 37).toInt) → ((I 1).toInt - (I 37).toInt) < (N144 : Int) → Ok (self144 x1 x2 I A) (fun o => TJ o.2.1 ∧ TK o.2.2 ∧ ((0 : Int) ≤ o.1.toInt ∧ o.1.toInt ≤ (92100 : Int)) ∧ ((o.2.1 37).toInt ≤ (o.2.1 1).toInt ∧ aa ≤ (o.2.1 37).toInt))) {self174 : Int32 → Int32 → Int32 → Int32 → Int32 → (Nat → Int32) → (Nat → Nat → Int32) → Option (Int32 × MS)} {N174 : Nat} (hself174 : ∀ (x1 : Int32) (x2 : Int32) (x3 : Int32) (x4 : Int32) (x5 : Int32) (I : Nat → Int32) (A : Nat → Nat → Int32), TJ I → TK A → ((0 : Int) ≤ x1.toInt ∧ x1.toInt ≤ (1 : Int)) → ((0 : Int) ≤ x2.toInt ∧ x2.toInt ≤ (300 : Int)) → ((0 : Int) ≤ x3.toInt ∧ x3.toInt ≤ (2000 : Int)) → ((0 : Int) ≤ x4.toInt ∧ x4.toInt ≤ (999 : Int)) → ((0 : Int) ≤ x5.toInt ∧ x5.toInt ≤ (3 : Int)) → ((I 37).toInt ≤ (I 1).toInt) → (aa ≤ (I 37).toInt) → ((x5.toInt = 0 → x4.toInt = 0) ∧ (x5.toInt ≤ 1 → x4.toInt ≤ 9) ∧ (x5.toInt ≤ 2 → x4.toInt ≤ 99) ∧ (x5.toInt ≤ 3 → x4.toInt ≤ 999)) → (((I 1).toInt - (I 37).toInt + 1) ≤ (N144 : Int)) → (4 - x5.toInt) < (N174 : Int) → Ok (self174 x1 x2 x3 x4 x5 I A) (fun o => TJ o.2.1 ∧ TK o.2.2 ∧ ((0 : Int) ≤ o.1.toInt ∧ o.1.toInt ≤ (92100 : Int)) ∧ ((o.2.1 37).toInt ≤ (o.2.1 1).toInt ∧ aa ≤ (o.2.1 37).toInt))) {x1 : Int32} {x2 : Int32} {x3 : Int32} {x4 : Int32} {x5 : Int32} (hI : TJ I) (hA : TK A) (r_x1 : (0 : Int) ≤ x1.toInt ∧ x1.toInt ≤ (1 : Int)) (r_x2 : (0 : Int) ≤ x2.toInt ∧ x2.toInt ≤ (300 : Int)) (r_x3 : (0 : Int) ≤ x3.toInt ∧ x3.toInt ≤ (2000 : Int)) (r_x4 : (0 : Int) ≤ x4.toInt ∧ x4.toInt ≤ (999 : Int)) (r_x5 : (0 : Int) ≤ x5.toInt ∧ x5.toInt ≤ (3 : Int)) (q0 : (I 37).toInt ≤ (I 1).toInt) (q1 : aa ≤ (I 37).toInt) (q2 : (x5.toInt = 0 → x4.toInt = 0) ∧ (x5.toInt ≤ 1 → x4.toInt ≤ 9) ∧ (x5.toInt ≤ 2 → x4.toInt ≤ 99) ∧ (x5.toInt ≤ 3 → x4.toInt ≤ 999)) (m144 : ((I 1).toInt - (I 37).toInt + 1) ≤ (N144 : Int)) (m174 : (4 - x5.toInt) ≤ (N174 : Int)) : Ok (f_readMarks_174s self144 self174 x1 x2 x3 x4 x5 I A) (fun o => TJ o.2.1 ∧ TK o.2.2 ∧ ((0 : Int) ≤ o.1.toInt ∧ o.1.toInt ≤ (92100 : Int)) ∧ ((o.2.1 37).toInt ≤ (o.2.1 1).toInt ∧ aa ≤ (o.2.1 37).toInt)) := by
  unfold f_readMarks_174s
  have b_I_1 := tI_1 hI
  have b_I_37 := tI_37 hI
  obtain ⟨r1, h_r1, p_r1⟩ := ro (t_look   hI hA )
  refine ok_clR h_r1 ?_
  dsimp only at p_r1
  obtain ⟨r2, h_r2, p_r2⟩ := ro (t_isDigit (x0 := r1)  hI hA )
  refine ok_clR h_r2 ?_
  dsimp only at p_r2
  refine ok_if (fun c283 => ?_) (fun c283 => ?_)
  ·
    replace c283 := ti_eqP c283 rfl (show (0 : Int32).toInt = 0 from rfl)
    exact t_readMarks_221 (aa := aa)  hself144 (x1 := x1) (x2 := x2) (x3 := x3) (x4 := x4) (x5 := x5) hI hA r_x1 r_x2 r_x3 r_x4 r_x5 q0 q1 m144
  ·
    replace c283 := ti_eqN c283 rfl (show (0 : Int32).toInt = 0 from rfl)
    refine ok_if (fun c284 => ?_) (fun c284 => ?_)
    ·
      replace c284 := ti_leP c284 (show (3 : Int32).toInt = 3 from rfl) rfl
      exact t_readMarks_221 (aa := aa)  hself144 (x1 := x1) (x2 := x2) (x3 := x3) (x4 := x4) (x5 := x5) hI hA r_x1 r_x2 r_x3 r_x4 r_x5 q0 q1 m144
    ·
      replace c284 := ti_leN c284 (show (3 : Int32).toInt = 3 from rfl) rfl
      refine ok_bnd (fun v3 e285 => ?_)
      have t_v3 : v3.toInt = 10 * x4.toInt := ti_mul e285 (show (10 : Int32).toInt = 10 from rfl) rfl (by omega) (by omega)
      obtain ⟨r4, h_r4, p_r4⟩ := ro (t_look   hI hA )
      refine ok_clR h_r4 ?_
      dsimp only at p_r4
      have e4 : r4.toInt = r1.toInt := by rw [ro_eq h_r1 h_r4]
      refine ok_bnd (fun v5 e286 => ?_)
      have t_v5 : v5.toInt = v3.toInt + r4.toInt := ti_add e286 rfl rfl (by omega) (by omega)
      refine ok_bnd (fun v6 e287 => ?_)
      have t_v6 : v6.toInt = v5.toInt - 48 := ti_sub e287 rfl (show (48 : Int32).toInt = 48 from rfl) (by omega) (by omega)
      refine ok_bnd (fun v7 e288 => ?_)
      have t_v7 : v7.toInt = x5.toInt + 1 := ti_add e288 rfl (show (1 : Int32).toInt = 1 from rfl) (by omega) (by omega)
      refine ok_bnd (fun v8 e289 => ?_)
      have t_v8 : v8.toInt = (I 37).toInt + 1 := ti_add e289 rfl (show (1 : Int32).toInt = 1 from rfl) (by omega) (by omega)
      refine ok_bnd (fun I9 e290 => ?_)
      have hI_I9 : TJ I9 := e290.symm ▸ tj_u hI (k := 37) (show (0 : Int) ≤ v8.toInt from (by omega)) (show v8.toInt ≤ (2100 : Int) from (by omega))
      have : (I9 1).toInt = (I 1).toInt := by rw [e290]; rfl
      have : (I9 37).toInt = v8.toInt := by rw [e290]; exact rfl
      have b_I9_1 := tI_1 hI_I9
      have b_I9_37 := tI_37 hI_I9
      exact hself174 x1 x2 x3 v6 v7 I9 A hI_I9 hA r_x1 r_x2 r_x3 (by omega) (by omega) (by omega) (by omega) (by omega) (by omega) (by omega)
theorem t_readMarks_174 {aa : Int} {self144 : Int32 → Int32 → (Nat → Int32) → (Nat → Nat → Int32) → Option (Int32 × MS)} {N144 : Nat} (hself144 : ∀ (x1 : Int32) (x2 : Int32) (I : Nat → Int32) (A : Nat → Nat → Int32), TJ I → TK A → ((0 : Int) ≤ x1.toInt ∧ x1.toInt ≤ (1 : Int)) → ((0 : Int) ≤ x2.toInt ∧ x2.toInt ≤ (300 : Int)) → ((I 37).toInt ≤ (I 1).toInt) → (aa ≤ (I 37).toInt) → ((I 1).toInt - (I 37).toInt) < (N144 : Int) → Ok (self144 x1 x2 I A) (fun o => TJ o.2.1 ∧ TK o.2.2 ∧ ((0 : Int) ≤ o.1.toInt ∧ o.1.toInt ≤ (92100 : Int)) ∧ ((o.2.1 37).toInt ≤ (o.2.1 1).toInt ∧ aa ≤ (o.2.1 37).toInt))) : ∀ (n : Nat) (x1 : Int32) (x2 : Int32) (x3 : Int32) (x4 : Int32) (x5 : Int32) (I : Nat → Int32) (A : Nat → Nat → Int32), TJ I → TK A → ((0 : Int) ≤ x1.toInt ∧ x1.toInt ≤ (1 : Int)) → ((0 : Int) ≤ x2.toInt ∧ x2.toInt ≤ (300 : Int)) → ((0 : Int) ≤ x3.toInt ∧ x3.toInt ≤ (2000 : Int)) → ((0 : Int) ≤ x4.toInt ∧ x4.toInt ≤ (999 : Int)) → ((0 : Int) ≤ x5.toInt ∧ x5.toInt ≤ (3 : Int)) → ((I 37).toInt ≤ (I 1).toInt) → (aa ≤ (I 37).toInt) → ((x5.toInt = 0 → x4.toInt = 0) ∧ (x5.toInt ≤ 1 → x4.toInt ≤ 9) ∧ (x5.toInt ≤ 2 → x4.toInt ≤ 99) ∧ (x5.toInt ≤ 3 → x4.toInt ≤ 999)) → (((I 1).toInt - (I 37).toInt + 1) ≤ (N144 : Int)) → (4 - x5.toInt) < (n : Int) → Ok (f_readMarks_174 self144 n x1 x2 x3 x4 x5 I A) (fun o => TJ o.2.1 ∧ TK o.2.2 ∧ ((0 : Int) ≤ o.1.toInt ∧ o.1.toInt ≤ (92100 : Int)) ∧ ((o.2.1 37).toInt ≤ (o.2.1 1).toInt ∧ aa ≤ (o.2.1 37).toInt)) := by
  intro n
  induction n with
  | zero => intro x1 x2 x3 x4 x5 I A hI hA g0 g1 g2 g3 g4 g5 g6 g7 w0 hm; exfalso; omega
  | succ n ih =>
    intro x1 x2 x3 x4 x5 I A hI hA g0 g1 g2 g3 g4 g5 g6 g7 w0 hm
    exact t_readMarks_174s (aa := aa)  (N174 := n) hself144 ih hI hA g0 g1 g2 g3 g4 g5 g6 g7 w0 (by omega)
theorem t_readMarks_144s {aa : Int} {I : Nat → Int32} {A : Nat → Nat → Int32} {self144 : Int32 → Int32 → (Nat → Int32) → (Nat → Nat → Int32) → Option (Int32 × MS)} {N144 : Nat} (hself144 : ∀ (x1 : Int32) (x2 : Int32) (I : Nat → Int32) (A : Nat → Nat → Int32), TJ I → TK A → ((0 : Int) ≤ x1.toInt ∧ x1.toInt ≤ (1 : Int)) → ((0 : Int) ≤ x2.toInt ∧ x2.toInt ≤ (300 : Int)) → ((I 37).toInt ≤ (I 1).toInt) → (aa ≤ (I 37).toInt) → ((I 1).toInt - (I 37).toInt) < (N144 : Int) → Ok (self144 x1 x2 I A) (fun o => TJ o.2.1 ∧ TK o.2.2 ∧ ((0 : Int) ≤ o.1.toInt ∧ o.1.toInt ≤ (92100 : Int)) ∧ ((o.2.1 37).toInt ≤ (o.2.1 1).toInt ∧ aa ≤ (o.2.1 37).toInt))) {x1 : Int32} {x2 : Int32} (hI : TJ I) (hA : TK A) (r_x1 : (0 : Int) ≤ x1.toInt ∧ x1.toInt ≤ (1 : Int)) (r_x2 : (0 : Int) ≤ x2.toInt ∧ x2.toInt ≤ (300 : Int)) (q0 : (I 37).toInt ≤ (I 1).toInt) (q1 : aa ≤ (I 37).toInt) (m144 : ((I 1).toInt - (I 37).toInt) ≤ (N144 : Int)) : Ok (f_readMarks_144s self144 x1 x2 I A) (fun o => TJ o.2.1 ∧ TK o.2.2 ∧ ((0 : Int) ≤ o.1.toInt ∧ o.1.toInt ≤ (92100 : Int)) ∧ ((o.2.1 37).toInt ≤ (o.2.1 1).toInt ∧ aa ≤ (o.2.1 37).toInt)) := by
  unfold f_readMarks_144s
  have b_I_1 := tI_1 hI
  have b_I_37 := tI_37 hI
  obtain ⟨r1, h_r1, p_r1⟩ := ro (t_look   hI hA )
  refine ok_clR h_r1 ?_
  dsimp only at p_r1
  refine ok_if (fun c291 => ?_) (fun c291 => ?_)
  ·
    replace c291 := ti_eqP c291 rfl (show (36 : Int32).toInt = 36 from rfl)
    refine ok_bnd (fun v2 e292 => ?_)
    have t_v2 : v2.toInt = (I 37).toInt + 1 := ti_add e292 rfl (show (1 : Int32).toInt = 1 from rfl) (by omega) (by omega)
    refine ok_bnd (fun I3 e293 => ?_)
    have hI_I3 : TJ I3 := e293.symm ▸ tj_u hI (k := 37) (show (0 : Int) ≤ v2.toInt from (by omega)) (show v2.toInt ≤ (2100 : Int) from (by omega))
    have : (I3 1).toInt = (I 1).toInt := by rw [e293]; rfl
    have : (I3 37).toInt = v2.toInt := by rw [e293]; exact rfl
    have b_I3_1 := tI_1 hI_I3
    have b_I3_37 := tI_37 hI_I3
    exact t_readMarks_174 (aa := aa)  hself144  mFuel x1 x2 (I 37) (0 : Int32) (0 : Int32) I3 A hI_I3 hA r_x1 r_x2 (by omega) (by decide) (by decide) (by have z0 : (0 : Int32).toInt = 0 := rfl; have z1 : (0 : Int32).toInt = 0 := rfl; omega) (by have z0 : (0 : Int32).toInt = 0 := rfl; have z1 : (0 : Int32).toInt = 0 := rfl; omega) (by have z0 : (0 : Int32).toInt = 0 := rfl; have z1 : (0 : Int32).toInt = 0 := rfl; omega) (by have z0 : (0 : Int32).toInt = 0 := rfl; have z1 : (0 : Int32).toInt = 0 := rfl; omega) (by show _ < ((200000 : Nat) : Int); have z0 : (0 : Int32).toInt = 0 := rfl; have z1 : (0 : Int32).toInt = 0 := rfl; omega)
  ·
    replace c291 := ti_eqN c291 rfl (show (36 : Int32).toInt = 36 from rfl)
    exact ok_ret ⟨hI, hA, (show (0 : Int) ≤ (0 : Int32).toInt ∧ (0 : Int32).toInt ≤ (92100 : Int) from (by decide)), (by show (I 37).toInt ≤ (I 1).toInt ∧ aa ≤ (I 37).toInt; have z : (0 : Int32).toInt = 0 := rfl; omega)⟩
theorem t_readMarks_144 {aa : Int}  : ∀ (n : Nat) (x1 : Int32) (x2 : Int32) (I : Nat → Int32) (A : Nat → Nat → Int32), TJ I → TK A → ((0 : Int) ≤ x1.toInt ∧ x1.toInt ≤ (1 : Int)) → ((0 : Int) ≤ x2.toInt ∧ x2.toInt ≤ (300 : Int)) → ((I 37).toInt ≤ (I 1).toInt) → (aa ≤ (I 37).toInt) → ((I 1).toInt - (I 37).toInt) < (n : Int) → Ok (f_readMarks_144  n x1 x2 I A) (fun o => TJ o.2.1 ∧ TK o.2.2 ∧ ((0 : Int) ≤ o.1.toInt ∧ o.1.toInt ≤ (92100 : Int)) ∧ ((o.2.1 37).toInt ≤ (o.2.1 1).toInt ∧ aa ≤ (o.2.1 37).toInt)) := by
  intro n
  induction n with
  | zero => intro x1 x2 I A hI hA g0 g1 g2 g3  hm; exfalso; omega
  | succ n ih =>
    intro x1 x2 I A hI hA g0 g1 g2 g3  hm
    exact t_readMarks_144s (aa := aa)  (N144 := n)  ih hI hA g0 g1 g2 g3  (by omega)
theorem t_readMarks_132 {aa : Int} {I : Nat → Int32} {A : Nat → Nat → Int32} {x1 : Int32} {x2 : Int32} {x4 : Int32} (hI : TJ I) (hA : TK A) (r_x1 : (0 : Int) ≤ x1.toInt ∧ x1.toInt ≤ (1 : Int)) (r_x2 : (0 : Int) ≤ x2.toInt ∧ x2.toInt ≤ (300 : Int)) (r_x4 : (1 : Int) ≤ x4.toInt ∧ x4.toInt ≤ (6 : Int)) (q0 : (I 37).toInt ≤ (I 1).toInt) (q1 : aa ≤ (I 37).toInt) (q2 : m3 A x1.toInt x2.toInt) : Ok (f_readMarks_132 x1 x2 x4 I A) (fun o => TJ o.2.1 ∧ TK o.2.2 ∧ ((0 : Int) ≤ o.1.toInt ∧ o.1.toInt ≤ (92100 : Int)) ∧ ((o.2.1 37).toInt ≤ (o.2.1 1).toInt ∧ aa ≤ (o.2.1 37).toInt)) := by
  unfold f_readMarks_132
  have b_I_1 := tI_1 hI
  have b_I_37 := tI_37 hI
  obtain ⟨⟨r1, Ic1, Ac1⟩, h_r1, hI_Ic1, hA_Ac1, -⟩ := t_addMarkTo (x1 := x1) (x2 := x2) (x3 := x4)  hI hA r_x1 r_x2 (by omega) q2
  replace hI_Ic1 : TJ Ic1 := hI_Ic1
  replace hA_Ac1 : TK Ac1 := hA_Ac1
  refine ok_clR h_r1 ?_
  have f_r1 := fw_addMarkTo h_r1
  have : (Ic1 1).toInt = (I 1).toInt := congrArg Int32.toInt (f_r1.1 1 (by decide))
  have : (Ic1 37).toInt = (I 37).toInt := congrArg Int32.toInt (f_r1.1 37 (by decide))
  have b_Ic1_1 := tI_1 hI_Ic1
  have b_Ic1_37 := tI_37 hI_Ic1
  obtain ⟨⟨r2, Ic2, Ac2⟩, h_r2, hI_Ic2, hA_Ac2, p_r2_0⟩ := t_blanks   hI_Ic1 hA_Ac1 (show (Ic1 37).toInt ≤ (Ic1 37).toInt ∧ (Ic1 37).toInt ≤ (Ic1 1).toInt ∧ (Ic1 1).toInt ≤ (Ic1 1).toInt from ⟨Int.le_refl _, by omega, Int.le_refl _⟩)
  replace hI_Ic2 : TJ Ic2 := hI_Ic2
  replace hA_Ac2 : TK Ac2 := hA_Ac2
  dsimp only at p_r2_0
  refine ok_clR h_r2 ?_
  have f_r2 := fw_blanks h_r2
  have : (Ic2 1).toInt = (Ic1 1).toInt := congrArg Int32.toInt (f_r2.1 1 (by decide))
  have b_Ic2_1 := tI_1 hI_Ic2
  have b_Ic2_37 := tI_37 hI_Ic2
  exact t_readMarks_144 (aa := aa)    mFuel x1 x2 Ic2 Ac2 hI_Ic2 hA_Ac2 r_x1 r_x2 (by omega) (by omega) (by show _ < ((200000 : Nat) : Int); omega)
theorem t_readMarks_120 {aa : Int} {I : Nat → Int32} {A : Nat → Nat → Int32} {x1 : Int32} {x2 : Int32} {t0 : Int32} (hI : TJ I) (hA : TK A) (r_x1 : (0 : Int) ≤ x1.toInt ∧ x1.toInt ≤ (1 : Int)) (r_x2 : (0 : Int) ≤ x2.toInt ∧ x2.toInt ≤ (300 : Int)) (r_t0 : (1 : Int) ≤ t0.toInt ∧ t0.toInt ≤ (6 : Int)) (q0 : (I 37).toInt < (I 1).toInt) (q1 : aa ≤ (I 37).toInt) (q2 : m3 A x1.toInt x2.toInt) : Ok (f_readMarks_120 x1 x2 t0 I A) (fun o => TJ o.2.1 ∧ TK o.2.2 ∧ ((0 : Int) ≤ o.1.toInt ∧ o.1.toInt ≤ (92100 : Int)) ∧ ((o.2.1 37).toInt ≤ (o.2.1 1).toInt ∧ aa ≤ (o.2.1 37).toInt)) := by
  unfold f_readMarks_120
  have b_I_1 := tI_1 hI
  have b_I_37 := tI_37 hI
  refine ok_bnd (fun v1 e294 => ?_)
  have t_v1 : v1.toInt = (I 37).toInt + 1 := ti_add e294 rfl (show (1 : Int32).toInt = 1 from rfl) (by omega) (by omega)
  refine ok_bnd (fun I2 e295 => ?_)
  have hI_I2 : TJ I2 := e295.symm ▸ tj_u hI (k := 37) (show (0 : Int) ≤ v1.toInt from (by omega)) (show v1.toInt ≤ (2100 : Int) from (by omega))
  have : (I2 1).toInt = (I 1).toInt := by rw [e295]; rfl
  have : (I2 37).toInt = v1.toInt := by rw [e295]; exact rfl
  have b_I2_1 := tI_1 hI_I2
  have b_I2_37 := tI_37 hI_I2
  exact t_readMarks_132 (aa := aa)   (x1 := x1) (x2 := x2) (x4 := t0) hI_I2 hA r_x1 r_x2 r_t0 (by omega) (by omega) q2
theorem t_readMarks_90 {aa : Int} {I : Nat → Int32} {A : Nat → Nat → Int32} {x1 : Int32} {x2 : Int32} {x3 : Int32} {t0 : Int32} (hI : TJ I) (hA : TK A) (r_x1 : (0 : Int) ≤ x1.toInt ∧ x1.toInt ≤ (1 : Int)) (r_x2 : (0 : Int) ≤ x2.toInt ∧ x2.toInt ≤ (300 : Int)) (r_x3 : (0 : Int) ≤ x3.toInt ∧ x3.toInt ≤ (1 : Int)) (r_t0 : (0 : Int) ≤ t0.toInt ∧ t0.toInt ≤ (1 : Int)) (q0 : (I 37).toInt < (I 1).toInt) (q1 : aa ≤ (I 37).toInt) (q2 : m3 A x1.toInt x2.toInt) : Ok (f_readMarks_90 x1 x2 x3 t0 I A) (fun o => TJ o.2.1 ∧ TK o.2.2 ∧ ((0 : Int) ≤ o.1.toInt ∧ o.1.toInt ≤ (92100 : Int)) ∧ ((o.2.1 37).toInt ≤ (o.2.1 1).toInt ∧ aa ≤ (o.2.1 37).toInt)) := by
  unfold f_readMarks_90
  have b_I_1 := tI_1 hI
  have b_I_37 := tI_37 hI
  refine ok_if (fun c296 => ?_) (fun c296 => ?_)
  ·
    replace c296 := ti_eqP c296 rfl (show (0 : Int32).toInt = 0 from rfl)
    refine ok_if (fun c297 => ?_) (fun c297 => ?_)
    ·
      replace c297 := ti_eqP c297 rfl (show (0 : Int32).toInt = 0 from rfl)
      exact t_readMarks_120 (aa := aa)   (x1 := x1) (x2 := x2) (t0 := (4 : Int32)) hI hA r_x1 r_x2 (by decide) q0 q1 q2
    ·
      replace c297 := ti_eqN c297 rfl (show (0 : Int32).toInt = 0 from rfl)
      exact t_readMarks_120 (aa := aa)   (x1 := x1) (x2 := x2) (t0 := (6 : Int32)) hI hA r_x1 r_x2 (by decide) q0 q1 q2
  ·
    replace c296 := ti_eqN c296 rfl (show (0 : Int32).toInt = 0 from rfl)
    refine ok_if (fun c298 => ?_) (fun c298 => ?_)
    ·
      replace c298 := ti_eqP c298 rfl (show (0 : Int32).toInt = 0 from rfl)
      exact t_readMarks_120 (aa := aa)   (x1 := x1) (x2 := x2) (t0 := (5 : Int32)) hI hA r_x1 r_x2 (by decide) q0 q1 q2
    ·
      replace c298 := ti_eqN c298 rfl (show (0 : Int32).toInt = 0 from rfl)
      exact t_readMarks_120 (aa := aa)   (x1 := x1) (x2 := x2) (t0 := (3 : Int32)) hI hA r_x1 r_x2 (by decide) q0 q1 q2
theorem t_readMarks_76 {aa : Int} {I : Nat → Int32} {A : Nat → Nat → Int32} {x1 : Int32} {x2 : Int32} {x3 : Int32} (hI : TJ I) (hA : TK A) (r_x1 : (0 : Int) ≤ x1.toInt ∧ x1.toInt ≤ (1 : Int)) (r_x2 : (0 : Int) ≤ x2.toInt ∧ x2.toInt ≤ (300 : Int)) (r_x3 : (0 : Int) ≤ x3.toInt ∧ x3.toInt ≤ (1 : Int)) (q0 : (I 37).toInt < (I 1).toInt) (q1 : aa ≤ (I 37).toInt) (q2 : m3 A x1.toInt x2.toInt) : Ok (f_readMarks_76 x1 x2 x3 I A) (fun o => TJ o.2.1 ∧ TK o.2.2 ∧ ((0 : Int) ≤ o.1.toInt ∧ o.1.toInt ≤ (92100 : Int)) ∧ ((o.2.1 37).toInt ≤ (o.2.1 1).toInt ∧ aa ≤ (o.2.1 37).toInt)) := by
  unfold f_readMarks_76
  have b_I_1 := tI_1 hI
  have b_I_37 := tI_37 hI
  obtain ⟨r1, h_r1, p_r1⟩ := ro (t_look   hI hA )
  refine ok_clR h_r1 ?_
  dsimp only at p_r1
  refine ok_if (fun c299 => ?_) (fun c299 => ?_)
  ·
    replace c299 := ti_eqP c299 rfl (show (33 : Int32).toInt = 33 from rfl)
    exact t_readMarks_90 (aa := aa)   (x1 := x1) (x2 := x2) (x3 := x3) (t0 := (1 : Int32)) hI hA r_x1 r_x2 r_x3 (by decide) q0 q1 q2
  ·
    replace c299 := ti_eqN c299 rfl (show (33 : Int32).toInt = 33 from rfl)
    exact t_readMarks_90 (aa := aa)   (x1 := x1) (x2 := x2) (x3 := x3) (t0 := (0 : Int32)) hI hA r_x1 r_x2 r_x3 (by decide) q0 q1 q2
theorem t_readMarks_56 {aa : Int} {I : Nat → Int32} {A : Nat → Nat → Int32} {x1 : Int32} {x2 : Int32} {x3 : Int32} {t0 : Int32} (hI : TJ I) (hA : TK A) (r_x1 : (0 : Int) ≤ x1.toInt ∧ x1.toInt ≤ (1 : Int)) (r_x2 : (0 : Int) ≤ x2.toInt ∧ x2.toInt ≤ (300 : Int)) (r_x3 : (0 : Int) ≤ x3.toInt ∧ x3.toInt ≤ (1 : Int)) (r_t0 : (1 : Int) ≤ t0.toInt ∧ t0.toInt ≤ (2 : Int)) (q0 : (I 37).toInt ≤ (I 1).toInt) (q1 : aa ≤ (I 37).toInt) (q2 : m3 A x1.toInt x2.toInt) : Ok (f_readMarks_56 x1 x2 x3 t0 I A) (fun o => TJ o.2.1 ∧ TK o.2.2 ∧ ((0 : Int) ≤ o.1.toInt ∧ o.1.toInt ≤ (92100 : Int)) ∧ ((o.2.1 37).toInt ≤ (o.2.1 1).toInt ∧ aa ≤ (o.2.1 37).toInt)) := by
  unfold f_readMarks_56
  have b_I_1 := tI_1 hI
  have b_I_37 := tI_37 hI
  obtain ⟨r1, h_r1, p_r1⟩ := ro (t_look   hI hA )
  refine ok_clR h_r1 ?_
  dsimp only at p_r1
  refine ok_if (fun c300 => ?_) (fun c300 => ?_)
  ·
    replace c300 := ti_eqP c300 rfl (show (33 : Int32).toInt = 33 from rfl)
    exact t_readMarks_76 (aa := aa)   (x1 := x1) (x2 := x2) (x3 := x3) hI hA r_x1 r_x2 r_x3 (by omega) q1 q2
  ·
    replace c300 := ti_eqN c300 rfl (show (33 : Int32).toInt = 33 from rfl)
    obtain ⟨r2, h_r2, p_r2⟩ := ro (t_look   hI hA )
    refine ok_clR h_r2 ?_
    dsimp only at p_r2
    refine ok_if (fun c301 => ?_) (fun c301 => ?_)
    ·
      replace c301 := ti_eqP c301 rfl (show (63 : Int32).toInt = 63 from rfl)
      exact t_readMarks_76 (aa := aa)   (x1 := x1) (x2 := x2) (x3 := x3) hI hA r_x1 r_x2 r_x3 (by omega) q1 q2
    ·
      replace c301 := ti_eqN c301 rfl (show (63 : Int32).toInt = 63 from rfl)
      exact t_readMarks_132 (aa := aa)   (x1 := x1) (x2 := x2) (x4 := t0) hI hA r_x1 r_x2 (by omega) q0 q1 q2
theorem t_readMarks_36 {aa : Int} {I : Nat → Int32} {A : Nat → Nat → Int32} {x1 : Int32} {x2 : Int32} {t0 : Int32} (hI : TJ I) (hA : TK A) (r_x1 : (0 : Int) ≤ x1.toInt ∧ x1.toInt ≤ (1 : Int)) (r_x2 : (0 : Int) ≤ x2.toInt ∧ x2.toInt ≤ (300 : Int)) (r_t0 : (0 : Int) ≤ t0.toInt ∧ t0.toInt ≤ (1 : Int)) (q0 : (I 37).toInt < (I 1).toInt) (q1 : aa ≤ (I 37).toInt) (q2 : m3 A x1.toInt x2.toInt) : Ok (f_readMarks_36 x1 x2 t0 I A) (fun o => TJ o.2.1 ∧ TK o.2.2 ∧ ((0 : Int) ≤ o.1.toInt ∧ o.1.toInt ≤ (92100 : Int)) ∧ ((o.2.1 37).toInt ≤ (o.2.1 1).toInt ∧ aa ≤ (o.2.1 37).toInt)) := by
  unfold f_readMarks_36
  have b_I_1 := tI_1 hI
  have b_I_37 := tI_37 hI
  refine ok_bnd (fun v1 e302 => ?_)
  have t_v1 : v1.toInt = (I 37).toInt + 1 := ti_add e302 rfl (show (1 : Int32).toInt = 1 from rfl) (by omega) (by omega)
  refine ok_bnd (fun I2 e303 => ?_)
  have hI_I2 : TJ I2 := e303.symm ▸ tj_u hI (k := 37) (show (0 : Int) ≤ v1.toInt from (by omega)) (show v1.toInt ≤ (2100 : Int) from (by omega))
  have : (I2 1).toInt = (I 1).toInt := by rw [e303]; rfl
  have : (I2 37).toInt = v1.toInt := by rw [e303]; exact rfl
  refine ok_if (fun c304 => ?_) (fun c304 => ?_)
  ·
    replace c304 := ti_eqP c304 rfl (show (0 : Int32).toInt = 0 from rfl)
    have b_I2_1 := tI_1 hI_I2
    have b_I2_37 := tI_37 hI_I2
    exact t_readMarks_56 (aa := aa)   (x1 := x1) (x2 := x2) (x3 := t0) (t0 := (2 : Int32)) hI_I2 hA r_x1 r_x2 r_t0 (by decide) (by have z0 : (2 : Int32).toInt = 2 := rfl; omega) (by have z0 : (2 : Int32).toInt = 2 := rfl; omega) q2
  ·
    replace c304 := ti_eqN c304 rfl (show (0 : Int32).toInt = 0 from rfl)
    have b_I2_1 := tI_1 hI_I2
    have b_I2_37 := tI_37 hI_I2
    exact t_readMarks_56 (aa := aa)   (x1 := x1) (x2 := x2) (x3 := t0) (t0 := (1 : Int32)) hI_I2 hA r_x1 r_x2 r_t0 (by decide) (by have z0 : (1 : Int32).toInt = 1 := rfl; omega) (by have z0 : (1 : Int32).toInt = 1 := rfl; omega) q2
theorem t_readMarks_22 {aa : Int} {I : Nat → Int32} {A : Nat → Nat → Int32} {x1 : Int32} {x2 : Int32} (hI : TJ I) (hA : TK A) (r_x1 : (0 : Int) ≤ x1.toInt ∧ x1.toInt ≤ (1 : Int)) (r_x2 : (0 : Int) ≤ x2.toInt ∧ x2.toInt ≤ (300 : Int)) (q0 : (I 37).toInt < (I 1).toInt) (q1 : aa ≤ (I 37).toInt) (q2 : m3 A x1.toInt x2.toInt) : Ok (f_readMarks_22 x1 x2 I A) (fun o => TJ o.2.1 ∧ TK o.2.2 ∧ ((0 : Int) ≤ o.1.toInt ∧ o.1.toInt ≤ (92100 : Int)) ∧ ((o.2.1 37).toInt ≤ (o.2.1 1).toInt ∧ aa ≤ (o.2.1 37).toInt)) := by
  unfold f_readMarks_22
  have b_I_1 := tI_1 hI
  have b_I_37 := tI_37 hI
  obtain ⟨r1, h_r1, p_r1⟩ := ro (t_look   hI hA )
  refine ok_clR h_r1 ?_
  dsimp only at p_r1
  refine ok_if (fun c305 => ?_) (fun c305 => ?_)
  ·
    replace c305 := ti_eqP c305 rfl (show (33 : Int32).toInt = 33 from rfl)
    exact t_readMarks_36 (aa := aa)   (x1 := x1) (x2 := x2) (t0 := (1 : Int32)) hI hA r_x1 r_x2 (by decide) q0 q1 q2
  ·
    replace c305 := ti_eqN c305 rfl (show (33 : Int32).toInt = 33 from rfl)
    exact t_readMarks_36 (aa := aa)   (x1 := x1) (x2 := x2) (t0 := (0 : Int32)) hI hA r_x1 r_x2 (by decide) q0 q1 q2
theorem t_readMarks_0 {aa : Int} {I : Nat → Int32} {A : Nat → Nat → Int32} {x1 : Int32} {x2 : Int32} (hI : TJ I) (hA : TK A) (r_x1 : (0 : Int) ≤ x1.toInt ∧ x1.toInt ≤ (1 : Int)) (r_x2 : (0 : Int) ≤ x2.toInt ∧ x2.toInt ≤ (300 : Int)) (q0 : (I 37).toInt ≤ (I 1).toInt) (q1 : aa ≤ (I 37).toInt) (q2 : m3 A x1.toInt x2.toInt) : Ok (f_readMarks_0 x1 x2 I A) (fun o => TJ o.2.1 ∧ TK o.2.2 ∧ ((0 : Int) ≤ o.1.toInt ∧ o.1.toInt ≤ (92100 : Int)) ∧ ((o.2.1 37).toInt ≤ (o.2.1 1).toInt ∧ aa ≤ (o.2.1 37).toInt)) := by
  unfold f_readMarks_0
  have b_I_1 := tI_1 hI
  have b_I_37 := tI_37 hI
  obtain ⟨⟨r1, Ic1, Ac1⟩, h_r1, hI_Ic1, hA_Ac1, p_r1_0⟩ := t_blanks   hI hA (show (I 37).toInt ≤ (I 37).toInt ∧ (I 37).toInt ≤ (I 1).toInt ∧ (I 1).toInt ≤ (I 1).toInt from ⟨Int.le_refl _, by omega, Int.le_refl _⟩)
  replace hI_Ic1 : TJ Ic1 := hI_Ic1
  replace hA_Ac1 : TK Ac1 := hA_Ac1
  dsimp only at p_r1_0
  refine ok_clR h_r1 ?_
  have f_r1 := fw_blanks h_r1
  have : (Ic1 1).toInt = (I 1).toInt := congrArg Int32.toInt (f_r1.1 1 (by decide))
  have k306 : m3 Ac1 x1.toInt x2.toInt := m3_fr (f_r1.2 12 (by decide)) q2
  obtain ⟨r2, h_r2, p_r2⟩ := ro (t_look   hI_Ic1 hA_Ac1 )
  refine ok_clR h_r2 ?_
  dsimp only at p_r2
  refine ok_if (fun c307 => ?_) (fun c307 => ?_)
  ·
    replace c307 := ti_eqP c307 rfl (show (33 : Int32).toInt = 33 from rfl)
    have b_Ic1_1 := tI_1 hI_Ic1
    have b_Ic1_37 := tI_37 hI_Ic1
    exact t_readMarks_22 (aa := aa)   (x1 := x1) (x2 := x2) hI_Ic1 hA_Ac1 r_x1 r_x2 (by omega) (by omega) k306
  ·
    replace c307 := ti_eqN c307 rfl (show (33 : Int32).toInt = 33 from rfl)
    obtain ⟨r3, h_r3, p_r3⟩ := ro (t_look   hI_Ic1 hA_Ac1 )
    refine ok_clR h_r3 ?_
    dsimp only at p_r3
    refine ok_if (fun c308 => ?_) (fun c308 => ?_)
    ·
      replace c308 := ti_eqP c308 rfl (show (63 : Int32).toInt = 63 from rfl)
      have b_Ic1_1 := tI_1 hI_Ic1
      have b_Ic1_37 := tI_37 hI_Ic1
      exact t_readMarks_22 (aa := aa)   (x1 := x1) (x2 := x2) hI_Ic1 hA_Ac1 r_x1 r_x2 (by omega) (by omega) k306
    ·
      replace c308 := ti_eqN c308 rfl (show (63 : Int32).toInt = 63 from rfl)
      have b_Ic1_1 := tI_1 hI_Ic1
      have b_Ic1_37 := tI_37 hI_Ic1
      exact t_readMarks_144 (aa := aa)    mFuel x1 x2 Ic1 Ac1 hI_Ic1 hA_Ac1 r_x1 r_x2 (by omega) (by omega) (by show _ < ((200000 : Nat) : Int); omega)
theorem t_readMarks {aa : Int} {I : Nat → Int32} {A : Nat → Nat → Int32} {x1 : Int32} {x2 : Int32} (hI : TJ I) (hA : TK A) (r_x1 : (0 : Int) ≤ x1.toInt ∧ x1.toInt ≤ (1 : Int)) (r_x2 : (0 : Int) ≤ x2.toInt ∧ x2.toInt ≤ (300 : Int)) (q0 : (I 37).toInt ≤ (I 1).toInt) (q1 : aa ≤ (I 37).toInt) (q2 : m3 A x1.toInt x2.toInt) : Ok (f_readMarks x1 x2 I A) (fun o => TJ o.2.1 ∧ TK o.2.2 ∧ ((0 : Int) ≤ o.1.toInt ∧ o.1.toInt ≤ (92100 : Int)) ∧ ((o.2.1 37).toInt ≤ (o.2.1 1).toInt ∧ aa ≤ (o.2.1 37).toInt)) := t_readMarks_0 (aa := aa) hI hA r_x1 r_x2 q0 q1 q2
theorem t_readMoveNumber_65s {aa : Int} {I : Nat → Int32} {A : Nat → Nat → Int32} {self65 : Int32 → Int32 → (Nat → Int32) → (Nat → Nat → Int32) → Option (Int32 × MS)} {N65 : Nat} (hself65 : ∀ (x1 : Int32) (x2 : Int32) (I : Nat → Int32) (A : Nat → Nat → Int32), TJ I → TK A → ((0 : Int) ≤ x1.toInt ∧ x1.toInt ≤ (2000 : Int)) → ((0 : Int) ≤ x2.toInt ∧ x2.toInt ≤ (9999 : Int)) → ((I 37).toInt ≤ (I 1).toInt) → (aa ≤ (I 37).toInt) → ((I 1).toInt - (I 37).toInt) < (N65 : Int) → Ok (self65 x1 x2 I A) (fun o => TJ o.2.1 ∧ TK o.2.2 ∧ ((0 : Int) ≤ o.1.toInt ∧ o.1.toInt ≤ (92100 : Int)) ∧ ((o.2.1 37).toInt ≤ (o.2.1 1).toInt ∧ aa ≤ (o.2.1 37).toInt))) {x1 : Int32} {x2 : Int32} (hI : TJ I) (hA : TK A) (r_x1 : (0 : Int) ≤ x1.toInt ∧ x1.toInt ≤ (2000 : Int)) (r_x2 : (0 : Int) ≤ x2.toInt ∧ x2.toInt ≤ (9999 : Int)) (q0 : (I 37).toInt ≤ (I 1).toInt) (q1 : aa ≤ (I 37).toInt) (m65 : ((I 1).toInt - (I 37).toInt) ≤ (N65 : Int)) : Ok (f_readMoveNumber_65s self65 x1 x2 I A) (fun o => TJ o.2.1 ∧ TK o.2.2 ∧ ((0 : Int) ≤ o.1.toInt ∧ o.1.toInt ≤ (92100 : Int)) ∧ ((o.2.1 37).toInt ≤ (o.2.1 1).toInt ∧ aa ≤ (o.2.1 37).toInt)) := by
  unfold f_readMoveNumber_65s
  have b_I_1 := tI_1 hI
  have b_I_37 := tI_37 hI
  obtain ⟨r1, h_r1, p_r1⟩ := ro (t_look   hI hA )
  refine ok_clR h_r1 ?_
  dsimp only at p_r1
  refine ok_if (fun c309 => ?_) (fun c309 => ?_)
  ·
    replace c309 := ti_eqP c309 rfl (show (46 : Int32).toInt = 46 from rfl)
    refine ok_bnd (fun v4 e310 => ?_)
    have t_v4 : v4.toInt = (I 37).toInt + 1 := ti_add e310 rfl (show (1 : Int32).toInt = 1 from rfl) (by omega) (by omega)
    refine ok_bnd (fun I5 e311 => ?_)
    have hI_I5 : TJ I5 := e311.symm ▸ tj_u hI (k := 37) (show (0 : Int) ≤ v4.toInt from (by omega)) (show v4.toInt ≤ (2100 : Int) from (by omega))
    have : (I5 1).toInt = (I 1).toInt := by rw [e311]; rfl
    have : (I5 37).toInt = v4.toInt := by rw [e311]; exact rfl
    have b_I5_1 := tI_1 hI_I5
    have b_I5_37 := tI_37 hI_I5
    exact hself65 x1 x2 I5 A hI_I5 hA r_x1 r_x2 (by omega) (by omega) (by omega)
  ·
    replace c309 := ti_eqN c309 rfl (show (46 : Int32).toInt = 46 from rfl)
    have b_I_29 := tI_29 hI
    refine ok_if (fun c312 => ?_) (fun c312 => ?_)
    ·
      replace c312 := ti_eqP c312 rfl rfl
      obtain ⟨⟨r2, Ic2, Ac2⟩, h_r2, hI_Ic2, hA_Ac2, p_r2_0⟩ := t_blanks   hI hA (show (I 37).toInt ≤ (I 37).toInt ∧ (I 37).toInt ≤ (I 1).toInt ∧ (I 1).toInt ≤ (I 1).toInt from ⟨Int.le_refl _, by omega, Int.le_refl _⟩)
      replace hI_Ic2 : TJ Ic2 := hI_Ic2
      replace hA_Ac2 : TK Ac2 := hA_Ac2
      dsimp only at p_r2_0
      refine ok_clR h_r2 ?_
      have f_r2 := fw_blanks h_r2
      have : (Ic2 1).toInt = (I 1).toInt := congrArg Int32.toInt (f_r2.1 1 (by decide))
      exact ok_ret ⟨hI_Ic2, hA_Ac2, (show (0 : Int) ≤ (0 : Int32).toInt ∧ (0 : Int32).toInt ≤ (92100 : Int) from (by decide)), (by show (Ic2 37).toInt ≤ (Ic2 1).toInt ∧ aa ≤ (Ic2 37).toInt; have z : (0 : Int32).toInt = 0 := rfl; omega)⟩
    ·
      replace c312 := ti_eqN c312 rfl rfl
      obtain ⟨r3, h_r3, p_r3⟩ := ro (t_fault (x0 := (7 : Int32)) (x1 := x1)  hI hA (by decide) (by omega))
      refine ok_clR h_r3 ?_
      dsimp only at p_r3
      exact ok_ret ⟨hI, hA, (show (0 : Int) ≤ r3.toInt ∧ r3.toInt ≤ (92100 : Int) from (by omega)), (by show (I 37).toInt ≤ (I 1).toInt ∧ aa ≤ (I 37).toInt; omega)⟩
theorem t_readMoveNumber_65 {aa : Int}  : ∀ (n : Nat) (x1 : Int32) (x2 : Int32) (I : Nat → Int32) (A : Nat → Nat → Int32), TJ I → TK A → ((0 : Int) ≤ x1.toInt ∧ x1.toInt ≤ (2000 : Int)) → ((0 : Int) ≤ x2.toInt ∧ x2.toInt ≤ (9999 : Int)) → ((I 37).toInt ≤ (I 1).toInt) → (aa ≤ (I 37).toInt) → ((I 1).toInt - (I 37).toInt) < (n : Int) → Ok (f_readMoveNumber_65  n x1 x2 I A) (fun o => TJ o.2.1 ∧ TK o.2.2 ∧ ((0 : Int) ≤ o.1.toInt ∧ o.1.toInt ≤ (92100 : Int)) ∧ ((o.2.1 37).toInt ≤ (o.2.1 1).toInt ∧ aa ≤ (o.2.1 37).toInt)) := by
  intro n
  induction n with
  | zero => intro x1 x2 I A hI hA g0 g1 g2 g3  hm; exfalso; omega
  | succ n ih =>
    intro x1 x2 I A hI hA g0 g1 g2 g3  hm
    exact t_readMoveNumber_65s (aa := aa)  (N65 := n)  ih hI hA g0 g1 g2 g3  (by omega)
theorem t_readMoveNumber_21s {aa : Int} {I : Nat → Int32} {A : Nat → Nat → Int32} {self21 : Int32 → Int32 → Int32 → (Nat → Int32) → (Nat → Nat → Int32) → Option (Int32 × MS)} {N21 : Nat} (hself21 : ∀ (x1 : Int32) (x2 : Int32) (x3 : Int32) (I : Nat → Int32) (A : Nat → Nat → Int32), TJ I → TK A → ((0 : Int) ≤ x1.toInt ∧ x1.toInt ≤ (2000 : Int)) → ((0 : Int) ≤ x2.toInt ∧ x2.toInt ≤ (9999 : Int)) → ((0 : Int) ≤ x3.toInt ∧ x3.toInt ≤ (4 : Int)) → ((I 37).toInt ≤ (I 1).toInt) → (aa ≤ (I 37).toInt) → ((x3.toInt = 0 → x2.toInt = 0) ∧ (x3.toInt ≤ 1 → x2.toInt ≤ 9) ∧ (x3.toInt ≤ 2 → x2.toInt ≤ 99) ∧ (x3.toInt ≤ 3 → x2.toInt ≤ 999)) → (5 - x3.toInt) < (N21 : Int) → Ok (self21 x1 x2 x3 I A) (fun o => TJ o.2.1 ∧ TK o.2.2 ∧ ((0 : Int) ≤ o.1.toInt ∧ o.1.toInt ≤ (92100 : Int)) ∧ ((o.2.1 37).toInt ≤ (o.2.1 1).toInt ∧ aa ≤ (o.2.1 37).toInt))) {x1 : Int32} {x2 : Int32} {x3 : Int32} (hI : TJ I) (hA : TK A) (r_x1 : (0 : Int) ≤ x1.toInt ∧ x1.toInt ≤ (2000 : Int)) (r_x2 : (0 : Int) ≤ x2.toInt ∧ x2.toInt ≤ (9999 : Int)) (r_x3 : (0 : Int) ≤ x3.toInt ∧ x3.toInt ≤ (4 : Int)) (q0 : (I 37).toInt ≤ (I 1).toInt) (q1 : aa ≤ (I 37).toInt) (q2 : (x3.toInt = 0 → x2.toInt = 0) ∧ (x3.toInt ≤ 1 → x2.toInt ≤ 9) ∧ (x3.toInt ≤ 2 → x2.toInt ≤ 99) ∧ (x3.toInt ≤ 3 → x2.toInt ≤ 999)) (m21 : (5 - x3.toInt) ≤ (N21 : Int)) : Ok (f_readMoveNumber_21s self21 x1 x2 x3 I A) (fun o => TJ o.2.1 ∧ TK o.2.2 ∧ ((0 : Int) ≤ o.1.toInt ∧ o.1.toInt ≤ (92100 : Int)) ∧ ((o.2.1 37).toInt ≤ (o.2.1 1).toInt ∧ aa ≤ (o.2.1 37).toInt)) := by
  unfold f_readMoveNumber_21s
  have b_I_1 := tI_1 hI
  have b_I_37 := tI_37 hI
  obtain ⟨r1, h_r1, p_r1⟩ := ro (t_look   hI hA )
  refine ok_clR h_r1 ?_
  dsimp only at p_r1
  obtain ⟨r2, h_r2, p_r2⟩ := ro (t_isDigit (x0 := r1)  hI hA )
  refine ok_clR h_r2 ?_
  dsimp only at p_r2
  refine ok_if (fun c313 => ?_) (fun c313 => ?_)
  ·
    replace c313 := ti_eqP c313 rfl (show (0 : Int32).toInt = 0 from rfl)
    exact t_readMoveNumber_65 (aa := aa)    mFuel x1 x2 I A hI hA r_x1 r_x2 q0 q1 (by show _ < ((200000 : Nat) : Int); omega)
  ·
    replace c313 := ti_eqN c313 rfl (show (0 : Int32).toInt = 0 from rfl)
    refine ok_if (fun c314 => ?_) (fun c314 => ?_)
    ·
      replace c314 := ti_leP c314 (show (4 : Int32).toInt = 4 from rfl) rfl
      exact t_readMoveNumber_65 (aa := aa)    mFuel x1 x2 I A hI hA r_x1 r_x2 q0 q1 (by show _ < ((200000 : Nat) : Int); omega)
    ·
      replace c314 := ti_leN c314 (show (4 : Int32).toInt = 4 from rfl) rfl
      refine ok_bnd (fun v3 e315 => ?_)
      have t_v3 : v3.toInt = 10 * x2.toInt := ti_mul e315 (show (10 : Int32).toInt = 10 from rfl) rfl (by omega) (by omega)
      obtain ⟨r4, h_r4, p_r4⟩ := ro (t_look   hI hA )
      refine ok_clR h_r4 ?_
      dsimp only at p_r4
      have e4 : r4.toInt = r1.toInt := by rw [ro_eq h_r1 h_r4]
      refine ok_bnd (fun v5 e316 => ?_)
      have t_v5 : v5.toInt = v3.toInt + r4.toInt := ti_add e316 rfl rfl (by omega) (by omega)
      refine ok_bnd (fun v6 e317 => ?_)
      have t_v6 : v6.toInt = v5.toInt - 48 := ti_sub e317 rfl (show (48 : Int32).toInt = 48 from rfl) (by omega) (by omega)
      refine ok_bnd (fun v7 e318 => ?_)
      have t_v7 : v7.toInt = x3.toInt + 1 := ti_add e318 rfl (show (1 : Int32).toInt = 1 from rfl) (by omega) (by omega)
      refine ok_bnd (fun v8 e319 => ?_)
      have t_v8 : v8.toInt = (I 37).toInt + 1 := ti_add e319 rfl (show (1 : Int32).toInt = 1 from rfl) (by omega) (by omega)
      refine ok_bnd (fun I9 e320 => ?_)
      have hI_I9 : TJ I9 := e320.symm ▸ tj_u hI (k := 37) (show (0 : Int) ≤ v8.toInt from (by omega)) (show v8.toInt ≤ (2100 : Int) from (by omega))
      have : (I9 1).toInt = (I 1).toInt := by rw [e320]; rfl
      have : (I9 37).toInt = v8.toInt := by rw [e320]; exact rfl
      have b_I9_1 := tI_1 hI_I9
      have b_I9_37 := tI_37 hI_I9
      exact hself21 x1 v6 v7 I9 A hI_I9 hA r_x1 (by omega) (by omega) (by omega) (by omega) (by omega) (by omega)
theorem t_readMoveNumber_21 {aa : Int}  : ∀ (n : Nat) (x1 : Int32) (x2 : Int32) (x3 : Int32) (I : Nat → Int32) (A : Nat → Nat → Int32), TJ I → TK A → ((0 : Int) ≤ x1.toInt ∧ x1.toInt ≤ (2000 : Int)) → ((0 : Int) ≤ x2.toInt ∧ x2.toInt ≤ (9999 : Int)) → ((0 : Int) ≤ x3.toInt ∧ x3.toInt ≤ (4 : Int)) → ((I 37).toInt ≤ (I 1).toInt) → (aa ≤ (I 37).toInt) → ((x3.toInt = 0 → x2.toInt = 0) ∧ (x3.toInt ≤ 1 → x2.toInt ≤ 9) ∧ (x3.toInt ≤ 2 → x2.toInt ≤ 99) ∧ (x3.toInt ≤ 3 → x2.toInt ≤ 999)) → (5 - x3.toInt) < (n : Int) → Ok (f_readMoveNumber_21  n x1 x2 x3 I A) (fun o => TJ o.2.1 ∧ TK o.2.2 ∧ ((0 : Int) ≤ o.1.toInt ∧ o.1.toInt ≤ (92100 : Int)) ∧ ((o.2.1 37).toInt ≤ (o.2.1 1).toInt ∧ aa ≤ (o.2.1 37).toInt)) := by
  intro n
  induction n with
  | zero => intro x1 x2 x3 I A hI hA g0 g1 g2 g3 g4 g5  hm; exfalso; omega
  | succ n ih =>
    intro x1 x2 x3 I A hI hA g0 g1 g2 g3 g4 g5  hm
    exact t_readMoveNumber_21s (aa := aa)  (N21 := n)  ih hI hA g0 g1 g2 g3 g4 g5  (by omega)
theorem t_readMoveNumber_0 {aa : Int} {I : Nat → Int32} {A : Nat → Nat → Int32} (hI : TJ I) (hA : TK A) (q0 : (I 37).toInt ≤ (I 1).toInt) (q1 : aa ≤ (I 37).toInt) : Ok (f_readMoveNumber_0 I A) (fun o => TJ o.2.1 ∧ TK o.2.2 ∧ ((0 : Int) ≤ o.1.toInt ∧ o.1.toInt ≤ (92100 : Int)) ∧ ((o.2.1 37).toInt ≤ (o.2.1 1).toInt ∧ aa ≤ (o.2.1 37).toInt)) := by
  unfold f_readMoveNumber_0
  have b_I_1 := tI_1 hI
  have b_I_37 := tI_37 hI
  obtain ⟨r1, h_r1, p_r1⟩ := ro (t_look   hI hA )
  refine ok_clR h_r1 ?_
  dsimp only at p_r1
  obtain ⟨r2, h_r2, p_r2⟩ := ro (t_isDigit (x0 := r1)  hI hA )
  refine ok_clR h_r2 ?_
  dsimp only at p_r2
  refine ok_if (fun c321 => ?_) (fun c321 => ?_)
  ·
    replace c321 := ti_eqP c321 rfl (show (0 : Int32).toInt = 0 from rfl)
    exact ok_ret ⟨hI, hA, (show (0 : Int) ≤ (0 : Int32).toInt ∧ (0 : Int32).toInt ≤ (92100 : Int) from (by decide)), (by show (I 37).toInt ≤ (I 1).toInt ∧ aa ≤ (I 37).toInt; have z : (0 : Int32).toInt = 0 := rfl; omega)⟩
  ·
    replace c321 := ti_eqN c321 rfl (show (0 : Int32).toInt = 0 from rfl)
    exact t_readMoveNumber_21 (aa := aa)    mFuel (I 37) (0 : Int32) (0 : Int32) I A hI hA (by omega) (by decide) (by decide) q0 q1 (by have z0 : (0 : Int32).toInt = 0 := rfl; have z1 : (0 : Int32).toInt = 0 := rfl; omega) (by show _ < ((200000 : Nat) : Int); have z0 : (0 : Int32).toInt = 0 := rfl; have z1 : (0 : Int32).toInt = 0 := rfl; omega)
theorem t_readMoveNumber {aa : Int} {I : Nat → Int32} {A : Nat → Nat → Int32}  (hI : TJ I) (hA : TK A) (q0 : (I 37).toInt ≤ (I 1).toInt) (q1 : aa ≤ (I 37).toInt) : Ok (f_readMoveNumber  I A) (fun o => TJ o.2.1 ∧ TK o.2.2 ∧ ((0 : Int) ≤ o.1.toInt ∧ o.1.toInt ≤ (92100 : Int)) ∧ ((o.2.1 37).toInt ≤ (o.2.1 1).toInt ∧ aa ≤ (o.2.1 37).toInt)) := t_readMoveNumber_0 (aa := aa) hI hA q0 q1
theorem t_resultSize_0  {I : Nat → Int32} {A : Nat → Nat → Int32} {x0 : Int32} (hI : TJ I) (hA : TK A) : Ok (f_resultSize_0 x0 I A) (fun o => o.2 = (I, A) ∧ ((1 : Int) ≤ o.1.toInt ∧ o.1.toInt ≤ (7 : Int))) := by
  unfold f_resultSize_0
  refine ok_if (fun c322 => ?_) (fun c322 => ?_)
  ·
    replace c322 := ti_eqP c322 rfl (show (0 : Int32).toInt = 0 from rfl)
    unfold f_resultSize_19
    exact ok_ret ⟨rfl, (show (1 : Int) ≤ (1 : Int32).toInt ∧ (1 : Int32).toInt ≤ (7 : Int) from (by decide))⟩
  ·
    replace c322 := ti_eqN c322 rfl (show (0 : Int32).toInt = 0 from rfl)
    refine ok_if (fun c323 => ?_) (fun c323 => ?_)
    ·
      replace c323 := ti_eqP c323 rfl (show (3 : Int32).toInt = 3 from rfl)
      unfold f_resultSize_19
      exact ok_ret ⟨rfl, (show (1 : Int) ≤ (7 : Int32).toInt ∧ (7 : Int32).toInt ≤ (7 : Int) from (by decide))⟩
    ·
      replace c323 := ti_eqN c323 rfl (show (3 : Int32).toInt = 3 from rfl)
      unfold f_resultSize_19
      exact ok_ret ⟨rfl, (show (1 : Int) ≤ (3 : Int32).toInt ∧ (3 : Int32).toInt ≤ (7 : Int) from (by decide))⟩
theorem t_resultSize  {I : Nat → Int32} {A : Nat → Nat → Int32} {x0 : Int32} (hI : TJ I) (hA : TK A) : Ok (f_resultSize x0 I A) (fun o => o.2 = (I, A) ∧ ((1 : Int) ≤ o.1.toInt ∧ o.1.toInt ≤ (7 : Int))) := t_resultSize_0  hI hA 
theorem t_resultSign_0  {I : Nat → Int32} {A : Nat → Nat → Int32} {x0 : Int32} {x1 : Int32} (hI : TJ I) (hA : TK A) : Ok (f_resultSign_0 x0 x1 I A) (fun o => o.2 = (I, A) ∧ ((0 : Int) ≤ o.1.toInt ∧ o.1.toInt ≤ (65535 : Int))) := by
  unfold f_resultSign_0
  refine ok_if (fun c324 => ?_) (fun c324 => ?_)
  ·
    replace c324 := ti_eqP c324 rfl (show (0 : Int32).toInt = 0 from rfl)
    refine ok_chk (by decide) ?_
    exact ok_ret ⟨rfl, (show (0 : Int) ≤ (42 : Int32).toInt ∧ (42 : Int32).toInt ≤ (65535 : Int) from (by decide))⟩
  ·
    replace c324 := ti_eqN c324 rfl (show (0 : Int32).toInt = 0 from rfl)
    refine ok_if (fun c325 => ?_) (fun c325 => ?_)
    ·
      replace c325 := ti_eqP c325 rfl (show (1 : Int32).toInt = 1 from rfl)
      refine ok_if (fun c326 => ?_) (fun c326 => ?_)
      ·
        replace c326 := ti_eqP c326 rfl (show (0 : Int32).toInt = 0 from rfl)
        unfold f_resultSign_52
        refine ok_chk (by decide) ?_
        exact ok_ret ⟨rfl, (show (0 : Int) ≤ (49 : Int32).toInt ∧ (49 : Int32).toInt ≤ (65535 : Int) from (by decide))⟩
      ·
        replace c326 := ti_eqN c326 rfl (show (0 : Int32).toInt = 0 from rfl)
        refine ok_if (fun c327 => ?_) (fun c327 => ?_)
        ·
          replace c327 := ti_eqP c327 rfl (show (1 : Int32).toInt = 1 from rfl)
          unfold f_resultSign_52
          refine ok_chk (by decide) ?_
          exact ok_ret ⟨rfl, (show (0 : Int) ≤ (45 : Int32).toInt ∧ (45 : Int32).toInt ≤ (65535 : Int) from (by decide))⟩
        ·
          replace c327 := ti_eqN c327 rfl (show (1 : Int32).toInt = 1 from rfl)
          unfold f_resultSign_52
          refine ok_chk (by decide) ?_
          exact ok_ret ⟨rfl, (show (0 : Int) ≤ (48 : Int32).toInt ∧ (48 : Int32).toInt ≤ (65535 : Int) from (by decide))⟩
    ·
      replace c325 := ti_eqN c325 rfl (show (1 : Int32).toInt = 1 from rfl)
      refine ok_if (fun c328 => ?_) (fun c328 => ?_)
      ·
        replace c328 := ti_eqP c328 rfl (show (2 : Int32).toInt = 2 from rfl)
        refine ok_if (fun c329 => ?_) (fun c329 => ?_)
        ·
          replace c329 := ti_eqP c329 rfl (show (0 : Int32).toInt = 0 from rfl)
          unfold f_resultSign_74
          refine ok_chk (by decide) ?_
          exact ok_ret ⟨rfl, (show (0 : Int) ≤ (48 : Int32).toInt ∧ (48 : Int32).toInt ≤ (65535 : Int) from (by decide))⟩
        ·
          replace c329 := ti_eqN c329 rfl (show (0 : Int32).toInt = 0 from rfl)
          refine ok_if (fun c330 => ?_) (fun c330 => ?_)
          ·
            replace c330 := ti_eqP c330 rfl (show (1 : Int32).toInt = 1 from rfl)
            unfold f_resultSign_74
            refine ok_chk (by decide) ?_
            exact ok_ret ⟨rfl, (show (0 : Int) ≤ (45 : Int32).toInt ∧ (45 : Int32).toInt ≤ (65535 : Int) from (by decide))⟩
          ·
            replace c330 := ti_eqN c330 rfl (show (1 : Int32).toInt = 1 from rfl)
            unfold f_resultSign_74
            refine ok_chk (by decide) ?_
            exact ok_ret ⟨rfl, (show (0 : Int) ≤ (49 : Int32).toInt ∧ (49 : Int32).toInt ≤ (65535 : Int) from (by decide))⟩
      ·
        replace c328 := ti_eqN c328 rfl (show (2 : Int32).toInt = 2 from rfl)
        refine ok_if (fun c331 => ?_) (fun c331 => ?_)
        ·
          replace c331 := ti_eqP c331 rfl (show (1 : Int32).toInt = 1 from rfl)
          unfold f_resultSign_85
          unfold f_resultSign_116
          refine ok_chk (by decide) ?_
          exact ok_ret ⟨rfl, (show (0 : Int) ≤ (47 : Int32).toInt ∧ (47 : Int32).toInt ≤ (65535 : Int) from (by decide))⟩
        ·
          replace c331 := ti_eqN c331 rfl (show (1 : Int32).toInt = 1 from rfl)
          refine ok_if (fun c332 => ?_) (fun c332 => ?_)
          ·
            replace c332 := ti_eqP c332 rfl (show (5 : Int32).toInt = 5 from rfl)
            unfold f_resultSign_85
            unfold f_resultSign_116
            refine ok_chk (by decide) ?_
            exact ok_ret ⟨rfl, (show (0 : Int) ≤ (47 : Int32).toInt ∧ (47 : Int32).toInt ≤ (65535 : Int) from (by decide))⟩
          ·
            replace c332 := ti_eqN c332 rfl (show (5 : Int32).toInt = 5 from rfl)
            refine ok_if (fun c333 => ?_) (fun c333 => ?_)
            ·
              replace c333 := ti_eqP c333 rfl (show (3 : Int32).toInt = 3 from rfl)
              unfold f_resultSign_116
              refine ok_chk (by decide) ?_
              exact ok_ret ⟨rfl, (show (0 : Int) ≤ (45 : Int32).toInt ∧ (45 : Int32).toInt ≤ (65535 : Int) from (by decide))⟩
            ·
              replace c333 := ti_eqN c333 rfl (show (3 : Int32).toInt = 3 from rfl)
              refine ok_if (fun c334 => ?_) (fun c334 => ?_)
              ·
                replace c334 := ti_eqP c334 rfl (show (0 : Int32).toInt = 0 from rfl)
                unfold f_resultSign_109
                unfold f_resultSign_116
                refine ok_chk (by decide) ?_
                exact ok_ret ⟨rfl, (show (0 : Int) ≤ (49 : Int32).toInt ∧ (49 : Int32).toInt ≤ (65535 : Int) from (by decide))⟩
              ·
                replace c334 := ti_eqN c334 rfl (show (0 : Int32).toInt = 0 from rfl)
                refine ok_if (fun c335 => ?_) (fun c335 => ?_)
                ·
                  replace c335 := ti_eqP c335 rfl (show (4 : Int32).toInt = 4 from rfl)
                  unfold f_resultSign_109
                  unfold f_resultSign_116
                  refine ok_chk (by decide) ?_
                  exact ok_ret ⟨rfl, (show (0 : Int) ≤ (49 : Int32).toInt ∧ (49 : Int32).toInt ≤ (65535 : Int) from (by decide))⟩
                ·
                  replace c335 := ti_eqN c335 rfl (show (4 : Int32).toInt = 4 from rfl)
                  unfold f_resultSign_116
                  refine ok_chk (by decide) ?_
                  exact ok_ret ⟨rfl, (show (0 : Int) ≤ (50 : Int32).toInt ∧ (50 : Int32).toInt ≤ (65535 : Int) from (by decide))⟩
theorem t_resultSign  {I : Nat → Int32} {A : Nat → Nat → Int32} {x0 : Int32} {x1 : Int32} (hI : TJ I) (hA : TK A) : Ok (f_resultSign x0 x1 I A) (fun o => o.2 = (I, A) ∧ ((0 : Int) ≤ o.1.toInt ∧ o.1.toInt ≤ (65535 : Int))) := t_resultSign_0  hI hA 
theorem t_isResultValue_74  {I : Nat → Int32} {A : Nat → Nat → Int32} {self28 : Int32 → Int32 → Int32 → Int32 → Int32 → (Nat → Int32) → (Nat → Nat → Int32) → Option (Int32 × MS)} {N28 : Nat} (hself28 : ∀ (x1 : Int32) (x2 : Int32) (x3 : Int32) (x4 : Int32) (x5 : Int32),  ((0 : Int) ≤ x1.toInt ∧ x1.toInt ≤ (1 : Int)) → ((0 : Int) ≤ x2.toInt ∧ x2.toInt ≤ (7 : Int)) → ((0 : Int) ≤ x4.toInt ∧ x4.toInt ≤ (1 : Int)) → ((0 : Int) ≤ x5.toInt ∧ x5.toInt ≤ (7 : Int)) → (8 - x5.toInt) < (N28 : Int) → Ok (self28 x1 x2 x3 x4 x5 I A) (fun o => o.2 = (I, A) ∧ ((0 : Int) ≤ o.1.toInt ∧ o.1.toInt ≤ (1 : Int)))) {x1 : Int32} {x2 : Int32} {x3 : Int32} {x5 : Int32} {t0 : Int32} (hI : TJ I) (hA : TK A) (r_x1 : (0 : Int) ≤ x1.toInt ∧ x1.toInt ≤ (1 : Int)) (r_x2 : (0 : Int) ≤ x2.toInt ∧ x2.toInt ≤ (7 : Int)) (r_x5 : (0 : Int) ≤ x5.toInt ∧ x5.toInt ≤ (6 : Int)) (r_t0 : (0 : Int) ≤ t0.toInt ∧ t0.toInt ≤ (1 : Int)) (m28 : (8 - x5.toInt) ≤ (N28 : Int)) : Ok (f_isResultValue_74 self28 x1 x2 x3 x5 t0 I A) (fun o => o.2 = (I, A) ∧ ((0 : Int) ≤ o.1.toInt ∧ o.1.toInt ≤ (1 : Int))) := by
  unfold f_isResultValue_74
  refine ok_bnd (fun v1 e336 => ?_)
  have t_v1 : v1.toInt = x5.toInt + 1 := ti_add e336 rfl (show (1 : Int32).toInt = 1 from rfl) (by omega) (by omega)
  exact hself28 x1 x2 x3 t0 v1 r_x1 r_x2 r_t0 (by omega) (by omega)
theorem t_isResultValue_28s  {I : Nat → Int32} {A : Nat → Nat → Int32} {self28 : Int32 → Int32 → Int32 → Int32 → Int32 → (Nat → Int32) → (Nat → Nat → Int32) → Option (Int32 × MS)} {N28 : Nat} (hself28 : ∀ (x1 : Int32) (x2 : Int32) (x3 : Int32) (x4 : Int32) (x5 : Int32),  ((0 : Int) ≤ x1.toInt ∧ x1.toInt ≤ (1 : Int)) → ((0 : Int) ≤ x2.toInt ∧ x2.toInt ≤ (7 : Int)) → ((0 : Int) ≤ x4.toInt ∧ x4.toInt ≤ (1 : Int)) → ((0 : Int) ≤ x5.toInt ∧ x5.toInt ≤ (7 : Int)) → (8 - x5.toInt) < (N28 : Int) → Ok (self28 x1 x2 x3 x4 x5 I A) (fun o => o.2 = (I, A) ∧ ((0 : Int) ≤ o.1.toInt ∧ o.1.toInt ≤ (1 : Int)))) {x1 : Int32} {x2 : Int32} {x3 : Int32} {x4 : Int32} {x5 : Int32} (hI : TJ I) (hA : TK A) (r_x1 : (0 : Int) ≤ x1.toInt ∧ x1.toInt ≤ (1 : Int)) (r_x2 : (0 : Int) ≤ x2.toInt ∧ x2.toInt ≤ (7 : Int)) (r_x4 : (0 : Int) ≤ x4.toInt ∧ x4.toInt ≤ (1 : Int)) (r_x5 : (0 : Int) ≤ x5.toInt ∧ x5.toInt ≤ (7 : Int)) (m28 : (8 - x5.toInt) ≤ (N28 : Int)) : Ok (f_isResultValue_28s self28 x1 x2 x3 x4 x5 I A) (fun o => o.2 = (I, A) ∧ ((0 : Int) ≤ o.1.toInt ∧ o.1.toInt ≤ (1 : Int))) := by
  unfold f_isResultValue_28s
  obtain ⟨r1, h_r1, p_r1⟩ := ro (t_resultSize (x0 := x3)  hI hA )
  refine ok_clR h_r1 ?_
  dsimp only at p_r1
  refine ok_if (fun c337 => ?_) (fun c337 => ?_)
  ·
    replace c337 := ti_leP c337 rfl rfl
    unfold f_isResultValue_82
    refine ok_chk (nar_b (by omega) (by omega)) ?_
    exact ok_ret ⟨rfl, (show (0 : Int) ≤ x4.toInt ∧ x4.toInt ≤ (1 : Int) from (by omega))⟩
  ·
    replace c337 := ti_leN c337 rfl rfl
    refine ok_if (fun c338 => ?_) (fun c338 => ?_)
    ·
      replace c338 := ti_eqP c338 rfl (show (0 : Int32).toInt = 0 from rfl)
      unfold f_isResultValue_82
      refine ok_chk (nar_b (by omega) (by omega)) ?_
      exact ok_ret ⟨rfl, (show (0 : Int) ≤ x4.toInt ∧ x4.toInt ≤ (1 : Int) from (by omega))⟩
    ·
      replace c338 := ti_eqN c338 rfl (show (0 : Int32).toInt = 0 from rfl)
      refine ok_bnd (fun v2 e339 => ?_)
      have t_v2 : v2.toInt = 768 * x1.toInt := ti_mul e339 (show (768 : Int32).toInt = 768 from rfl) rfl (by omega) (by omega)
      refine ok_bnd (fun v3 e340 => ?_)
      have t_v3 : v3.toInt = 96 * x2.toInt := ti_mul e340 (show (96 : Int32).toInt = 96 from rfl) rfl (by omega) (by omega)
      refine ok_bnd (fun v4 e341 => ?_)
      have t_v4 : v4.toInt = v2.toInt + v3.toInt := ti_add e341 rfl rfl (by omega) (by omega)
      refine ok_bnd (fun v5 e342 => ?_)
      have t_v5 : v5.toInt = v4.toInt + x5.toInt := ti_add e342 rfl rfl (by omega) (by omega)
      refine ok_chk (ti_in (by omega) (by omega)) ?_
      refine ok_bnd (fun v6 e343 => ?_)
      have b_v6 := tA_22 hA ((v5).toNatClampNeg)
      rw [← e343] at b_v6
      obtain ⟨r7, h_r7, p_r7⟩ := ro (t_resultSign (x0 := x3) (x1 := x5)  hI hA )
      refine ok_clR h_r7 ?_
      dsimp only at p_r7
      refine ok_if (fun c344 => ?_) (fun c344 => ?_)
      ·
        replace c344 := ti_eqP c344 rfl rfl
        exact t_isResultValue_74   hself28 (x1 := x1) (x2 := x2) (x3 := x3) (x5 := x5) (t0 := (1 : Int32)) hI hA r_x1 r_x2 (by omega) (by decide) m28
      ·
        replace c344 := ti_eqN c344 rfl rfl
        exact t_isResultValue_74   hself28 (x1 := x1) (x2 := x2) (x3 := x3) (x5 := x5) (t0 := (0 : Int32)) hI hA r_x1 r_x2 (by omega) (by decide) m28
theorem t_isResultValue_28  {I : Nat → Int32} {A : Nat → Nat → Int32} (hI : TJ I) (hA : TK A) : ∀ (n : Nat) (x1 : Int32) (x2 : Int32) (x3 : Int32) (x4 : Int32) (x5 : Int32),  ((0 : Int) ≤ x1.toInt ∧ x1.toInt ≤ (1 : Int)) → ((0 : Int) ≤ x2.toInt ∧ x2.toInt ≤ (7 : Int)) → ((0 : Int) ≤ x4.toInt ∧ x4.toInt ≤ (1 : Int)) → ((0 : Int) ≤ x5.toInt ∧ x5.toInt ≤ (7 : Int)) → (8 - x5.toInt) < (n : Int) → Ok (f_isResultValue_28  n x1 x2 x3 x4 x5 I A) (fun o => o.2 = (I, A) ∧ ((0 : Int) ≤ o.1.toInt ∧ o.1.toInt ≤ (1 : Int))) := by
  intro n
  induction n with
  | zero => intro x1 x2 x3 x4 x5 g0 g1 g2 g3  hm; exfalso; omega
  | succ n ih =>
    intro x1 x2 x3 x4 x5 g0 g1 g2 g3  hm
    exact t_isResultValue_28s   (N28 := n)  ih hI hA g0 g1 g2 g3  (by omega)
theorem t_isResultValue_23  {I : Nat → Int32} {A : Nat → Nat → Int32} {x1 : Int32} {x2 : Int32} {x3 : Int32} {t0 : Int32} (hI : TJ I) (hA : TK A) (r_x1 : (0 : Int) ≤ x1.toInt ∧ x1.toInt ≤ (1 : Int)) (r_x2 : (0 : Int) ≤ x2.toInt ∧ x2.toInt ≤ (7 : Int)) (r_t0 : (0 : Int) ≤ t0.toInt ∧ t0.toInt ≤ (1 : Int)) : Ok (f_isResultValue_23 x1 x2 x3 t0 I A) (fun o => o.2 = (I, A) ∧ ((0 : Int) ≤ o.1.toInt ∧ o.1.toInt ≤ (1 : Int))) := by
  unfold f_isResultValue_23
  exact t_isResultValue_28    hI hA mFuel x1 x2 x3 t0 (0 : Int32)  r_x1 r_x2 r_t0 (by decide) (by show _ < ((200000 : Nat) : Int); have z0 : (0 : Int32).toInt = 0 := rfl; omega)
theorem t_isResultValue_0  {I : Nat → Int32} {A : Nat → Nat → Int32} {x1 : Int32} {x2 : Int32} {x3 : Int32} (hI : TJ I) (hA : TK A) (r_x1 : (0 : Int) ≤ x1.toInt ∧ x1.toInt ≤ (1 : Int)) (r_x2 : (0 : Int) ≤ x2.toInt ∧ x2.toInt ≤ (7 : Int)) : Ok (f_isResultValue_0 x1 x2 x3 I A) (fun o => o.2 = (I, A) ∧ ((0 : Int) ≤ o.1.toInt ∧ o.1.toInt ≤ (1 : Int))) := by
  unfold f_isResultValue_0
  refine ok_bnd (fun v1 e345 => ?_)
  have t_v1 : v1.toInt = 8 * x1.toInt := ti_mul e345 (show (8 : Int32).toInt = 8 from rfl) rfl (by omega) (by omega)
  refine ok_bnd (fun v2 e346 => ?_)
  have t_v2 : v2.toInt = v1.toInt + x2.toInt := ti_add e346 rfl rfl (by omega) (by omega)
  refine ok_chk (ti_in (by omega) (by omega)) ?_
  refine ok_bnd (fun v3 e347 => ?_)
  have b_v3 := tA_21 hA ((v2).toNatClampNeg)
  rw [← e347] at b_v3
  obtain ⟨r4, h_r4, p_r4⟩ := ro (t_resultSize (x0 := x3)  hI hA )
  refine ok_clR h_r4 ?_
  dsimp only at p_r4
  refine ok_if (fun c348 => ?_) (fun c348 => ?_)
  ·
    replace c348 := ti_eqP c348 rfl rfl
    exact t_isResultValue_23    (x1 := x1) (x2 := x2) (x3 := x3) (t0 := (1 : Int32)) hI hA r_x1 r_x2 (by decide)
  ·
    replace c348 := ti_eqN c348 rfl rfl
    exact t_isResultValue_23    (x1 := x1) (x2 := x2) (x3 := x3) (t0 := (0 : Int32)) hI hA r_x1 r_x2 (by decide)
theorem t_isResultValue  {I : Nat → Int32} {A : Nat → Nat → Int32} {x1 : Int32} {x2 : Int32} {x3 : Int32} (hI : TJ I) (hA : TK A) (r_x1 : (0 : Int) ≤ x1.toInt ∧ x1.toInt ≤ (1 : Int)) (r_x2 : (0 : Int) ≤ x2.toInt ∧ x2.toInt ≤ (7 : Int)) : Ok (f_isResultValue x1 x2 x3 I A) (fun o => o.2 = (I, A) ∧ ((0 : Int) ≤ o.1.toInt ∧ o.1.toInt ≤ (1 : Int))) := t_isResultValue_0  hI hA r_x1 r_x2
