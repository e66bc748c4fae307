section
noncomputable def wI (a b : Int) : Int := (if ((b % 8 - a % 8 = 0 ∨ b / 8 - a / 8 = 0 ∨ b % 8 - a % 8 = b / 8 - a / 8 ∨ b % 8 - a % 8 = a / 8 - b / 8) ∨ ((b % 8 - a % 8 = 1 ∨ b % 8 - a % 8 = -1) ∧ (b / 8 - a / 8 = 2 ∨ b / 8 - a / 8 = -2)) ∨ ((b % 8 - a % 8 = 2 ∨ b % 8 - a % 8 = -2) ∧ (b / 8 - a / 8 = 1 ∨ b / 8 - a / 8 = -1))) then 1 else 0) + (if ((b = a + 8) ∨ (b = a - 8) ∨ (b = a + 16 ∧ a / 8 = 1) ∨ (b = a - 16 ∧ a / 8 = 6) ∨ ((b / 8 = a / 8 + 1 ∨ b / 8 = a / 8 - 1) ∧ (b % 8 - a % 8 = 1 ∨ b % 8 - a % 8 = -1))) ∧ (b < 8 ∨ 55 < b) then 3 else 0)
theorem wI_0 (a b : Int) : 0 ≤ wI a b := by unfold wI; split <;> split <;> decide
theorem wI_1 {a b : Int} (h : pGE a b) : 1 ≤ wI a b := by
  unfold wI
  rw [if_pos (show ((b % 8 - a % 8 = 0 ∨ b / 8 - a / 8 = 0 ∨ b % 8 - a % 8 = b / 8 - a / 8 ∨ b % 8 - a % 8 = a / 8 - b / 8) ∨ ((b % 8 - a % 8 = 1 ∨ b % 8 - a % 8 = -1) ∧ (b / 8 - a / 8 = 2 ∨ b / 8 - a / 8 = -2)) ∨ ((b % 8 - a % 8 = 2 ∨ b % 8 - a % 8 = -2) ∧ (b / 8 - a / 8 = 1 ∨ b / 8 - a / 8 = -1))) from h)]
  split <;> decide
theorem wI_4 {a b : Int} (h : pGE a b) (h2 : pPG a b) (h3 : b < 8 ∨ 55 < b) : 4 ≤ wI a b := by
  unfold wI
  rw [if_pos (show ((b % 8 - a % 8 = 0 ∨ b / 8 - a / 8 = 0 ∨ b % 8 - a % 8 = b / 8 - a / 8 ∨ b % 8 - a % 8 = a / 8 - b / 8) ∨ ((b % 8 - a % 8 = 1 ∨ b % 8 - a % 8 = -1) ∧ (b / 8 - a / 8 = 2 ∨ b / 8 - a / 8 = -2)) ∨ ((b % 8 - a % 8 = 2 ∨ b % 8 - a % 8 = -2) ∧ (b / 8 - a / 8 = 1 ∨ b / 8 - a / 8 = -1))) from h), if_pos (show ((b = a + 8) ∨ (b = a - 8) ∨ (b = a + 16 ∧ a / 8 = 1) ∨ (b = a - 16 ∧ a / 8 = 6) ∨ ((b / 8 = a / 8 + 1 ∨ b / 8 = a / 8 - 1) ∧ (b % 8 - a % 8 = 1 ∨ b % 8 - a % 8 = -1))) ∧ (b < 8 ∨ 55 < b) from ⟨h2, h3⟩)]
  decide
noncomputable def cW (a : Int) : Nat → Int
  | 0 => 0
  | n + 1 => cW a n + wI a n
noncomputable def cF : Nat → Int
  | 0 => 0
  | n + 1 => cF n + cW n 64
noncomputable def cI (a b : Int) : Int := cF a.toNat + cW a b.toNat
theorem cI_00 : cI 0 0 = 0 := rfl
theorem cW_mono (a : Int) (n k : Nat) : cW a n ≤ cW a (n + k) := by
  induction k with
  | zero => exact Int.le_refl _
  | succ k ih =>
    have h1 : cW a (n + (k + 1)) = cW a (n + k) + wI a (n + k : Nat) := rfl
    have h2 := wI_0 a (n + k : Nat)
    omega
theorem cF_mono (n k : Nat) : cF n ≤ cF (n + k) := by
  induction k with
  | zero => exact Int.le_refl _
  | succ k ih =>
    have h1 : cF (n + (k + 1)) = cF (n + k) + cW (n + k : Nat) 64 := rfl
    have h2 := cW_mono (n + k : Nat) 0 64
    have h3 : cW (n + k : Nat) 0 = 0 := rfl
    rw [h3, Nat.zero_add] at h2
    omega
theorem cF_64 : cF 64 ≤ 2048 := by decide +kernel
theorem cI_step {a b : Int} (h1 : 0 ≤ a ∧ a ≤ 63) (h2 : 0 ≤ b ∧ b ≤ 63) : cI a (b + 1) = cI a b + wI a b := by
  unfold cI
  have e : (b + 1).toNat = b.toNat + 1 := by omega
  have h3 : cW a (b.toNat + 1) = cW a b.toNat + wI a (b.toNat : Nat) := rfl
  have h4 : ((b.toNat : Nat) : Int) = b := by omega
  rw [e, h3, h4, Int.add_assoc]
theorem cI_row {a b : Int} (h1 : 0 ≤ a ∧ a ≤ 63) (h2 : 0 ≤ b ∧ b ≤ 64) : cI a b ≤ cI (a + 1) 0 := by
  have e : (a + 1).toNat = a.toNat + 1 := by omega
  have h4 : ((a.toNat : Nat) : Int) = a := by omega
  have h3 : cI (a + 1) 0 = cF a.toNat + cW a 64 := by
    have h5 : cF (a.toNat + 1) = cF a.toNat + cW (a.toNat : Nat) 64 := rfl
    rw [h4] at h5
    show cF (a + 1).toNat + cW (a + 1) 0 = _
    have h6 : cW (a + 1) 0 = 0 := rfl
    rw [e, h5, h6, Int.add_zero]
  rw [h3]
  unfold cI
  have h7 := cW_mono a b.toNat (64 - b.toNat)
  have h8 : b.toNat + (64 - b.toNat) = 64 := by omega
  rw [h8] at h7
  omega
theorem cI_max {a b : Int} (h1 : 0 ≤ a ∧ a ≤ 63) (h2 : 0 ≤ b ∧ b ≤ 64) : cI a b ≤ 2048 := by
  have h3 := cI_row h1 h2
  have h4 : cI (a + 1) 0 = cF (a + 1).toNat := by
    show cF (a + 1).toNat + 0 = _
    rw [Int.add_zero]
  have h5 := cF_mono (a + 1).toNat (64 - (a + 1).toNat)
  have h6 : (a + 1).toNat + (64 - (a + 1).toNat) = 64 := by omega
  rw [h6] at h5
  have h7 := cF_64
  omega
theorem t_findMoves_163  {I : Nat → Int32} {A : Nat → Nat → Int32} {self7 : Int32 → (Nat → Int32) → (Nat → Nat → Int32) → Option (Int32 × MS)} {N7 : Nat} (hself7 : ∀ (x1 : Int32) (I : Nat → Int32) (A : Nat → Nat → Int32), TJ I → TK A → ((0 : Int) ≤ x1.toInt ∧ x1.toInt ≤ (64 : Int)) → ((I 29).toInt ≤ 1999) → ((I 33).toInt ≤ cI x1.toInt 0) → (64 - x1.toInt) < (N7 : Int) → Ok (self7 x1 I A) (fun o => TJ o.2.1 ∧ TK o.2.2 ∧ True)) {x1 : Int32} (hI : TJ I) (hA : TK A) (r_x1 : (0 : Int) ≤ x1.toInt ∧ x1.toInt ≤ (63 : Int)) (q0 : (I 29).toInt ≤ 1999) (q1 : (I 33).toInt ≤ cI (x1.toInt + 1) 0) (m7 : (64 - x1.toInt) ≤ (N7 : Int)) : Ok (f_findMoves_163 self7 x1 I A) (fun o => TJ o.2.1 ∧ TK o.2.2 ∧ True) := by
  unfold f_findMoves_163
  have b_I_29 := tI_29 hI
  have b_I_33 := tI_33 hI
  refine ok_bnd (fun v1 e1 => ?_)
  have t_v1 : v1.toInt = x1.toInt + 1 := ti_add e1 rfl (show (1 : Int32).toInt = 1 from rfl) (by omega) (by omega)
  exact hself7 v1 I A hI hA (by omega) q0 (by rw [t_v1]; exact q1) (by omega)
theorem t_findMoves_157  {I : Nat → Int32} {A : Nat → Nat → Int32} {self7 : Int32 → (Nat → Int32) → (Nat → Nat → Int32) → Option (Int32 × MS)} {N7 : Nat} (hself7 : ∀ (x1 : Int32) (I : Nat → Int32) (A : Nat → Nat → Int32), TJ I → TK A → ((0 : Int) ≤ x1.toInt ∧ x1.toInt ≤ (64 : Int)) → ((I 29).toInt ≤ 1999) → ((I 33).toInt ≤ cI x1.toInt 0) → (64 - x1.toInt) < (N7 : Int) → Ok (self7 x1 I A) (fun o => TJ o.2.1 ∧ TK o.2.2 ∧ True)) {self15 : Int32 → Int32 → (Nat → Int32) → (Nat → Nat → Int32) → Option (Int32 × MS)} {N15 : Nat} (hself15 : ∀ (x1 : Int32) (x2 : Int32) (I : Nat → Int32) (A : Nat → Nat → Int32), TJ I → TK A → ((0 : Int) ≤ x1.toInt ∧ x1.toInt ≤ (63 : Int)) → ((0 : Int) ≤ x2.toInt ∧ x2.toInt ≤ (64 : Int)) → ((I 29).toInt ≤ 1999) → ((I 33).toInt ≤ cI x1.toInt x2.toInt) → ((64 - x1.toInt) ≤ (N7 : Int)) → (64 - x2.toInt) < (N15 : Int) → Ok (self15 x1 x2 I A) (fun o => TJ o.2.1 ∧ TK o.2.2 ∧ True)) {x1 : Int32} {x2 : Int32} (hI : TJ I) (hA : TK A) (r_x1 : (0 : Int) ≤ x1.toInt ∧ x1.toInt ≤ (63 : Int)) (r_x2 : (0 : Int) ≤ x2.toInt ∧ x2.toInt ≤ (63 : Int)) (q0 : (I 29).toInt ≤ 1999) (q1 : (I 33).toInt ≤ cI x1.toInt (x2.toInt + 1)) (m7 : (64 - x1.toInt) ≤ (N7 : Int)) (m15 : (64 - x2.toInt) ≤ (N15 : Int)) : Ok (f_findMoves_157 self7 self15 x1 x2 I A) (fun o => TJ o.2.1 ∧ TK o.2.2 ∧ True) := by
  unfold f_findMoves_157
  have b_I_29 := tI_29 hI
  have b_I_33 := tI_33 hI
  refine ok_bnd (fun v1 e2 => ?_)
  have t_v1 : v1.toInt = x2.toInt + 1 := ti_add e2 rfl (show (1 : Int32).toInt = 1 from rfl) (by omega) (by omega)
  exact hself15 x1 v1 I A hI hA r_x1 (by omega) q0 (by rw [t_v1]; exact q1) m7 (by omega)
theorem t_findMoves_116  {I : Nat → Int32} {A : Nat → Nat → Int32} {self7 : Int32 → (Nat → Int32) → (Nat → Nat → Int32) → Option (Int32 × MS)} {N7 : Nat} (hself7 : ∀ (x1 : Int32) (I : Nat → Int32) (A : Nat → Nat → Int32), TJ I → TK A → ((0 : Int) ≤ x1.toInt ∧ x1.toInt ≤ (64 : Int)) → ((I 29).toInt ≤ 1999) → ((I 33).toInt ≤ cI x1.toInt 0) → (64 - x1.toInt) < (N7 : Int) → Ok (self7 x1 I A) (fun o => TJ o.2.1 ∧ TK o.2.2 ∧ True)) {self15 : Int32 → Int32 → (Nat → Int32) → (Nat → Nat → Int32) → Option (Int32 × MS)} {N15 : Nat} (hself15 : ∀ (x1 : Int32) (x2 : Int32) (I : Nat → Int32) (A : Nat → Nat → Int32), TJ I → TK A → ((0 : Int) ≤ x1.toInt ∧ x1.toInt ≤ (63 : Int)) → ((0 : Int) ≤ x2.toInt ∧ x2.toInt ≤ (64 : Int)) → ((I 29).toInt ≤ 1999) → ((I 33).toInt ≤ cI x1.toInt x2.toInt) → ((64 - x1.toInt) ≤ (N7 : Int)) → (64 - x2.toInt) < (N15 : Int) → Ok (self15 x1 x2 I A) (fun o => TJ o.2.1 ∧ TK o.2.2 ∧ True)) {self100 : Int32 → Int32 → Int32 → Int32 → Int32 → (Nat → Int32) → (Nat → Nat → Int32) → Option (Int32 × MS)} {N100 : Nat} (hself100 : ∀ (x1 : Int32) (x2 : Int32) (x3 : Int32) (x4 : Int32) (x5 : Int32) (I : Nat → Int32) (A : Nat → Nat → Int32), TJ I → TK A → ((0 : Int) ≤ x1.toInt ∧ x1.toInt ≤ (63 : Int)) → ((0 : Int) ≤ x2.toInt ∧ x2.toInt ≤ (63 : Int)) → ((0 : Int) ≤ x3.toInt ∧ x3.toInt ≤ (1 : Int)) → ((0 : Int) ≤ x4.toInt ∧ x4.toInt ≤ (1 : Int)) → ((0 : Int) ≤ x5.toInt ∧ x5.toInt ≤ (6 : Int)) → ((I 29).toInt ≤ 1999) → ((x3.toInt = 1 → 2 ≤ x5.toInt ∧ (I 33).toInt + (6 - x5.toInt) ≤ cI x1.toInt (x2.toInt + 1)) ∧ (x3.toInt = 0 → x5.toInt ≤ 1 ∧ (I 33).toInt + (1 - x5.toInt) ≤ cI x1.toInt (x2.toInt + 1))) → ((64 - x1.toInt) ≤ (N7 : Int)) → ((64 - x2.toInt) ≤ (N15 : Int)) → (7 - x5.toInt) < (N100 : Int) → Ok (self100 x1 x2 x3 x4 x5 I A) (fun o => TJ o.2.1 ∧ TK o.2.2 ∧ True)) {x1 : Int32} {x2 : Int32} {x3 : Int32} {x4 : Int32} {x5 : Int32} {t0 : Int32} {t1 : Int32} (hI : TJ I) (hA : TK A) (r_x1 : (0 : Int) ≤ x1.toInt ∧ x1.toInt ≤ (63 : Int)) (r_x2 : (0 : Int) ≤ x2.toInt ∧ x2.toInt ≤ (63 : Int)) (r_x3 : (0 : Int) ≤ x3.toInt ∧ x3.toInt ≤ (1 : Int)) (r_x4 : (0 : Int) ≤ x4.toInt ∧ x4.toInt ≤ (1 : Int)) (r_x5 : (0 : Int) ≤ x5.toInt ∧ x5.toInt ≤ (6 : Int)) (r_t0 : (0 : Int) ≤ t0.toInt ∧ t0.toInt ≤ (5 : Int)) (r_t1 : (0 : Int) ≤ t1.toInt ∧ t1.toInt ≤ (6 : Int)) (q0 : (I 29).toInt ≤ 1999) (q1 : (x3.toInt = 1 → 2 ≤ x5.toInt ∧ (I 33).toInt + (6 - x5.toInt) ≤ cI x1.toInt (x2.toInt + 1)) ∧ (x3.toInt = 0 → x5.toInt ≤ 1 ∧ (I 33).toInt + (1 - x5.toInt) ≤ cI x1.toInt (x2.toInt + 1))) (q2 : t1.toInt = x5.toInt ∧ (x3.toInt = 1 → t0.toInt = 5) ∧ (x3.toInt = 0 → t0.toInt = 0)) (m7 : (64 - x1.toInt) ≤ (N7 : Int)) (m15 : (64 - x2.toInt) ≤ (N15 : Int)) (m100 : (7 - x5.toInt) ≤ (N100 : Int)) : Ok (f_findMoves_116 self7 self15 self100 x1 x2 x3 x4 x5 t0 t1 I A) (fun o => TJ o.2.1 ∧ TK o.2.2 ∧ True) := by
  unfold f_findMoves_116
  have b_I_29 := tI_29 hI
  have b_I_33 := tI_33 hI
  have hC := cI_max (a := x1.toInt) (b := x2.toInt + 1) r_x1 (by omega)
  refine ok_if (fun c3 => ?_) (fun c3 => ?_)
  ·
    replace c3 := ti_ltP c3 rfl rfl
    exact t_findMoves_157   hself7 hself15 (x1 := x1) (x2 := x2) hI hA r_x1 r_x2 q0 (by omega) m7 m15
  ·
    replace c3 := ti_ltN c3 rfl rfl
    refine ok_bnd (fun v1 e4 => ?_)
    have t_v1 : v1.toInt = 64 * x2.toInt := ti_mul e4 (show (64 : Int32).toInt = 64 from rfl) rfl (by omega) (by omega)
    refine ok_bnd (fun v2 e5 => ?_)
    have t_v2 : v2.toInt = x1.toInt + v1.toInt := ti_add e5 rfl rfl (by omega) (by omega)
    refine ok_bnd (fun v3 e6 => ?_)
    have t_v3 : v3.toInt = 4096 * x5.toInt := ti_mul e6 (show (4096 : Int32).toInt = 4096 from rfl) rfl (by omega) (by omega)
    refine ok_bnd (fun v4 e7 => ?_)
    have t_v4 : v4.toInt = v2.toInt + v3.toInt := ti_add e7 rfl rfl (by omega) (by omega)
    refine ok_chk (ti_in (by omega) (by omega)) ?_
    refine ok_bnd (fun A5 e8 => ?_)
    have hA_A5 : TK A5 := e8.symm ▸ tk_u hA (j := 32) (show (0 : Int) ≤ v4.toInt from (by omega)) (show v4.toInt ≤ (24575 : Int) from (by omega))
    refine ok_bnd (fun v6 e9 => ?_)
    have t_v6 : v6.toInt = (I 33).toInt + 1 := ti_add e9 rfl (show (1 : Int32).toInt = 1 from rfl) (by omega) (by omega)
    refine ok_bnd (fun I7 e10 => ?_)
    have hI_I7 : TJ I7 := e10.symm ▸ tj_u hI (k := 33) (show (0 : Int) ≤ v6.toInt from (by omega)) (show v6.toInt ≤ (2048 : Int) from (by omega))
    have : (I7 29).toInt = (I 29).toInt := by rw [e10]; rfl
    have : (I7 33).toInt = v6.toInt := by rw [e10]; exact rfl
    refine ok_bnd (fun v8 e11 => ?_)
    have t_v8 : v8.toInt = x5.toInt + 1 := ti_add e11 rfl (show (1 : Int32).toInt = 1 from rfl) (by omega) (by omega)
    have b_I7_29 := tI_29 hI_I7
    have b_I7_33 := tI_33 hI_I7
    exact hself100 x1 x2 x3 x4 v8 I7 A5 hI_I7 hA_A5 r_x1 r_x2 r_x3 r_x4 (by omega) (by omega) (by omega) m7 m15 (by omega)
theorem t_findMoves_100s  {I : Nat → Int32} {A : Nat → Nat → Int32} {self7 : Int32 → (Nat → Int32) → (Nat → Nat → Int32) → Option (Int32 × MS)} {N7 : Nat} (hself7 : ∀ (x1 : Int32) (I : Nat → Int32) (A : Nat → Nat → Int32), TJ I → TK A → ((0 : Int) ≤ x1.toInt ∧ x1.toInt ≤ (64 : Int)) → ((I 29).toInt ≤ 1999) → ((I 33).toInt ≤ cI x1.toInt 0) → (64 - x1.toInt) < (N7 : Int) → Ok (self7 x1 I A) (fun o => TJ o.2.1 ∧ TK o.2.2 ∧ True)) {self15 : Int32 → Int32 → (Nat → Int32) → (Nat → Nat → Int32) → Option (Int32 × MS)} {N15 : Nat} (hself15 : ∀ (x1 : Int32) (x2 : Int32) (I : Nat → Int32) (A : Nat → Nat → Int32), TJ I → TK A → ((0 : Int) ≤ x1.toInt ∧ x1.toInt ≤ (63 : Int)) → ((0 : Int) ≤ x2.toInt ∧ x2.toInt ≤ (64 : Int)) → ((I 29).toInt ≤ 1999) → ((I 33).toInt ≤ cI x1.toInt x2.toInt) → ((64 - x1.toInt) ≤ (N7 : Int)) → (64 - x2.toInt) < (N15 : Int) → Ok (self15 x1 x2 I A) (fun o => TJ o.2.1 ∧ TK o.2.2 ∧ True)) {self100 : Int32 → Int32 → Int32 → Int32 → Int32 → (Nat → Int32) → (Nat → Nat → Int32) → Option (Int32 × MS)} {N100 : Nat} (hself100 : ∀ (x1 : Int32) (x2 : Int32) (x3 : Int32) (x4 : Int32) (x5 : Int32) (I : Nat → Int32) (A : Nat → Nat → Int32), TJ I → TK A → ((0 : Int) ≤ x1.toInt ∧ x1.toInt ≤ (63 : Int)) → ((0 : Int) ≤ x2.toInt ∧ x2.toInt ≤ (63 : Int)) → ((0 : Int) ≤ x3.toInt ∧ x3.toInt ≤ (1 : Int)) → ((0 : Int) ≤ x4.toInt ∧ x4.toInt ≤ (1 : Int)) → ((0 : Int) ≤ x5.toInt ∧ x5.toInt ≤ (6 : Int)) → ((I 29).toInt ≤ 1999) → ((x3.toInt = 1 → 2 ≤ x5.toInt ∧ (I 33).toInt + (6 - x5.toInt) ≤ cI x1.toInt (x2.toInt + 1)) ∧ (x3.toInt = 0 → x5.toInt ≤ 1 ∧ (I 33).toInt + (1 - x5.toInt) ≤ cI x1.toInt (x2.toInt + 1))) → ((64 - x1.toInt) ≤ (N7 : Int)) → ((64 - x2.toInt) ≤ (N15 : Int)) → (7 - x5.toInt) < (N100 : Int) → Ok (self100 x1 x2 x3 x4 x5 I A) (fun o => TJ o.2.1 ∧ TK o.2.2 ∧ True)) {x1 : Int32} {x2 : Int32} {x3 : Int32} {x4 : Int32} {x5 : Int32} (hI : TJ I) (hA : TK A) (r_x1 : (0 : Int) ≤ x1.toInt ∧ x1.toInt ≤ (63 : Int)) (r_x2 : (0 : Int) ≤ x2.toInt ∧ x2.toInt ≤ (63 : Int)) (r_x3 : (0 : Int) ≤ x3.toInt ∧ x3.toInt ≤ (1 : Int)) (r_x4 : (0 : Int) ≤ x4.toInt ∧ x4.toInt ≤ (1 : Int)) (r_x5 : (0 : Int) ≤ x5.toInt ∧ x5.toInt ≤ (6 : Int)) (q0 : (I 29).toInt ≤ 1999) (q1 : (x3.toInt = 1 → 2 ≤ x5.toInt ∧ (I 33).toInt + (6 - x5.toInt) ≤ cI x1.toInt (x2.toInt + 1)) ∧ (x3.toInt = 0 → x5.toInt ≤ 1 ∧ (I 33).toInt + (1 - x5.toInt) ≤ cI x1.toInt (x2.toInt + 1))) (m7 : (64 - x1.toInt) ≤ (N7 : Int)) (m15 : (64 - x2.toInt) ≤ (N15 : Int)) (m100 : (7 - x5.toInt) ≤ (N100 : Int)) : Ok (f_findMoves_100s self7 self15 self100 x1 x2 x3 x4 x5 I A) (fun o => TJ o.2.1 ∧ TK o.2.2 ∧ True) := by
  unfold f_findMoves_100s
  have b_I_29 := tI_29 hI
  have b_I_33 := tI_33 hI
  refine ok_if (fun c12 => ?_) (fun c12 => ?_)
  ·
    replace c12 := ti_eqP c12 rfl (show (0 : Int32).toInt = 0 from rfl)
    exact t_findMoves_157   hself7 hself15 (x1 := x1) (x2 := x2) hI hA r_x1 r_x2 q0 (by omega) m7 m15
  ·
    replace c12 := ti_eqN c12 rfl (show (0 : Int32).toInt = 0 from rfl)
    refine ok_if (fun c13 => ?_) (fun c13 => ?_)
    ·
      replace c13 := ti_eqP c13 rfl (show (0 : Int32).toInt = 0 from rfl)
      exact t_findMoves_116   hself7 hself15 hself100 (x1 := x1) (x2 := x2) (x3 := x3) (x4 := x4) (x5 := x5) (t0 := (0 : Int32)) (t1 := x5) hI hA r_x1 r_x2 r_x3 r_x4 r_x5 (by decide) r_x5 q0 q1 (by have z0 : (0 : Int32).toInt = 0 := rfl; omega) m7 m15 m100
    ·
      replace c13 := ti_eqN c13 rfl (show (0 : Int32).toInt = 0 from rfl)
      exact t_findMoves_116   hself7 hself15 hself100 (x1 := x1) (x2 := x2) (x3 := x3) (x4 := x4) (x5 := x5) (t0 := (5 : Int32)) (t1 := x5) hI hA r_x1 r_x2 r_x3 r_x4 r_x5 (by decide) r_x5 q0 q1 (by have z0 : (5 : Int32).toInt = 5 := rfl; omega) m7 m15 m100
theorem t_findMoves_100  {self7 : Int32 → (Nat → Int32) → (Nat → Nat → Int32) → Option (Int32 × MS)} {N7 : Nat} (hself7 : ∀ (x1 : Int32) (I : Nat → Int32) (A : Nat → Nat → Int32), TJ I → TK A → ((0 : Int) ≤ x1.toInt ∧ x1.toInt ≤ (64 : Int)) → ((I 29).toInt ≤ 1999) → ((I 33).toInt ≤ cI x1.toInt 0) → (64 - x1.toInt) < (N7 : Int) → Ok (self7 x1 I A) (fun o => TJ o.2.1 ∧ TK o.2.2 ∧ True)) {self15 : Int32 → Int32 → (Nat → Int32) → (Nat → Nat → Int32) → Option (Int32 × MS)} {N15 : Nat} (hself15 : ∀ (x1 : Int32) (x2 : Int32) (I : Nat → Int32) (A : Nat → Nat → Int32), TJ I → TK A → ((0 : Int) ≤ x1.toInt ∧ x1.toInt ≤ (63 : Int)) → ((0 : Int) ≤ x2.toInt ∧ x2.toInt ≤ (64 : Int)) → ((I 29).toInt ≤ 1999) → ((I 33).toInt ≤ cI x1.toInt x2.toInt) → ((64 - x1.toInt) ≤ (N7 : Int)) → (64 - x2.toInt) < (N15 : Int) → Ok (self15 x1 x2 I A) (fun o => TJ o.2.1 ∧ TK o.2.2 ∧ True)) : ∀ (n : Nat) (x1 : Int32) (x2 : Int32) (x3 : Int32) (x4 : Int32) (x5 : Int32) (I : Nat → Int32) (A : Nat → Nat → Int32), TJ I → TK A → ((0 : Int) ≤ x1.toInt ∧ x1.toInt ≤ (63 : Int)) → ((0 : Int) ≤ x2.toInt ∧ x2.toInt ≤ (63 : Int)) → ((0 : Int) ≤ x3.toInt ∧ x3.toInt ≤ (1 : Int)) → ((0 : Int) ≤ x4.toInt ∧ x4.toInt ≤ (1 : Int)) → ((0 : Int) ≤ x5.toInt ∧ x5.toInt ≤ (6 : Int)) → ((I 29).toInt ≤ 1999) → ((x3.toInt = 1 → 2 ≤ x5.toInt ∧ (I 33).toInt + (6 - x5.toInt) ≤ cI x1.toInt (x2.toInt + 1)) ∧ (x3.toInt = 0 → x5.toInt ≤ 1 ∧ (I 33).toInt + (1 - x5.toInt) ≤ cI x1.toInt (x2.toInt + 1))) → ((64 - x1.toInt) ≤ (N7 : Int)) → ((64 - x2.toInt) ≤ (N15 : Int)) → (7 - x5.toInt) < (n : Int) → Ok (f_findMoves_100 self7 self15 n x1 x2 x3 x4 x5 I A) (fun o => TJ o.2.1 ∧ TK o.2.2 ∧ True) := by
  intro n
  induction n with
  | zero => intro x1 x2 x3 x4 x5 I A hI hA g0 g1 g2 g3 g4 g5 g6 w0 w1 hm; exfalso; omega
  | succ n ih =>
    intro x1 x2 x3 x4 x5 I A hI hA g0 g1 g2 g3 g4 g5 g6 w0 w1 hm
    exact t_findMoves_100s   (N100 := n) hself7 hself15 ih hI hA g0 g1 g2 g3 g4 g5 g6 w0 w1 (by omega)
theorem t_findMoves_76  {I : Nat → Int32} {A : Nat → Nat → Int32} {self7 : Int32 → (Nat → Int32) → (Nat → Nat → Int32) → Option (Int32 × MS)} {N7 : Nat} (hself7 : ∀ (x1 : Int32) (I : Nat → Int32) (A : Nat → Nat → Int32), TJ I → TK A → ((0 : Int) ≤ x1.toInt ∧ x1.toInt ≤ (64 : Int)) → ((I 29).toInt ≤ 1999) → ((I 33).toInt ≤ cI x1.toInt 0) → (64 - x1.toInt) < (N7 : Int) → Ok (self7 x1 I A) (fun o => TJ o.2.1 ∧ TK o.2.2 ∧ True)) {self15 : Int32 → Int32 → (Nat → Int32) → (Nat → Nat → Int32) → Option (Int32 × MS)} {N15 : Nat} (hself15 : ∀ (x1 : Int32) (x2 : Int32) (I : Nat → Int32) (A : Nat → Nat → Int32), TJ I → TK A → ((0 : Int) ≤ x1.toInt ∧ x1.toInt ≤ (63 : Int)) → ((0 : Int) ≤ x2.toInt ∧ x2.toInt ≤ (64 : Int)) → ((I 29).toInt ≤ 1999) → ((I 33).toInt ≤ cI x1.toInt x2.toInt) → ((64 - x1.toInt) ≤ (N7 : Int)) → (64 - x2.toInt) < (N15 : Int) → Ok (self15 x1 x2 I A) (fun o => TJ o.2.1 ∧ TK o.2.2 ∧ True)) {x1 : Int32} {x2 : Int32} {t0 : Int32} (hI : TJ I) (hA : TK A) (r_x1 : (0 : Int) ≤ x1.toInt ∧ x1.toInt ≤ (63 : Int)) (r_x2 : (0 : Int) ≤ x2.toInt ∧ x2.toInt ≤ (63 : Int)) (r_t0 : (0 : Int) ≤ t0.toInt ∧ t0.toInt ≤ (1 : Int)) (q0 : (I 29).toInt ≤ 1999) (q1 : pGE x1.toInt x2.toInt) (q2 : (t0.toInt = 1 → pPG x1.toInt x2.toInt ∧ (x2.toInt < 8 ∨ 55 < x2.toInt))) (q3 : (I 33).toInt ≤ cI x1.toInt x2.toInt) (m7 : (64 - x1.toInt) ≤ (N7 : Int)) (m15 : (64 - x2.toInt) ≤ (N15 : Int)) : Ok (f_findMoves_76 self7 self15 x1 x2 t0 I A) (fun o => TJ o.2.1 ∧ TK o.2.2 ∧ True) := by
  unfold f_findMoves_76
  have b_I_29 := tI_29 hI
  have b_I_33 := tI_33 hI
  have s1 := cI_step r_x1 r_x2
  have s2 := wI_1 q1
  have s3 : t0.toInt = 1 → 4 ≤ wI x1.toInt x2.toInt := fun h => wI_4 q1 (q2 h).1 (q2 h).2
  refine ok_bnd (fun v1 e14 => ?_)
  have t_v1 : v1.toInt = 64 * x2.toInt := ti_mul e14 (show (64 : Int32).toInt = 64 from rfl) rfl (by omega) (by omega)
  refine ok_bnd (fun v2 e15 => ?_)
  have t_v2 : v2.toInt = x1.toInt + v1.toInt := ti_add e15 rfl rfl (by omega) (by omega)
  obtain ⟨r3, h_r3, p_r3⟩ := t_isSafe (x1 := v2) hI hA (by omega) q0
  refine ok_clR h_r3 ?_
  clear h_r3
  have hA_Ac3 := tk_nA hI hA
  have fA_Ac3 : ∀ j, j ≠ 30 → j ≠ 31 → nA I A j = A j := fun j a b => nA_o a b
  generalize nA I A = Ac3 at hA_Ac3 fA_Ac3 ⊢
  refine ok_if (fun c16 => ?_) (fun c16 => ?_)
  ·
    replace c16 := ti_eqP c16 rfl (show (0 : Int32).toInt = 0 from rfl)
    unfold f_findMoves_98
    exact t_findMoves_100   hself7 hself15  mFuel x1 x2 t0 r3 (0 : Int32) I Ac3 hI hA_Ac3 r_x1 r_x2 r_t0 (by omega) (by decide) q0 (by have z0 : (0 : Int32).toInt = 0 := rfl; omega) m7 m15 (by show _ < ((200000 : Nat) : Int); have z0 : (0 : Int32).toInt = 0 := rfl; omega)
  ·
    replace c16 := ti_eqN c16 rfl (show (0 : Int32).toInt = 0 from rfl)
    unfold f_findMoves_98
    exact t_findMoves_100   hself7 hself15  mFuel x1 x2 t0 r3 (2 : Int32) I Ac3 hI hA_Ac3 r_x1 r_x2 r_t0 (by omega) (by decide) q0 (by have z0 : (2 : Int32).toInt = 2 := rfl; omega) m7 m15 (by show _ < ((200000 : Nat) : Int); have z0 : (2 : Int32).toInt = 2 := rfl; omega)
theorem t_findMoves_15s  {I : Nat → Int32} {A : Nat → Nat → Int32} {self7 : Int32 → (Nat → Int32) → (Nat → Nat → Int32) → Option (Int32 × MS)} {N7 : Nat} (hself7 : ∀ (x1 : Int32) (I : Nat → Int32) (A : Nat → Nat → Int32), TJ I → TK A → ((0 : Int) ≤ x1.toInt ∧ x1.toInt ≤ (64 : Int)) → ((I 29).toInt ≤ 1999) → ((I 33).toInt ≤ cI x1.toInt 0) → (64 - x1.toInt) < (N7 : Int) → Ok (self7 x1 I A) (fun o => TJ o.2.1 ∧ TK o.2.2 ∧ True)) {self15 : Int32 → Int32 → (Nat → Int32) → (Nat → Nat → Int32) → Option (Int32 × MS)} {N15 : Nat} (hself15 : ∀ (x1 : Int32) (x2 : Int32) (I : Nat → Int32) (A : Nat → Nat → Int32), TJ I → TK A → ((0 : Int) ≤ x1.toInt ∧ x1.toInt ≤ (63 : Int)) → ((0 : Int) ≤ x2.toInt ∧ x2.toInt ≤ (64 : Int)) → ((I 29).toInt ≤ 1999) → ((I 33).toInt ≤ cI x1.toInt x2.toInt) → ((64 - x1.toInt) ≤ (N7 : Int)) → (64 - x2.toInt) < (N15 : Int) → Ok (self15 x1 x2 I A) (fun o => TJ o.2.1 ∧ TK o.2.2 ∧ True)) {x1 : Int32} {x2 : Int32} (hI : TJ I) (hA : TK A) (r_x1 : (0 : Int) ≤ x1.toInt ∧ x1.toInt ≤ (63 : Int)) (r_x2 : (0 : Int) ≤ x2.toInt ∧ x2.toInt ≤ (64 : Int)) (q0 : (I 29).toInt ≤ 1999) (q1 : (I 33).toInt ≤ cI x1.toInt x2.toInt) (m7 : (64 - x1.toInt) ≤ (N7 : Int)) (m15 : (64 - x2.toInt) ≤ (N15 : Int)) : Ok (f_findMoves_15s self7 self15 x1 x2 I A) (fun o => TJ o.2.1 ∧ TK o.2.2 ∧ True) := by
  unfold f_findMoves_15s
  have b_I_29 := tI_29 hI
  have b_I_33 := tI_33 hI
  have s1 := cI_row (a := x1.toInt) (b := x2.toInt) r_x1 r_x2
  refine ok_if (fun c17 => ?_) (fun c17 => ?_)
  ·
    replace c17 := ti_leP c17 (show (64 : Int32).toInt = 64 from rfl) rfl
    exact t_findMoves_163   hself7 (x1 := x1) hI hA r_x1 q0 (by omega) m7
  ·
    replace c17 := ti_leN c17 (show (64 : Int32).toInt = 64 from rfl) rfl
    refine ok_chk (ti_in (by omega) (by omega)) ?_
    refine ok_bnd (fun v1 e18 => ?_)
    obtain ⟨r2, h_r2, p_r2⟩ := ro (t_sideOf (x0 := v1)  hI hA )
    refine ok_clR h_r2 ?_
    have b_I_25 := tI_25 hI
    refine ok_if (fun c19 => ?_) (fun c19 => ?_)
    ·
      replace c19 := ti_eqP c19 rfl rfl
      obtain ⟨r3, h_r3, p_r3⟩ := ro (t_goes (x1 := x1) (x2 := x2)  hI hA r_x1 (by omega) ⟨rfl, rfl⟩ rfl)
      refine ok_clR h_r3 ?_
      dsimp only at p_r3
      have s2 : x2.toInt ≤ 63 → cI x1.toInt (x2.toInt + 1) = cI x1.toInt x2.toInt + wI x1.toInt x2.toInt := fun h => cI_step r_x1 (by omega)
      have s3 := wI_0 x1.toInt x2.toInt
      refine ok_if (fun c20 => ?_) (fun c20 => ?_)
      ·
        replace c20 := ti_eqP c20 rfl (show (0 : Int32).toInt = 0 from rfl)
        exact t_findMoves_157   hself7 hself15 (x1 := x1) (x2 := x2) hI hA r_x1 (by omega) q0 (by omega) m7 m15
      ·
        replace c20 := ti_eqN c20 rfl (show (0 : Int32).toInt = 0 from rfl)
        refine ok_chk (ti_in (by omega) (by omega)) ?_
        refine ok_bnd (fun v4 e21 => ?_)
        obtain ⟨r5, h_r5, p_r5⟩ := ro (t_kind (x0 := v4)  hI hA )
        refine ok_clR h_r5 ?_
        dsimp only at p_r5
        have k5 : ((A 24 (x1).toNatClampNeg) &&& (7 : Int32)).toInt = r5.toInt := by rw [p_r5.2, e21]
        refine ok_if (fun c22 => ?_) (fun c22 => ?_)
        ·
          replace c22 := ti_eqP c22 rfl (show (1 : Int32).toInt = 1 from rfl)
          refine ok_if (fun c23 => ?_) (fun c23 => ?_)
          ·
            replace c23 := ti_ltP c23 rfl (show (8 : Int32).toInt = 8 from rfl)
            unfold f_findMoves_71
            exact t_findMoves_76   hself7 hself15 (x1 := x1) (x2 := x2) (t0 := (1 : Int32)) hI hA r_x1 (by omega) (by decide) q0 (p_r3.2.1 (by omega)) (fun _ => ⟨p_r3.2.2 (by omega) (by omega), by omega⟩) q1 m7 m15
          ·
            replace c23 := ti_ltN c23 rfl (show (8 : Int32).toInt = 8 from rfl)
            refine ok_if (fun c24 => ?_) (fun c24 => ?_)
            ·
              replace c24 := ti_leP c24 rfl (show (55 : Int32).toInt = 55 from rfl)
              unfold f_findMoves_75
              exact t_findMoves_76   hself7 hself15 (x1 := x1) (x2 := x2) (t0 := (0 : Int32)) hI hA r_x1 (by omega) (by decide) q0 (p_r3.2.1 (by omega)) (fun h => absurd h (by decide)) q1 m7 m15
            ·
              replace c24 := ti_leN c24 rfl (show (55 : Int32).toInt = 55 from rfl)
              unfold f_findMoves_71
              exact t_findMoves_76   hself7 hself15 (x1 := x1) (x2 := x2) (t0 := (1 : Int32)) hI hA r_x1 (by omega) (by decide) q0 (p_r3.2.1 (by omega)) (fun _ => ⟨p_r3.2.2 (by omega) (by omega), by omega⟩) q1 m7 m15
        ·
          replace c22 := ti_eqN c22 rfl (show (1 : Int32).toInt = 1 from rfl)
          unfold f_findMoves_75
          exact t_findMoves_76   hself7 hself15 (x1 := x1) (x2 := x2) (t0 := (0 : Int32)) hI hA r_x1 (by omega) (by decide) q0 (p_r3.2.1 (by omega)) (fun h => absurd h (by decide)) q1 m7 m15
    ·
      replace c19 := ti_eqN c19 rfl rfl
      exact t_findMoves_163   hself7 (x1 := x1) hI hA r_x1 q0 (by omega) m7
theorem t_findMoves_15  {self7 : Int32 → (Nat → Int32) → (Nat → Nat → Int32) → Option (Int32 × MS)} {N7 : Nat} (hself7 : ∀ (x1 : Int32) (I : Nat → Int32) (A : Nat → Nat → Int32), TJ I → TK A → ((0 : Int) ≤ x1.toInt ∧ x1.toInt ≤ (64 : Int)) → ((I 29).toInt ≤ 1999) → ((I 33).toInt ≤ cI x1.toInt 0) → (64 - x1.toInt) < (N7 : Int) → Ok (self7 x1 I A) (fun o => TJ o.2.1 ∧ TK o.2.2 ∧ True)) : ∀ (n : Nat) (x1 : Int32) (x2 : Int32) (I : Nat → Int32) (A : Nat → Nat → Int32), TJ I → TK A → ((0 : Int) ≤ x1.toInt ∧ x1.toInt ≤ (63 : Int)) → ((0 : Int) ≤ x2.toInt ∧ x2.toInt ≤ (64 : Int)) → ((I 29).toInt ≤ 1999) → ((I 33).toInt ≤ cI x1.toInt x2.toInt) → ((64 - x1.toInt) ≤ (N7 : Int)) → (64 - x2.toInt) < (n : Int) → Ok (f_findMoves_15 self7 n x1 x2 I A) (fun o => TJ o.2.1 ∧ TK o.2.2 ∧ True) := by
  intro n
  induction n with
  | zero => intro x1 x2 I A hI hA g0 g1 g2 g3 w0 hm; exfalso; omega
  | succ n ih =>
    intro x1 x2 I A hI hA g0 g1 g2 g3 w0 hm
    exact t_findMoves_15s   (N15 := n) hself7 ih hI hA g0 g1 g2 g3 w0 (by omega)
theorem t_findMoves_7s  {I : Nat → Int32} {A : Nat → Nat → Int32} {self7 : Int32 → (Nat → Int32) → (Nat → Nat → Int32) → Option (Int32 × MS)} {N7 : Nat} (hself7 : ∀ (x1 : Int32) (I : Nat → Int32) (A : Nat → Nat → Int32), TJ I → TK A → ((0 : Int) ≤ x1.toInt ∧ x1.toInt ≤ (64 : Int)) → ((I 29).toInt ≤ 1999) → ((I 33).toInt ≤ cI x1.toInt 0) → (64 - x1.toInt) < (N7 : Int) → Ok (self7 x1 I A) (fun o => TJ o.2.1 ∧ TK o.2.2 ∧ True)) {x1 : Int32} (hI : TJ I) (hA : TK A) (r_x1 : (0 : Int) ≤ x1.toInt ∧ x1.toInt ≤ (64 : Int)) (q0 : (I 29).toInt ≤ 1999) (q1 : (I 33).toInt ≤ cI x1.toInt 0) (m7 : (64 - x1.toInt) ≤ (N7 : Int)) : Ok (f_findMoves_7s self7 x1 I A) (fun o => TJ o.2.1 ∧ TK o.2.2 ∧ True) := by
  unfold f_findMoves_7s
  have b_I_29 := tI_29 hI
  have b_I_33 := tI_33 hI
  refine ok_if (fun c25 => ?_) (fun c25 => ?_)
  ·
    replace c25 := ti_leP c25 (show (64 : Int32).toInt = 64 from rfl) rfl
    exact ok_ret ⟨hI, hA, trivial⟩
  ·
    replace c25 := ti_leN c25 (show (64 : Int32).toInt = 64 from rfl) rfl
    exact t_findMoves_15   hself7  mFuel x1 (0 : Int32) I A hI hA (by omega) (by decide) q0 (by have z0 : (0 : Int32).toInt = 0 := rfl; rw [z0]; omega) m7 (by show _ < ((200000 : Nat) : Int); have z0 : (0 : Int32).toInt = 0 := rfl; omega)
theorem t_findMoves_7   : ∀ (n : Nat) (x1 : Int32) (I : Nat → Int32) (A : Nat → Nat → Int32), TJ I → TK A → ((0 : Int) ≤ x1.toInt ∧ x1.toInt ≤ (64 : Int)) → ((I 29).toInt ≤ 1999) → ((I 33).toInt ≤ cI x1.toInt 0) → (64 - x1.toInt) < (n : Int) → Ok (f_findMoves_7  n x1 I A) (fun o => TJ o.2.1 ∧ TK o.2.2 ∧ True) := by
  intro n
  induction n with
  | zero => intro x1 I A hI hA g0 g1 g2  hm; exfalso; omega
  | succ n ih =>
    intro x1 I A hI hA g0 g1 g2  hm
    exact t_findMoves_7s   (N7 := n)  ih hI hA g0 g1 g2  (by omega)
theorem t_findMoves_0  {I : Nat → Int32} {A : Nat → Nat → Int32} (hI : TJ I) (hA : TK A) (q0 : (I 29).toInt ≤ 1999) : Ok (f_findMoves_0 I A) (fun o => TJ o.2.1 ∧ TK o.2.2 ∧ True) := by
  unfold f_findMoves_0
  have b_I_29 := tI_29 hI
  have b_I_33 := tI_33 hI
  refine ok_bnd (fun I1 e26 => ?_)
  have hI_I1 : TJ I1 := e26.symm ▸ tj_u hI (k := 33) (show (0 : Int) ≤ (0 : Int32).toInt from (by decide)) (show (0 : Int32).toInt ≤ (2048 : Int) from (by decide))
  have : (I1 29).toInt = (I 29).toInt := by rw [e26]; rfl
  have : (I1 33).toInt = 0 := by rw [e26]; exact (show (0 : Int32).toInt = 0 from rfl)
  have b_I1_29 := tI_29 hI_I1
  have b_I1_33 := tI_33 hI_I1
  exact t_findMoves_7     mFuel (0 : Int32) I1 A hI_I1 hA (by decide) (by have z0 : (0 : Int32).toInt = 0 := rfl; omega) (by have z0 : (0 : Int32).toInt = 0 := rfl; rw [z0, cI_00]; omega) (by show _ < ((200000 : Nat) : Int); have z0 : (0 : Int32).toInt = 0 := rfl; omega)
theorem t_findMoves  {I : Nat → Int32} {A : Nat → Nat → Int32}  (hI : TJ I) (hA : TK A) (q0 : (I 29).toInt ≤ 1999) : Ok (f_findMoves  I A) (fun o => TJ o.2.1 ∧ TK o.2.2 ∧ True) := t_findMoves_0  hI hA q0
end
section
noncomputable def KP (A : Nat → Nat → Int32) : Prop := (A 31 4).toInt ≤ 1999
theorem KP_fr {A A' : Nat → Nat → Int32} (e : A' 31 = A 31) (h : KP A) : KP A' := by
  unfold KP; rw [e]; exact h
theorem t_spell_0  {I : Nat → Int32} {A : Nat → Nat → Int32} {x1 : Int32} (hI : TJ I) (hA : TK A) (q0 : (I 36).toInt ≤ 15) : Ok (f_spell_0 x1 I A) (fun o => TJ o.2.1 ∧ TK o.2.2 ∧ ((o.2.1 36).toInt = (I 36).toInt + 1)) := by
  unfold f_spell_0
  have b_I_36 := tI_36 hI
  refine ok_chk (ti_in (by omega) (by omega)) ?_
  refine ok_bnd (fun A1 e1 => ?_)
  have hA_A1 : TK A1 := e1.symm ▸ tk_n hA rfl
  refine ok_bnd (fun v2 e2 => ?_)
  have t_v2 : v2.toInt = (I 36).toInt + 1 := ti_add e2 rfl (show (1 : Int32).toInt = 1 from rfl) (by omega) (by omega)
  refine ok_bnd (fun I3 e3 => ?_)
  have hI_I3 : TJ I3 := e3.symm ▸ tj_u hI (k := 36) (show (0 : Int) ≤ v2.toInt from (by omega)) (show v2.toInt ≤ (16 : Int) from (by omega))
  have : (I3 36).toInt = v2.toInt := by rw [e3]; exact rfl
  exact ok_ret ⟨hI_I3, hA_A1, (by show (I3 36).toInt = (I 36).toInt + 1; have z : (0 : Int32).toInt = 0 := rfl; omega)⟩
theorem t_spell  {I : Nat → Int32} {A : Nat → Nat → Int32} {x1 : Int32} (hI : TJ I) (hA : TK A) (q0 : (I 36).toInt ≤ 15) : Ok (f_spell x1 I A) (fun o => TJ o.2.1 ∧ TK o.2.2 ∧ ((o.2.1 36).toInt = (I 36).toInt + 1)) := t_spell_0  hI hA q0
theorem t_spellSquare_0  {I : Nat → Int32} {A : Nat → Nat → Int32} {x1 : Int32} (hI : TJ I) (hA : TK A) (r_x1 : (0 : Int) ≤ x1.toInt ∧ x1.toInt ≤ (63 : Int)) (q0 : (I 36).toInt ≤ 14) : Ok (f_spellSquare_0 x1 I A) (fun o => TJ o.2.1 ∧ TK o.2.2 ∧ ((o.2.1 36).toInt = (I 36).toInt + 2)) := by
  unfold f_spellSquare_0
  have b_I_36 := tI_36 hI
  refine ok_bnd (fun v1 e4 => ?_)
  have t_v1 : v1.toInt = x1.toInt % 8 := ti_rem e4 rfl (show (8 : Int32).toInt = 8 from rfl) (by omega) (by decide)
  refine ok_bnd (fun v2 e5 => ?_)
  have t_v2 : v2.toInt = 97 + v1.toInt := ti_add e5 (show (97 : Int32).toInt = 97 from rfl) rfl (by omega) (by omega)
  refine ok_bnd (fun v3 e6 => ?_)
  have t_v3 : v3.toInt = v2.toInt := by rw [e6]; exact nar_ci rfl (by omega) (by omega)
  obtain ⟨⟨r4, Ic4, Ac4⟩, h_r4, hI_Ic4, hA_Ac4, p_r4_0⟩ := t_spell (x1 := v3)  hI hA (by omega)
  replace hI_Ic4 : TJ Ic4 := hI_Ic4
  replace hA_Ac4 : TK Ac4 := hA_Ac4
  dsimp only at p_r4_0
  refine ok_clR h_r4 ?_
  refine ok_bnd (fun v5 e7 => ?_)
  have t_v5 : v5.toInt = x1.toInt / 8 := ti_div e7 rfl (show (8 : Int32).toInt = 8 from rfl) (by omega) (by decide)
  refine ok_bnd (fun v6 e8 => ?_)
  have t_v6 : v6.toInt = 49 + v5.toInt := ti_add e8 (show (49 : Int32).toInt = 49 from rfl) rfl (by omega) (by omega)
  refine ok_bnd (fun v7 e9 => ?_)
  have t_v7 : v7.toInt = v6.toInt := by rw [e9]; exact nar_ci rfl (by omega) (by omega)
  have b_Ic4_36 := tI_36 hI_Ic4
  obtain ⟨⟨r8, Ic8, Ac8⟩, h_r8, hI_Ic8, hA_Ac8, p_r8_0⟩ := t_spell (x1 := v7)  hI_Ic4 hA_Ac4 (by omega)
  replace hI_Ic8 : TJ Ic8 := hI_Ic8
  replace hA_Ac8 : TK Ac8 := hA_Ac8
  dsimp only at p_r8_0
  refine ok_clR h_r8 ?_
  exact ok_ret ⟨hI_Ic8, hA_Ac8, (by show (Ic8 36).toInt = (I 36).toInt + 2; have z : (0 : Int32).toInt = 0 := rfl; omega)⟩
theorem t_spellSquare  {I : Nat → Int32} {A : Nat → Nat → Int32} {x1 : Int32} (hI : TJ I) (hA : TK A) (r_x1 : (0 : Int) ≤ x1.toInt ∧ x1.toInt ≤ (63 : Int)) (q0 : (I 36).toInt ≤ 14) : Ok (f_spellSquare x1 I A) (fun o => TJ o.2.1 ∧ TK o.2.2 ∧ ((o.2.1 36).toInt = (I 36).toInt + 2)) := t_spellSquare_0  hI hA r_x1 q0
theorem t_letter_0  {I : Nat → Int32} {A : Nat → Nat → Int32} {x0 : Int32} (hI : TJ I) (hA : TK A) : Ok (f_letter_0 x0 I A) (fun o => o.2 = (I, A) ∧ ((66 : Int) ≤ o.1.toInt ∧ o.1.toInt ≤ (82 : Int))) := by
  unfold f_letter_0
  refine ok_if (fun c10 => ?_) (fun c10 => ?_)
  ·
    replace c10 := ti_eqP c10 rfl (show (2 : Int32).toInt = 2 from rfl)
    unfold f_letter_42
    refine ok_chk (by decide) ?_
    exact ok_ret ⟨rfl, (show (66 : Int) ≤ (78 : Int32).toInt ∧ (78 : Int32).toInt ≤ (82 : Int) from (by decide))⟩
  ·
    replace c10 := ti_eqN c10 rfl (show (2 : Int32).toInt = 2 from rfl)
    refine ok_if (fun c11 => ?_) (fun c11 => ?_)
    ·
      replace c11 := ti_eqP c11 rfl (show (3 : Int32).toInt = 3 from rfl)
      unfold f_letter_42
      refine ok_chk (by decide) ?_
      exact ok_ret ⟨rfl, (show (66 : Int) ≤ (66 : Int32).toInt ∧ (66 : Int32).toInt ≤ (82 : Int) from (by decide))⟩
    ·
      replace c11 := ti_eqN c11 rfl (show (3 : Int32).toInt = 3 from rfl)
      refine ok_if (fun c12 => ?_) (fun c12 => ?_)
      ·
        replace c12 := ti_eqP c12 rfl (show (4 : Int32).toInt = 4 from rfl)
        unfold f_letter_42
        refine ok_chk (by decide) ?_
        exact ok_ret ⟨rfl, (show (66 : Int) ≤ (82 : Int32).toInt ∧ (82 : Int32).toInt ≤ (82 : Int) from (by decide))⟩
      ·
        replace c12 := ti_eqN c12 rfl (show (4 : Int32).toInt = 4 from rfl)
        refine ok_if (fun c13 => ?_) (fun c13 => ?_)
        ·
          replace c13 := ti_eqP c13 rfl (show (5 : Int32).toInt = 5 from rfl)
          unfold f_letter_42
          refine ok_chk (by decide) ?_
          exact ok_ret ⟨rfl, (show (66 : Int) ≤ (81 : Int32).toInt ∧ (81 : Int32).toInt ≤ (82 : Int) from (by decide))⟩
        ·
          replace c13 := ti_eqN c13 rfl (show (5 : Int32).toInt = 5 from rfl)
          unfold f_letter_42
          refine ok_chk (by decide) ?_
          exact ok_ret ⟨rfl, (show (66 : Int) ≤ (75 : Int32).toInt ∧ (75 : Int32).toInt ≤ (82 : Int) from (by decide))⟩
theorem t_letter  {I : Nat → Int32} {A : Nat → Nat → Int32} {x0 : Int32} (hI : TJ I) (hA : TK A) : Ok (f_letter x0 I A) (fun o => o.2 = (I, A) ∧ ((66 : Int) ≤ o.1.toInt ∧ o.1.toInt ≤ (82 : Int))) := t_letter_0  hI hA 
theorem t_isCastling_0  {I : Nat → Int32} {A : Nat → Nat → Int32} {x1 : Int32} (hI : TJ I) (hA : TK A) (r_x1 : (0 : Int) ≤ x1.toInt ∧ x1.toInt ≤ (24575 : Int)) : Ok (f_isCastling_0 x1 I A) (fun o => o.2 = (I, A) ∧ ((0 : Int) ≤ o.1.toInt ∧ o.1.toInt ≤ (1 : Int))) := by
  unfold f_isCastling_0
  refine ok_bnd (fun v1 e14 => ?_)
  have t_v1 : v1.toInt = x1.toInt % 64 := ti_rem e14 rfl (show (64 : Int32).toInt = 64 from rfl) (by omega) (by decide)
  refine ok_bnd (fun v2 e15 => ?_)
  have t_v2 : v2.toInt = x1.toInt / 64 := ti_div e15 rfl (show (64 : Int32).toInt = 64 from rfl) (by omega) (by decide)
  refine ok_bnd (fun v3 e16 => ?_)
  have t_v3 : v3.toInt = v2.toInt % 64 := ti_rem e16 rfl (show (64 : Int32).toInt = 64 from rfl) (by omega) (by decide)
  refine ok_chk (ti_in (by omega) (by omega)) ?_
  refine ok_bnd (fun v4 e17 => ?_)
  obtain ⟨r5, h_r5, p_r5⟩ := ro (t_kind (x0 := v4)  hI hA )
  refine ok_clR h_r5 ?_
  dsimp only at p_r5
  refine ok_if (fun c18 => ?_) (fun c18 => ?_)
  ·
    replace c18 := ti_eqP c18 rfl (show (6 : Int32).toInt = 6 from rfl)
    refine ok_bnd (fun v6 e19 => ?_)
    have t_v6 : v6.toInt = v1.toInt + 2 := ti_add e19 rfl (show (2 : Int32).toInt = 2 from rfl) (by omega) (by omega)
    refine ok_if (fun c20 => ?_) (fun c20 => ?_)
    ·
      replace c20 := ti_eqP c20 rfl rfl
      unfold f_isCastling_41
      unfold f_isCastling_46
      refine ok_chk (by decide) ?_
      exact ok_ret ⟨rfl, (show (0 : Int) ≤ (1 : Int32).toInt ∧ (1 : Int32).toInt ≤ (1 : Int) from (by decide))⟩
    ·
      replace c20 := ti_eqN c20 rfl rfl
      refine ok_bnd (fun v7 e21 => ?_)
      have t_v7 : v7.toInt = v1.toInt - 2 := ti_sub e21 rfl (show (2 : Int32).toInt = 2 from rfl) (by omega) (by omega)
      refine ok_if (fun c22 => ?_) (fun c22 => ?_)
      ·
        replace c22 := ti_eqP c22 rfl rfl
        unfold f_isCastling_41
        unfold f_isCastling_46
        refine ok_chk (by decide) ?_
        exact ok_ret ⟨rfl, (show (0 : Int) ≤ (1 : Int32).toInt ∧ (1 : Int32).toInt ≤ (1 : Int) from (by decide))⟩
      ·
        replace c22 := ti_eqN c22 rfl rfl
        unfold f_isCastling_45
        unfold f_isCastling_46
        refine ok_chk (by decide) ?_
        exact ok_ret ⟨rfl, (show (0 : Int) ≤ (0 : Int32).toInt ∧ (0 : Int32).toInt ≤ (1 : Int) from (by decide))⟩
  ·
    replace c18 := ti_eqN c18 rfl (show (6 : Int32).toInt = 6 from rfl)
    unfold f_isCastling_45
    unfold f_isCastling_46
    refine ok_chk (by decide) ?_
    exact ok_ret ⟨rfl, (show (0 : Int) ≤ (0 : Int32).toInt ∧ (0 : Int32).toInt ≤ (1 : Int) from (by decide))⟩
theorem t_isCastling  {I : Nat → Int32} {A : Nat → Nat → Int32} {x1 : Int32} (hI : TJ I) (hA : TK A) (r_x1 : (0 : Int) ≤ x1.toInt ∧ x1.toInt ≤ (24575 : Int)) : Ok (f_isCastling x1 I A) (fun o => o.2 = (I, A) ∧ ((0 : Int) ≤ o.1.toInt ∧ o.1.toInt ≤ (1 : Int))) := t_isCastling_0  hI hA r_x1
theorem t_spellMove_158  {I : Nat → Int32} {A : Nat → Nat → Int32} {x5 : Int32} {x6 : Int32} (hI : TJ I) (hA : TK A) (r_x5 : (0 : Int) ≤ x5.toInt ∧ x5.toInt ≤ (63 : Int)) (r_x6 : (0 : Int) ≤ x6.toInt ∧ x6.toInt ≤ (5 : Int)) (q0 : (I 36).toInt ≤ 4) : Ok (f_spellMove_158 x5 x6 I A) (fun o => TJ o.2.1 ∧ TK o.2.2 ∧ ((o.2.1 36).toInt ≤ 8)) := by
  unfold f_spellMove_158
  have b_I_36 := tI_36 hI
  obtain ⟨⟨r1, Ic1, Ac1⟩, h_r1, hI_Ic1, hA_Ac1, p_r1_0⟩ := t_spellSquare (x1 := x5)  hI hA r_x5 (by omega)
  replace hI_Ic1 : TJ Ic1 := hI_Ic1
  replace hA_Ac1 : TK Ac1 := hA_Ac1
  dsimp only at p_r1_0
  refine ok_clR h_r1 ?_
  refine ok_if (fun c23 => ?_) (fun c23 => ?_)
  ·
    replace c23 := ti_leP c23 rfl (show (0 : Int32).toInt = 0 from rfl)
    unfold f_spellMove_184
    exact ok_ret ⟨hI_Ic1, hA_Ac1, (by show (Ic1 36).toInt ≤ 8; have z : (0 : Int32).toInt = 0 := rfl; omega)⟩
  ·
    replace c23 := ti_leN c23 rfl (show (0 : Int32).toInt = 0 from rfl)
    have b_Ic1_36 := tI_36 hI_Ic1
    obtain ⟨⟨r2, Ic2, Ac2⟩, h_r2, hI_Ic2, hA_Ac2, p_r2_0⟩ := t_spell (x1 := (61 : Int32))  hI_Ic1 hA_Ac1 (by have z0 : (61 : Int32).toInt = 61 := rfl; omega)
    replace hI_Ic2 : TJ Ic2 := hI_Ic2
    replace hA_Ac2 : TK Ac2 := hA_Ac2
    dsimp only at p_r2_0
    refine ok_clR h_r2 ?_
    obtain ⟨r3, h_r3, p_r3⟩ := ro (t_letter (x0 := x6)  hI_Ic2 hA_Ac2 )
    refine ok_clR h_r3 ?_
    dsimp only at p_r3
    have b_Ic2_36 := tI_36 hI_Ic2
    obtain ⟨⟨r4, Ic4, Ac4⟩, h_r4, hI_Ic4, hA_Ac4, p_r4_0⟩ := t_spell (x1 := r3)  hI_Ic2 hA_Ac2 (by omega)
    replace hI_Ic4 : TJ Ic4 := hI_Ic4
    replace hA_Ac4 : TK Ac4 := hA_Ac4
    dsimp only at p_r4_0
    refine ok_clR h_r4 ?_
    unfold f_spellMove_184
    exact ok_ret ⟨hI_Ic4, hA_Ac4, (by show (Ic4 36).toInt ≤ 8; have z : (0 : Int32).toInt = 0 := rfl; omega)⟩
theorem t_spellMove_148  {I : Nat → Int32} {A : Nat → Nat → Int32} {x3 : Int32} {x5 : Int32} {x6 : Int32} (hI : TJ I) (hA : TK A) (r_x3 : (0 : Int) ≤ x3.toInt ∧ x3.toInt ≤ (1 : Int)) (r_x5 : (0 : Int) ≤ x5.toInt ∧ x5.toInt ≤ (63 : Int)) (r_x6 : (0 : Int) ≤ x6.toInt ∧ x6.toInt ≤ (5 : Int)) (q0 : (I 36).toInt ≤ 3) : Ok (f_spellMove_148 x3 x5 x6 I A) (fun o => TJ o.2.1 ∧ TK o.2.2 ∧ ((o.2.1 36).toInt ≤ 8)) := by
  unfold f_spellMove_148
  have b_I_36 := tI_36 hI
  refine ok_if (fun c24 => ?_) (fun c24 => ?_)
  ·
    replace c24 := ti_eqP c24 rfl (show (0 : Int32).toInt = 0 from rfl)
    exact t_spellMove_158    (x5 := x5) (x6 := x6) hI hA r_x5 r_x6 (by omega)
  ·
    replace c24 := ti_eqN c24 rfl (show (0 : Int32).toInt = 0 from rfl)
    obtain ⟨⟨r1, Ic1, Ac1⟩, h_r1, hI_Ic1, hA_Ac1, p_r1_0⟩ := t_spell (x1 := (120 : Int32))  hI hA (by have z0 : (120 : Int32).toInt = 120 := rfl; omega)
    replace hI_Ic1 : TJ Ic1 := hI_Ic1
    replace hA_Ac1 : TK Ac1 := hA_Ac1
    dsimp only at p_r1_0
    refine ok_clR h_r1 ?_
    have b_Ic1_36 := tI_36 hI_Ic1
    exact t_spellMove_158    (x5 := x5) (x6 := x6) hI_Ic1 hA_Ac1 r_x5 r_x6 (by omega)
theorem t_spellMove_130  {I : Nat → Int32} {A : Nat → Nat → Int32} {x2 : Int32} {x3 : Int32} {x4 : Int32} {x5 : Int32} {x6 : Int32} (hI : TJ I) (hA : TK A) (r_x2 : (0 : Int) ≤ x2.toInt ∧ x2.toInt ≤ (3 : Int)) (r_x3 : (0 : Int) ≤ x3.toInt ∧ x3.toInt ≤ (1 : Int)) (r_x4 : (0 : Int) ≤ x4.toInt ∧ x4.toInt ≤ (63 : Int)) (r_x5 : (0 : Int) ≤ x5.toInt ∧ x5.toInt ≤ (63 : Int)) (r_x6 : (0 : Int) ≤ x6.toInt ∧ x6.toInt ≤ (5 : Int)) (q0 : (I 36).toInt ≤ 2) : Ok (f_spellMove_130 x2 x3 x4 x5 x6 I A) (fun o => TJ o.2.1 ∧ TK o.2.2 ∧ ((o.2.1 36).toInt ≤ 8)) := by
  unfold f_spellMove_130
  have b_I_36 := tI_36 hI
  refine ok_if (fun c25 => ?_) (fun c25 => ?_)
  ·
    replace c25 := ti_leP c25 rfl (show (1 : Int32).toInt = 1 from rfl)
    exact t_spellMove_148    (x3 := x3) (x5 := x5) (x6 := x6) hI hA r_x3 r_x5 r_x6 (by omega)
  ·
    replace c25 := ti_leN c25 rfl (show (1 : Int32).toInt = 1 from rfl)
    refine ok_bnd (fun v1 e26 => ?_)
    have t_v1 : v1.toInt = x4.toInt / 8 := ti_div e26 rfl (show (8 : Int32).toInt = 8 from rfl) (by omega) (by decide)
    refine ok_bnd (fun v2 e27 => ?_)
    have t_v2 : v2.toInt = 49 + v1.toInt := ti_add e27 (show (49 : Int32).toInt = 49 from rfl) rfl (by omega) (by omega)
    refine ok_bnd (fun v3 e28 => ?_)
    have t_v3 : v3.toInt = v2.toInt := by rw [e28]; exact nar_ci rfl (by omega) (by omega)
    obtain ⟨⟨r4, Ic4, Ac4⟩, h_r4, hI_Ic4, hA_Ac4, p_r4_0⟩ := t_spell (x1 := v3)  hI hA (by omega)
    replace hI_Ic4 : TJ Ic4 := hI_Ic4
    replace hA_Ac4 : TK Ac4 := hA_Ac4
    dsimp only at p_r4_0
    refine ok_clR h_r4 ?_
    have b_Ic4_36 := tI_36 hI_Ic4
    exact t_spellMove_148    (x3 := x3) (x5 := x5) (x6 := x6) hI_Ic4 hA_Ac4 r_x3 r_x5 r_x6 (by omega)
theorem t_spellMove_110  {I : Nat → Int32} {A : Nat → Nat → Int32} {x2 : Int32} {x3 : Int32} {x4 : Int32} {x5 : Int32} {x6 : Int32} (hI : TJ I) (hA : TK A) (r_x2 : (0 : Int) ≤ x2.toInt ∧ x2.toInt ≤ (3 : Int)) (r_x3 : (0 : Int) ≤ x3.toInt ∧ x3.toInt ≤ (1 : Int)) (r_x4 : (0 : Int) ≤ x4.toInt ∧ x4.toInt ≤ (63 : Int)) (r_x5 : (0 : Int) ≤ x5.toInt ∧ x5.toInt ≤ (63 : Int)) (r_x6 : (0 : Int) ≤ x6.toInt ∧ x6.toInt ≤ (5 : Int)) (q0 : (I 36).toInt ≤ 1) : Ok (f_spellMove_110 x2 x3 x4 x5 x6 I A) (fun o => TJ o.2.1 ∧ TK o.2.2 ∧ ((o.2.1 36).toInt ≤ 8)) := by
  unfold f_spellMove_110
  have b_I_36 := tI_36 hI
  refine ok_bnd (fun v1 e29 => ?_)
  have t_v1 : v1.toInt = x2.toInt % 2 := ti_rem e29 rfl (show (2 : Int32).toInt = 2 from rfl) (by omega) (by decide)
  refine ok_if (fun c30 => ?_) (fun c30 => ?_)
  ·
    replace c30 := ti_eqP c30 rfl (show (1 : Int32).toInt = 1 from rfl)
    refine ok_bnd (fun v2 e31 => ?_)
    have t_v2 : v2.toInt = x4.toInt % 8 := ti_rem e31 rfl (show (8 : Int32).toInt = 8 from rfl) (by omega) (by decide)
    refine ok_bnd (fun v3 e32 => ?_)
    have t_v3 : v3.toInt = 97 + v2.toInt := ti_add e32 (show (97 : Int32).toInt = 97 from rfl) rfl (by omega) (by omega)
    refine ok_bnd (fun v4 e33 => ?_)
    have t_v4 : v4.toInt = v3.toInt := by rw [e33]; exact nar_ci rfl (by omega) (by omega)
    obtain ⟨⟨r5, Ic5, Ac5⟩, h_r5, hI_Ic5, hA_Ac5, p_r5_0⟩ := t_spell (x1 := v4)  hI hA (by omega)
    replace hI_Ic5 : TJ Ic5 := hI_Ic5
    replace hA_Ac5 : TK Ac5 := hA_Ac5
    dsimp only at p_r5_0
    refine ok_clR h_r5 ?_
    have b_Ic5_36 := tI_36 hI_Ic5
    exact t_spellMove_130    (x2 := x2) (x3 := x3) (x4 := x4) (x5 := x5) (x6 := x6) hI_Ic5 hA_Ac5 r_x2 r_x3 r_x4 r_x5 r_x6 (by omega)
  ·
    replace c30 := ti_eqN c30 rfl (show (1 : Int32).toInt = 1 from rfl)
    exact t_spellMove_130    (x2 := x2) (x3 := x3) (x4 := x4) (x5 := x5) (x6 := x6) hI hA r_x2 r_x3 r_x4 r_x5 r_x6 (by omega)
theorem t_spellMove_52  {I : Nat → Int32} {A : Nat → Nat → Int32} {self38 : Int32 → Int32 → Int32 → (Nat → Int32) → (Nat → Nat → Int32) → Option (Int32 × MS)} {N38 : Nat} (hself38 : ∀ (x4 : Int32) (x5 : Int32) (x7 : Int32) (I : Nat → Int32) (A : Nat → Nat → Int32), TJ I → TK A → ((0 : Int) ≤ x4.toInt ∧ x4.toInt ≤ (63 : Int)) → ((0 : Int) ≤ x5.toInt ∧ x5.toInt ≤ (63 : Int)) → ((0 : Int) ≤ x7.toInt ∧ x7.toInt ≤ (3 : Int)) → ((I 36).toInt ≤ 2 * x7.toInt) → (4 - x7.toInt) < (N38 : Int) → Ok (self38 x4 x5 x7 I A) (fun o => TJ o.2.1 ∧ TK o.2.2 ∧ ((o.2.1 36).toInt ≤ 8))) {x4 : Int32} {x5 : Int32} {x7 : Int32} {t0 : Int32} {t1 : Int32} (hI : TJ I) (hA : TK A) (r_x4 : (0 : Int) ≤ x4.toInt ∧ x4.toInt ≤ (63 : Int)) (r_x5 : (0 : Int) ≤ x5.toInt ∧ x5.toInt ≤ (63 : Int)) (r_x7 : (0 : Int) ≤ x7.toInt ∧ x7.toInt ≤ (3 : Int)) (r_t0 : (2 : Int) ≤ t0.toInt ∧ t0.toInt ≤ (3 : Int)) (q0 : t1.toInt = x7.toInt) (q1 : (I 36).toInt ≤ 2 * x7.toInt) (m38 : (4 - x7.toInt) ≤ (N38 : Int)) : Ok (f_spellMove_52 self38 x4 x5 x7 t0 t1 I A) (fun o => TJ o.2.1 ∧ TK o.2.2 ∧ ((o.2.1 36).toInt ≤ 8)) := by
  unfold f_spellMove_52
  have b_I_36 := tI_36 hI
  refine ok_if (fun c34 => ?_) (fun c34 => ?_)
  ·
    replace c34 := ti_leP c34 rfl rfl
    exact ok_ret ⟨hI, hA, (by show (I 36).toInt ≤ 8; have z : (0 : Int32).toInt = 0 := rfl; omega)⟩
  ·
    replace c34 := ti_leN c34 rfl rfl
    refine ok_if (fun c35 => ?_) (fun c35 => ?_)
    ·
      replace c35 := ti_leP c35 rfl (show (0 : Int32).toInt = 0 from rfl)
      unfold f_spellMove_66
      obtain ⟨⟨r1, Ic1, Ac1⟩, h_r1, hI_Ic1, hA_Ac1, p_r1_0⟩ := t_spell (x1 := (79 : Int32))  hI hA (by have z0 : (79 : Int32).toInt = 79 := rfl; omega)
      replace hI_Ic1 : TJ Ic1 := hI_Ic1
      replace hA_Ac1 : TK Ac1 := hA_Ac1
      dsimp only at p_r1_0
      refine ok_clR h_r1 ?_
      refine ok_bnd (fun v2 e36 => ?_)
      have t_v2 : v2.toInt = x7.toInt + 1 := ti_add e36 rfl (show (1 : Int32).toInt = 1 from rfl) (by omega) (by omega)
      have b_Ic1_36 := tI_36 hI_Ic1
      exact hself38 x4 x5 v2 Ic1 Ac1 hI_Ic1 hA_Ac1 r_x4 r_x5 (by omega) (by omega) (by omega)
    ·
      replace c35 := ti_leN c35 rfl (show (0 : Int32).toInt = 0 from rfl)
      obtain ⟨⟨r1, Ic1, Ac1⟩, h_r1, hI_Ic1, hA_Ac1, p_r1_0⟩ := t_spell (x1 := (45 : Int32))  hI hA (by have z0 : (45 : Int32).toInt = 45 := rfl; omega)
      replace hI_Ic1 : TJ Ic1 := hI_Ic1
      replace hA_Ac1 : TK Ac1 := hA_Ac1
      dsimp only at p_r1_0
      refine ok_clR h_r1 ?_
      unfold f_spellMove_66
      have b_Ic1_36 := tI_36 hI_Ic1
      obtain ⟨⟨r1, Ic1, Ac1⟩, h_r1, hI_Ic1, hA_Ac1, p_r1_0⟩ := t_spell (x1 := (79 : Int32))  hI_Ic1 hA_Ac1 (by have z0 : (79 : Int32).toInt = 79 := rfl; omega)
      replace hI_Ic1 : TJ Ic1 := hI_Ic1
      replace hA_Ac1 : TK Ac1 := hA_Ac1
      dsimp only at p_r1_0
      refine ok_clR h_r1 ?_
      refine ok_bnd (fun v2 e37 => ?_)
      have t_v2 : v2.toInt = x7.toInt + 1 := ti_add e37 rfl (show (1 : Int32).toInt = 1 from rfl) (by omega) (by omega)
      exact hself38 x4 x5 v2 Ic1 Ac1 hI_Ic1 hA_Ac1 r_x4 r_x5 (by omega) (by omega) (by omega)
theorem t_spellMove_38s  {I : Nat → Int32} {A : Nat → Nat → Int32} {self38 : Int32 → Int32 → Int32 → (Nat → Int32) → (Nat → Nat → Int32) → Option (Int32 × MS)} {N38 : Nat} (hself38 : ∀ (x4 : Int32) (x5 : Int32) (x7 : Int32) (I : Nat → Int32) (A : Nat → Nat → Int32), TJ I → TK A → ((0 : Int) ≤ x4.toInt ∧ x4.toInt ≤ (63 : Int)) → ((0 : Int) ≤ x5.toInt ∧ x5.toInt ≤ (63 : Int)) → ((0 : Int) ≤ x7.toInt ∧ x7.toInt ≤ (3 : Int)) → ((I 36).toInt ≤ 2 * x7.toInt) → (4 - x7.toInt) < (N38 : Int) → Ok (self38 x4 x5 x7 I A) (fun o => TJ o.2.1 ∧ TK o.2.2 ∧ ((o.2.1 36).toInt ≤ 8))) {x4 : Int32} {x5 : Int32} {x7 : Int32} (hI : TJ I) (hA : TK A) (r_x4 : (0 : Int) ≤ x4.toInt ∧ x4.toInt ≤ (63 : Int)) (r_x5 : (0 : Int) ≤ x5.toInt ∧ x5.toInt ≤ (63 : Int)) (r_x7 : (0 : Int) ≤ x7.toInt ∧ x7.toInt ≤ (3 : Int)) (q0 : (I 36).toInt ≤ 2 * x7.toInt) (m38 : (4 - x7.toInt) ≤ (N38 : Int)) : Ok (f_spellMove_38s self38 x4 x5 x7 I A) (fun o => TJ o.2.1 ∧ TK o.2.2 ∧ ((o.2.1 36).toInt ≤ 8)) := by
  unfold f_spellMove_38s
  have b_I_36 := tI_36 hI
  refine ok_if (fun c38 => ?_) (fun c38 => ?_)
  ·
    replace c38 := ti_leP c38 rfl rfl
    exact t_spellMove_52   hself38 (x4 := x4) (x5 := x5) (x7 := x7) (t0 := (3 : Int32)) (t1 := x7) hI hA r_x4 r_x5 r_x7 (by decide) (by have z0 : (3 : Int32).toInt = 3 := rfl; omega) q0 m38
  ·
    replace c38 := ti_leN c38 rfl rfl
    exact t_spellMove_52   hself38 (x4 := x4) (x5 := x5) (x7 := x7) (t0 := (2 : Int32)) (t1 := x7) hI hA r_x4 r_x5 r_x7 (by decide) (by have z0 : (2 : Int32).toInt = 2 := rfl; omega) q0 m38
theorem t_spellMove_38   : ∀ (n : Nat) (x4 : Int32) (x5 : Int32) (x7 : Int32) (I : Nat → Int32) (A : Nat → Nat → Int32), TJ I → TK A → ((0 : Int) ≤ x4.toInt ∧ x4.toInt ≤ (63 : Int)) → ((0 : Int) ≤ x5.toInt ∧ x5.toInt ≤ (63 : Int)) → ((0 : Int) ≤ x7.toInt ∧ x7.toInt ≤ (3 : Int)) → ((I 36).toInt ≤ 2 * x7.toInt) → (4 - x7.toInt) < (n : Int) → Ok (f_spellMove_38  n x4 x5 x7 I A) (fun o => TJ o.2.1 ∧ TK o.2.2 ∧ ((o.2.1 36).toInt ≤ 8)) := by
  intro n
  induction n with
  | zero => intro x4 x5 x7 I A hI hA g0 g1 g2 g3  hm; exfalso; omega
  | succ n ih =>
    intro x4 x5 x7 I A hI hA g0 g1 g2 g3  hm
    exact t_spellMove_38s   (N38 := n)  ih hI hA g0 g1 g2 g3  (by omega)
theorem t_spellMove_0  {I : Nat → Int32} {A : Nat → Nat → Int32} {x1 : Int32} {x2 : Int32} {x3 : Int32} (hI : TJ I) (hA : TK A) (r_x1 : (0 : Int) ≤ x1.toInt ∧ x1.toInt ≤ (24575 : Int)) (r_x2 : (0 : Int) ≤ x2.toInt ∧ x2.toInt ≤ (3 : Int)) (r_x3 : (0 : Int) ≤ x3.toInt ∧ x3.toInt ≤ (1 : Int)) : Ok (f_spellMove_0 x1 x2 x3 I A) (fun o => TJ o.2.1 ∧ TK o.2.2 ∧ ((o.2.1 36).toInt ≤ 8)) := by
  unfold f_spellMove_0
  have b_I_36 := tI_36 hI
  refine ok_bnd (fun v1 e39 => ?_)
  have t_v1 : v1.toInt = x1.toInt % 64 := ti_rem e39 rfl (show (64 : Int32).toInt = 64 from rfl) (by omega) (by decide)
  refine ok_bnd (fun v2 e40 => ?_)
  have t_v2 : v2.toInt = x1.toInt / 64 := ti_div e40 rfl (show (64 : Int32).toInt = 64 from rfl) (by omega) (by decide)
  refine ok_bnd (fun v3 e41 => ?_)
  have t_v3 : v3.toInt = v2.toInt % 64 := ti_rem e41 rfl (show (64 : Int32).toInt = 64 from rfl) (by omega) (by decide)
  refine ok_bnd (fun v4 e42 => ?_)
  have t_v4 : v4.toInt = x1.toInt / 4096 := ti_div e42 rfl (show (4096 : Int32).toInt = 4096 from rfl) (by omega) (by decide)
  refine ok_bnd (fun I5 e43 => ?_)
  have hI_I5 : TJ I5 := e43.symm ▸ tj_u hI (k := 36) (show (0 : Int) ≤ (0 : Int32).toInt from (by decide)) (show (0 : Int32).toInt ≤ (16 : Int) from (by decide))
  have : (I5 36).toInt = 0 := by rw [e43]; exact (show (0 : Int32).toInt = 0 from rfl)
  obtain ⟨r6, h_r6, p_r6⟩ := ro (t_isCastling (x1 := x1)  hI_I5 hA r_x1)
  refine ok_clR h_r6 ?_
  dsimp only at p_r6
  refine ok_if (fun c44 => ?_) (fun c44 => ?_)
  ·
    replace c44 := ti_eqP c44 rfl (show (0 : Int32).toInt = 0 from rfl)
    refine ok_chk (ti_in (by omega) (by omega)) ?_
    refine ok_bnd (fun v7 e45 => ?_)
    obtain ⟨r8, h_r8, p_r8⟩ := ro (t_kind (x0 := v7)  hI_I5 hA )
    refine ok_clR h_r8 ?_
    dsimp only at p_r8
    refine ok_if (fun c46 => ?_) (fun c46 => ?_)
    ·
      replace c46 := ti_eqP c46 rfl (show (1 : Int32).toInt = 1 from rfl)
      have b_I5_36 := tI_36 hI_I5
      exact t_spellMove_110    (x2 := x2) (x3 := x3) (x4 := v1) (x5 := v3) (x6 := v4) hI_I5 hA r_x2 r_x3 (by omega) (by omega) (by omega) (by omega)
    ·
      replace c46 := ti_eqN c46 rfl (show (1 : Int32).toInt = 1 from rfl)
      refine ok_chk (ti_in (by omega) (by omega)) ?_
      refine ok_bnd (fun v9 e47 => ?_)
      obtain ⟨r10, h_r10, p_r10⟩ := ro (t_kind (x0 := v9)  hI_I5 hA )
      refine ok_clR h_r10 ?_
      dsimp only at p_r10
      obtain ⟨r11, h_r11, p_r11⟩ := ro (t_letter (x0 := r10)  hI_I5 hA )
      refine ok_clR h_r11 ?_
      dsimp only at p_r11
      have b_I5_36 := tI_36 hI_I5
      obtain ⟨⟨r12, Ic12, Ac12⟩, h_r12, hI_Ic12, hA_Ac12, p_r12_0⟩ := t_spell (x1 := r11)  hI_I5 hA (by omega)
      replace hI_Ic12 : TJ Ic12 := hI_Ic12
      replace hA_Ac12 : TK Ac12 := hA_Ac12
      dsimp only at p_r12_0
      refine ok_clR h_r12 ?_
      have b_Ic12_36 := tI_36 hI_Ic12
      exact t_spellMove_110    (x2 := x2) (x3 := x3) (x4 := v1) (x5 := v3) (x6 := v4) hI_Ic12 hA_Ac12 r_x2 r_x3 (by omega) (by omega) (by omega) (by omega)
  ·
    replace c44 := ti_eqN c44 rfl (show (0 : Int32).toInt = 0 from rfl)
    have b_I5_36 := tI_36 hI_I5
    exact t_spellMove_38     mFuel v1 v3 (0 : Int32) I5 A hI_I5 hA (by omega) (by omega) (by decide) (by have z0 : (0 : Int32).toInt = 0 := rfl; omega) (by show _ < ((200000 : Nat) : Int); have z0 : (0 : Int32).toInt = 0 := rfl; omega)
theorem t_spellMove  {I : Nat → Int32} {A : Nat → Nat → Int32} {x1 : Int32} {x2 : Int32} {x3 : Int32} (hI : TJ I) (hA : TK A) (r_x1 : (0 : Int) ≤ x1.toInt ∧ x1.toInt ≤ (24575 : Int)) (r_x2 : (0 : Int) ≤ x2.toInt ∧ x2.toInt ≤ (3 : Int)) (r_x3 : (0 : Int) ≤ x3.toInt ∧ x3.toInt ≤ (1 : Int)) : Ok (f_spellMove x1 x2 x3 I A) (fun o => TJ o.2.1 ∧ TK o.2.2 ∧ ((o.2.1 36).toInt ≤ 8)) := t_spellMove_0  hI hA r_x1 r_x2 r_x3
theorem t_isSafeOnce_137  {I : Nat → Int32} {A : Nat → Nat → Int32} {x2 : Int32} {x3 : Int32} {x4 : Int32} {x5 : Int32} {x6 : Int32} {x7 : Int32} {x8 : Int32} {t0 : Int32} (hI : TJ I) (hA : TK A) (r_x2 : (0 : Int) ≤ x2.toInt ∧ x2.toInt ≤ (63 : Int)) (r_x3 : (0 : Int) ≤ x3.toInt ∧ x3.toInt ≤ (63 : Int)) (r_x6 : (0 : Int) ≤ x6.toInt ∧ x6.toInt ≤ (63 : Int)) (r_x7 : (0 : Int) ≤ x7.toInt ∧ x7.toInt ≤ (1 : Int)) (r_t0 : (0 : Int) ≤ t0.toInt ∧ t0.toInt ≤ (1 : Int)) : Ok (f_isSafeOnce_137 x2 x3 x4 x5 x6 x7 x8 t0 I A) (fun o => TJ o.2.1 ∧ TK o.2.2 ∧ ((0 : Int) ≤ o.1.toInt ∧ o.1.toInt ≤ (1 : Int))) := by
  unfold f_isSafeOnce_137
  refine ok_chk (ti_in (by omega) (by omega)) ?_
  refine ok_bnd (fun A1 e48 => ?_)
  have hA_A1 : TK A1 := e48.symm ▸ tk_w hA (j := 24) rfl
  refine ok_chk (ti_in (by omega) (by omega)) ?_
  refine ok_bnd (fun A2 e49 => ?_)
  have hA_A2 : TK A2 := e49.symm ▸ tk_w hA_A1 (j := 24) rfl
  refine ok_if (fun c50 => ?_) (fun c50 => ?_)
  ·
    replace c50 := ti_eqP c50 rfl (show (0 : Int32).toInt = 0 from rfl)
    unfold f_isSafeOnce_169
    refine ok_chk (nar_b (by omega) (by omega)) ?_
    exact ok_ret ⟨hI, hA_A2, (show (0 : Int) ≤ t0.toInt ∧ t0.toInt ≤ (1 : Int) from (by omega))⟩
  ·
    replace c50 := ti_eqN c50 rfl (show (0 : Int32).toInt = 0 from rfl)
    refine ok_chk (ti_in (by omega) (by omega)) ?_
    refine ok_bnd (fun A3 e51 => ?_)
    have hA_A3 : TK A3 := e51.symm ▸ tk_w hA_A2 (j := 24) rfl
    unfold f_isSafeOnce_169
    refine ok_chk (nar_b (by omega) (by omega)) ?_
    exact ok_ret ⟨hI, hA_A3, (show (0 : Int) ≤ t0.toInt ∧ t0.toInt ≤ (1 : Int) from (by omega))⟩
theorem t_isSafeOnce_121  {I : Nat → Int32} {A : Nat → Nat → Int32} {x2 : Int32} {x3 : Int32} {x4 : Int32} {x5 : Int32} {x6 : Int32} {x7 : Int32} {x8 : Int32} (hI : TJ I) (hA : TK A) (r_x2 : (0 : Int) ≤ x2.toInt ∧ x2.toInt ≤ (63 : Int)) (r_x3 : (0 : Int) ≤ x3.toInt ∧ x3.toInt ≤ (63 : Int)) (r_x6 : (0 : Int) ≤ x6.toInt ∧ x6.toInt ≤ (63 : Int)) (r_x7 : (0 : Int) ≤ x7.toInt ∧ x7.toInt ≤ (1 : Int)) : Ok (f_isSafeOnce_121 x2 x3 x4 x5 x6 x7 x8 I A) (fun o => TJ o.2.1 ∧ TK o.2.2 ∧ ((0 : Int) ≤ o.1.toInt ∧ o.1.toInt ≤ (1 : Int))) := by
  unfold f_isSafeOnce_121
  have b_I_25 := tI_25 hI
  obtain ⟨r1, h_r1, p_r1⟩ := ro (t_isInCheck (x1 := (I 25))  hI hA (by omega))
  refine ok_clR h_r1 ?_
  dsimp only at p_r1
  refine ok_if (fun c52 => ?_) (fun c52 => ?_)
  ·
    replace c52 := ti_eqP c52 rfl (show (0 : Int32).toInt = 0 from rfl)
    exact t_isSafeOnce_137    (x2 := x2) (x3 := x3) (x4 := x4) (x5 := x5) (x6 := x6) (x7 := x7) (x8 := x8) (t0 := (1 : Int32)) hI hA r_x2 r_x3 r_x6 r_x7 (by decide)
  ·
    replace c52 := ti_eqN c52 rfl (show (0 : Int32).toInt = 0 from rfl)
    exact t_isSafeOnce_137    (x2 := x2) (x3 := x3) (x4 := x4) (x5 := x5) (x6 := x6) (x7 := x7) (x8 := x8) (t0 := (0 : Int32)) hI hA r_x2 r_x3 r_x6 r_x7 (by decide)
theorem t_isSafeOnce_91  {I : Nat → Int32} {A : Nat → Nat → Int32} {x2 : Int32} {x3 : Int32} {x4 : Int32} {x5 : Int32} {x6 : Int32} {x7 : Int32} {t0 : Int32} (hI : TJ I) (hA : TK A) (r_x2 : (0 : Int) ≤ x2.toInt ∧ x2.toInt ≤ (63 : Int)) (r_x3 : (0 : Int) ≤ x3.toInt ∧ x3.toInt ≤ (63 : Int)) (r_x6 : (0 : Int) ≤ x6.toInt ∧ x6.toInt ≤ (63 : Int)) (r_x7 : (0 : Int) ≤ x7.toInt ∧ x7.toInt ≤ (1 : Int)) : Ok (f_isSafeOnce_91 x2 x3 x4 x5 x6 x7 t0 I A) (fun o => TJ o.2.1 ∧ TK o.2.2 ∧ ((0 : Int) ≤ o.1.toInt ∧ o.1.toInt ≤ (1 : Int))) := by
  unfold f_isSafeOnce_91
  refine ok_chk (ti_in (by omega) (by omega)) ?_
  refine ok_bnd (fun A1 e53 => ?_)
  have hA_A1 : TK A1 := e53.symm ▸ tk_w hA (j := 24) rfl
  refine ok_chk (ti_in (by omega) (by omega)) ?_
  refine ok_bnd (fun A2 e54 => ?_)
  have hA_A2 : TK A2 := e54.symm ▸ tk_w hA_A1 (j := 24) rfl
  refine ok_if (fun c55 => ?_) (fun c55 => ?_)
  ·
    replace c55 := ti_eqP c55 rfl (show (0 : Int32).toInt = 0 from rfl)
    exact t_isSafeOnce_121    (x2 := x2) (x3 := x3) (x4 := x4) (x5 := x5) (x6 := x6) (x7 := x7) (x8 := t0) hI hA_A2 r_x2 r_x3 r_x6 r_x7
  ·
    replace c55 := ti_eqN c55 rfl (show (0 : Int32).toInt = 0 from rfl)
    refine ok_chk (ti_in (by omega) (by omega)) ?_
    refine ok_bnd (fun A3 e56 => ?_)
    have hA_A3 : TK A3 := e56.symm ▸ tk_w hA_A2 (j := 24) rfl
    exact t_isSafeOnce_121    (x2 := x2) (x3 := x3) (x4 := x4) (x5 := x5) (x6 := x6) (x7 := x7) (x8 := t0) hI hA_A3 r_x2 r_x3 r_x6 r_x7
theorem t_isSafeOnce_73  {I : Nat → Int32} {A : Nat → Nat → Int32} {x2 : Int32} {x3 : Int32} {x4 : Int32} {x5 : Int32} {x6 : Int32} {t0 : Int32} (hI : TJ I) (hA : TK A) (r_x2 : (0 : Int) ≤ x2.toInt ∧ x2.toInt ≤ (63 : Int)) (r_x3 : (0 : Int) ≤ x3.toInt ∧ x3.toInt ≤ (63 : Int)) (r_x6 : (0 : Int) ≤ x6.toInt ∧ x6.toInt ≤ (63 : Int)) (r_t0 : (0 : Int) ≤ t0.toInt ∧ t0.toInt ≤ (1 : Int)) : Ok (f_isSafeOnce_73 x2 x3 x4 x5 x6 t0 I A) (fun o => TJ o.2.1 ∧ TK o.2.2 ∧ ((0 : Int) ≤ o.1.toInt ∧ o.1.toInt ≤ (1 : Int))) := by
  unfold f_isSafeOnce_73
  refine ok_if (fun c57 => ?_) (fun c57 => ?_)
  ·
    replace c57 := ti_eqP c57 rfl (show (0 : Int32).toInt = 0 from rfl)
    exact t_isSafeOnce_91    (x2 := x2) (x3 := x3) (x4 := x4) (x5 := x5) (x6 := x6) (x7 := t0) (t0 := (0 : Int32)) hI hA r_x2 r_x3 r_x6 r_t0
  ·
    replace c57 := ti_eqN c57 rfl (show (0 : Int32).toInt = 0 from rfl)
    refine ok_chk (ti_in (by omega) (by omega)) ?_
    refine ok_bnd (fun v1 e58 => ?_)
    exact t_isSafeOnce_91    (x2 := x2) (x3 := x3) (x4 := x4) (x5 := x5) (x6 := x6) (x7 := t0) (t0 := v1) hI hA r_x2 r_x3 r_x6 r_t0
theorem t_isSafeOnce_0  {I : Nat → Int32} {A : Nat → Nat → Int32} {x1 : Int32} (hI : TJ I) (hA : TK A) (r_x1 : (0 : Int) ≤ x1.toInt ∧ x1.toInt ≤ (24575 : Int)) : Ok (f_isSafeOnce_0 x1 I A) (fun o => TJ o.2.1 ∧ TK o.2.2 ∧ ((0 : Int) ≤ o.1.toInt ∧ o.1.toInt ≤ (1 : Int))) := by
  unfold f_isSafeOnce_0
  refine ok_bnd (fun v1 e59 => ?_)
  have t_v1 : v1.toInt = x1.toInt % 64 := ti_rem e59 rfl (show (64 : Int32).toInt = 64 from rfl) (by omega) (by decide)
  refine ok_bnd (fun v2 e60 => ?_)
  have t_v2 : v2.toInt = x1.toInt / 64 := ti_div e60 rfl (show (64 : Int32).toInt = 64 from rfl) (by omega) (by decide)
  refine ok_bnd (fun v3 e61 => ?_)
  have t_v3 : v3.toInt = v2.toInt % 64 := ti_rem e61 rfl (show (64 : Int32).toInt = 64 from rfl) (by omega) (by decide)
  refine ok_chk (ti_in (by omega) (by omega)) ?_
  refine ok_bnd (fun v4 e62 => ?_)
  refine ok_chk (ti_in (by omega) (by omega)) ?_
  refine ok_bnd (fun v5 e63 => ?_)
  refine ok_bnd (fun v6 e64 => ?_)
  have t_v6 : v6.toInt = v1.toInt / 8 := ti_div e64 rfl (show (8 : Int32).toInt = 8 from rfl) (by omega) (by decide)
  refine ok_bnd (fun v7 e65 => ?_)
  have t_v7 : v7.toInt = v6.toInt * 8 := ti_mul e65 rfl (show (8 : Int32).toInt = 8 from rfl) (by omega) (by omega)
  refine ok_bnd (fun v8 e66 => ?_)
  have t_v8 : v8.toInt = v3.toInt % 8 := ti_rem e66 rfl (show (8 : Int32).toInt = 8 from rfl) (by omega) (by decide)
  refine ok_bnd (fun v9 e67 => ?_)
  have t_v9 : v9.toInt = v7.toInt + v8.toInt := ti_add e67 rfl rfl (by omega) (by omega)
  obtain ⟨r10, h_r10, p_r10⟩ := ro (t_kind (x0 := v4)  hI hA )
  refine ok_clR h_r10 ?_
  dsimp only at p_r10
  refine ok_if (fun c68 => ?_) (fun c68 => ?_)
  ·
    replace c68 := ti_eqP c68 rfl (show (1 : Int32).toInt = 1 from rfl)
    refine ok_if (fun c69 => ?_) (fun c69 => ?_)
    ·
      replace c69 := ti_eqP c69 rfl (show (0 : Int32).toInt = 0 from rfl)
      refine ok_bnd (fun v11 e70 => ?_)
      have t_v11 : v11.toInt = v1.toInt % 8 := ti_rem e70 rfl (show (8 : Int32).toInt = 8 from rfl) (by omega) (by decide)
      refine ok_bnd (fun v12 e71 => ?_)
      have t_v12 : v12.toInt = v3.toInt % 8 := ti_rem e71 rfl (show (8 : Int32).toInt = 8 from rfl) (by omega) (by decide)
      refine ok_if (fun c72 => ?_) (fun c72 => ?_)
      ·
        replace c72 := ti_eqP c72 rfl rfl
        unfold f_isSafeOnce_72
        exact t_isSafeOnce_73    (x2 := v1) (x3 := v3) (x4 := v4) (x5 := v5) (x6 := v9) (t0 := (0 : Int32)) hI hA (by omega) (by omega) (by omega) (by decide)
      ·
        replace c72 := ti_eqN c72 rfl rfl
        exact t_isSafeOnce_73    (x2 := v1) (x3 := v3) (x4 := v4) (x5 := v5) (x6 := v9) (t0 := (1 : Int32)) hI hA (by omega) (by omega) (by omega) (by decide)
    ·
      replace c69 := ti_eqN c69 rfl (show (0 : Int32).toInt = 0 from rfl)
      unfold f_isSafeOnce_72
      exact t_isSafeOnce_73    (x2 := v1) (x3 := v3) (x4 := v4) (x5 := v5) (x6 := v9) (t0 := (0 : Int32)) hI hA (by omega) (by omega) (by omega) (by decide)
  ·
    replace c68 := ti_eqN c68 rfl (show (1 : Int32).toInt = 1 from rfl)
    unfold f_isSafeOnce_72
    exact t_isSafeOnce_73    (x2 := v1) (x3 := v3) (x4 := v4) (x5 := v5) (x6 := v9) (t0 := (0 : Int32)) hI hA (by omega) (by omega) (by omega) (by decide)
theorem t_isSafeOnce  {I : Nat → Int32} {A : Nat → Nat → Int32} {x1 : Int32} (hI : TJ I) (hA : TK A) (r_x1 : (0 : Int) ≤ x1.toInt ∧ x1.toInt ≤ (24575 : Int)) : Ok (f_isSafeOnce x1 I A) (fun o => TJ o.2.1 ∧ TK o.2.2 ∧ ((0 : Int) ≤ o.1.toInt ∧ o.1.toInt ≤ (1 : Int))) := t_isSafeOnce_0  hI hA r_x1
theorem t_behind_98  {I : Nat → Int32} {A : Nat → Nat → Int32} {x2 : Int32} (hI : TJ I) (hA : TK A) (r_x2 : (0 : Int) ≤ x2.toInt ∧ x2.toInt ≤ (65535 : Int)) (q0 : KP A) : Ok (f_behind_98 x2 I A) (fun o => TJ o.2.1 ∧ TK o.2.2 ∧ ((0 : Int) ≤ o.1.toInt ∧ o.1.toInt ≤ (65535 : Int)) ∧ ((o.2.1 29).toInt ≤ 1999)) := by
  unfold f_behind_98
  refine ok_cl (o := (0, (nB I A, va_up A 24 (A 30)))) rfl ?_
  have hI_Ic1 := tj_nB hI hA
  have hA_Ac1 := tk_bb hA
  have n29_Ic1 : nB I A 29 = A 31 4 := rfl
  generalize nB I A = Ic1 at hI_Ic1 n29_Ic1 ⊢
  have fA_Ac1 : ∀ j, j ≠ 24 → va_up A 24 (A 30) j = A j := fun j a => va_up_ne _ _ a
  generalize va_up A 24 (A 30) = Ac1 at hA_Ac1 fA_Ac1 ⊢
  have k73 : KP Ac1 := KP_fr (fA_Ac1 31 (by decide)) q0
  have n29 : (Ic1 29).toInt ≤ 1999 := by rw [n29_Ic1]; exact q0
  refine ok_chk (nar_c (by omega) (by omega)) ?_
  exact ok_ret ⟨hI_Ic1, hA_Ac1, (show (0 : Int) ≤ x2.toInt ∧ x2.toInt ≤ (65535 : Int) from (by omega)), (by show (Ic1 29).toInt ≤ 1999; omega)⟩
theorem t_behind_92  {I : Nat → Int32} {A : Nat → Nat → Int32} {self27 : Int32 → Int32 → (Nat → Int32) → (Nat → Nat → Int32) → Option (Int32 × MS)} {N27 : Nat} (hself27 : ∀ (x2 : Int32) (x3 : Int32) (I : Nat → Int32) (A : Nat → Nat → Int32), TJ I → TK A → ((0 : Int) ≤ x2.toInt ∧ x2.toInt ≤ (65535 : Int)) → ((0 : Int) ≤ x3.toInt ∧ x3.toInt ≤ (64 : Int)) → (KP A) → (64 - x3.toInt) < (N27 : Int) → Ok (self27 x2 x3 I A) (fun o => TJ o.2.1 ∧ TK o.2.2 ∧ ((0 : Int) ≤ o.1.toInt ∧ o.1.toInt ≤ (65535 : Int)) ∧ ((o.2.1 29).toInt ≤ 1999))) {x2 : Int32} {x3 : Int32} (hI : TJ I) (hA : TK A) (r_x2 : (0 : Int) ≤ x2.toInt ∧ x2.toInt ≤ (65535 : Int)) (r_x3 : (0 : Int) ≤ x3.toInt ∧ x3.toInt ≤ (63 : Int)) (q0 : KP A) (m27 : (64 - x3.toInt) ≤ (N27 : Int)) : Ok (f_behind_92 self27 x2 x3 I A) (fun o => TJ o.2.1 ∧ TK o.2.2 ∧ ((0 : Int) ≤ o.1.toInt ∧ o.1.toInt ≤ (65535 : Int)) ∧ ((o.2.1 29).toInt ≤ 1999)) := by
  unfold f_behind_92
  refine ok_bnd (fun v1 e74 => ?_)
  have t_v1 : v1.toInt = x3.toInt + 1 := ti_add e74 rfl (show (1 : Int32).toInt = 1 from rfl) (by omega) (by omega)
  exact hself27 x2 v1 I A hI hA r_x2 (by omega) q0 (by omega)
theorem t_behind_85  {I : Nat → Int32} {A : Nat → Nat → Int32} {self27 : Int32 → Int32 → (Nat → Int32) → (Nat → Nat → Int32) → Option (Int32 × MS)} {N27 : Nat} (hself27 : ∀ (x2 : Int32) (x3 : Int32) (I : Nat → Int32) (A : Nat → Nat → Int32), TJ I → TK A → ((0 : Int) ≤ x2.toInt ∧ x2.toInt ≤ (65535 : Int)) → ((0 : Int) ≤ x3.toInt ∧ x3.toInt ≤ (64 : Int)) → (KP A) → (64 - x3.toInt) < (N27 : Int) → Ok (self27 x2 x3 I A) (fun o => TJ o.2.1 ∧ TK o.2.2 ∧ ((0 : Int) ≤ o.1.toInt ∧ o.1.toInt ≤ (65535 : Int)) ∧ ((o.2.1 29).toInt ≤ 1999))) {self42 : Int32 → Int32 → Int32 → (Nat → Int32) → (Nat → Nat → Int32) → Option (Int32 × MS)} {N42 : Nat} (hself42 : ∀ (x2 : Int32) (x3 : Int32) (x4 : Int32) (I : Nat → Int32) (A : Nat → Nat → Int32), TJ I → TK A → ((0 : Int) ≤ x2.toInt ∧ x2.toInt ≤ (65535 : Int)) → ((0 : Int) ≤ x3.toInt ∧ x3.toInt ≤ (63 : Int)) → ((0 : Int) ≤ x4.toInt ∧ x4.toInt ≤ (64 : Int)) → (KP A) → ((64 - x3.toInt) ≤ (N27 : Int)) → (64 - x4.toInt) < (N42 : Int) → Ok (self42 x2 x3 x4 I A) (fun o => TJ o.2.1 ∧ TK o.2.2 ∧ ((0 : Int) ≤ o.1.toInt ∧ o.1.toInt ≤ (65535 : Int)) ∧ ((o.2.1 29).toInt ≤ 1999))) {x3 : Int32} {x4 : Int32} {t0 : Int32} (hI : TJ I) (hA : TK A) (r_x3 : (0 : Int) ≤ x3.toInt ∧ x3.toInt ≤ (63 : Int)) (r_x4 : (0 : Int) ≤ x4.toInt ∧ x4.toInt ≤ (63 : Int)) (r_t0 : (0 : Int) ≤ t0.toInt ∧ t0.toInt ≤ (65535 : Int)) (q0 : KP A) (m27 : (64 - x3.toInt) ≤ (N27 : Int)) (m42 : (64 - x4.toInt) ≤ (N42 : Int)) : Ok (f_behind_85 self27 self42 x3 x4 t0 I A) (fun o => TJ o.2.1 ∧ TK o.2.2 ∧ ((0 : Int) ≤ o.1.toInt ∧ o.1.toInt ≤ (65535 : Int)) ∧ ((o.2.1 29).toInt ≤ 1999)) := by
  unfold f_behind_85
  refine ok_bnd (fun v1 e75 => ?_)
  have t_v1 : v1.toInt = x4.toInt + 1 := ti_add e75 rfl (show (1 : Int32).toInt = 1 from rfl) (by omega) (by omega)
  exact hself42 t0 x3 v1 I A hI hA r_t0 r_x3 (by omega) q0 m27 (by omega)
theorem t_behind_42s  {I : Nat → Int32} {A : Nat → Nat → Int32} {self27 : Int32 → Int32 → (Nat → Int32) → (Nat → Nat → Int32) → Option (Int32 × MS)} {N27 : Nat} (hself27 : ∀ (x2 : Int32) (x3 : Int32) (I : Nat → Int32) (A : Nat → Nat → Int32), TJ I → TK A → ((0 : Int) ≤ x2.toInt ∧ x2.toInt ≤ (65535 : Int)) → ((0 : Int) ≤ x3.toInt ∧ x3.toInt ≤ (64 : Int)) → (KP A) → (64 - x3.toInt) < (N27 : Int) → Ok (self27 x2 x3 I A) (fun o => TJ o.2.1 ∧ TK o.2.2 ∧ ((0 : Int) ≤ o.1.toInt ∧ o.1.toInt ≤ (65535 : Int)) ∧ ((o.2.1 29).toInt ≤ 1999))) {self42 : Int32 → Int32 → Int32 → (Nat → Int32) → (Nat → Nat → Int32) → Option (Int32 × MS)} {N42 : Nat} (hself42 : ∀ (x2 : Int32) (x3 : Int32) (x4 : Int32) (I : Nat → Int32) (A : Nat → Nat → Int32), TJ I → TK A → ((0 : Int) ≤ x2.toInt ∧ x2.toInt ≤ (65535 : Int)) → ((0 : Int) ≤ x3.toInt ∧ x3.toInt ≤ (63 : Int)) → ((0 : Int) ≤ x4.toInt ∧ x4.toInt ≤ (64 : Int)) → (KP A) → ((64 - x3.toInt) ≤ (N27 : Int)) → (64 - x4.toInt) < (N42 : Int) → Ok (self42 x2 x3 x4 I A) (fun o => TJ o.2.1 ∧ TK o.2.2 ∧ ((0 : Int) ≤ o.1.toInt ∧ o.1.toInt ≤ (65535 : Int)) ∧ ((o.2.1 29).toInt ≤ 1999))) {x2 : Int32} {x3 : Int32} {x4 : Int32} (hI : TJ I) (hA : TK A) (r_x2 : (0 : Int) ≤ x2.toInt ∧ x2.toInt ≤ (65535 : Int)) (r_x3 : (0 : Int) ≤ x3.toInt ∧ x3.toInt ≤ (63 : Int)) (r_x4 : (0 : Int) ≤ x4.toInt ∧ x4.toInt ≤ (64 : Int)) (q0 : KP A) (m27 : (64 - x3.toInt) ≤ (N27 : Int)) (m42 : (64 - x4.toInt) ≤ (N42 : Int)) : Ok (f_behind_42s self27 self42 x2 x3 x4 I A) (fun o => TJ o.2.1 ∧ TK o.2.2 ∧ ((0 : Int) ≤ o.1.toInt ∧ o.1.toInt ≤ (65535 : Int)) ∧ ((o.2.1 29).toInt ≤ 1999)) := by
  unfold f_behind_42s
  refine ok_if (fun c76 => ?_) (fun c76 => ?_)
  ·
    replace c76 := ti_leP c76 (show (64 : Int32).toInt = 64 from rfl) rfl
    exact t_behind_92   hself27 (x2 := x2) (x3 := x3) hI hA r_x2 r_x3 q0 m27
  ·
    replace c76 := ti_leN c76 (show (64 : Int32).toInt = 64 from rfl) rfl
    refine ok_if (fun c77 => ?_) (fun c77 => ?_)
    ·
      replace c77 := ti_eqP c77 rfl (show (35 : Int32).toInt = 35 from rfl)
      obtain ⟨r1, h_r1, p_r1⟩ := ro (t_goes (x1 := x3) (x2 := x4)  hI hA r_x3 (by omega) ⟨rfl, rfl⟩ rfl)
      refine ok_clR h_r1 ?_
      dsimp only at p_r1
      refine ok_if (fun c78 => ?_) (fun c78 => ?_)
      ·
        replace c78 := ti_eqP c78 rfl (show (0 : Int32).toInt = 0 from rfl)
        unfold f_behind_84
        exact t_behind_85   hself27 hself42 (x3 := x3) (x4 := x4) (t0 := x2) hI hA r_x3 (by omega) r_x2 q0 m27 m42
      ·
        replace c78 := ti_eqN c78 rfl (show (0 : Int32).toInt = 0 from rfl)
        refine ok_bnd (fun v2 e79 => ?_)
        have t_v2 : v2.toInt = 64 * x4.toInt := ti_mul e79 (show (64 : Int32).toInt = 64 from rfl) rfl (by omega) (by omega)
        refine ok_bnd (fun v3 e80 => ?_)
        have t_v3 : v3.toInt = x3.toInt + v2.toInt := ti_add e80 rfl rfl (by omega) (by omega)
        obtain ⟨⟨r4, Ic4, Ac4⟩, h_r4, hI_Ic4, hA_Ac4, p_r4⟩ := t_isSafeOnce (x1 := v3)  hI hA (by omega)
        replace hI_Ic4 : TJ Ic4 := hI_Ic4
        replace hA_Ac4 : TK Ac4 := hA_Ac4
        dsimp only at p_r4
        refine ok_clR h_r4 ?_
        have f_r4 := fw_isSafeOnce h_r4
        have k81 : KP Ac4 := KP_fr (f_r4.2 31 (by decide)) q0
        refine ok_if (fun c82 => ?_) (fun c82 => ?_)
        ·
          replace c82 := ti_eqP c82 rfl (show (0 : Int32).toInt = 0 from rfl)
          unfold f_behind_84
          exact t_behind_85   hself27 hself42 (x3 := x3) (x4 := x4) (t0 := x2) hI_Ic4 hA_Ac4 r_x3 (by omega) r_x2 k81 m27 m42
        ·
          replace c82 := ti_eqN c82 rfl (show (0 : Int32).toInt = 0 from rfl)
          exact t_behind_85   hself27 hself42 (x3 := x3) (x4 := x4) (t0 := (43 : Int32)) hI_Ic4 hA_Ac4 r_x3 (by omega) (by decide) k81 m27 m42
    ·
      replace c77 := ti_eqN c77 rfl (show (35 : Int32).toInt = 35 from rfl)
      exact t_behind_92   hself27 (x2 := x2) (x3 := x3) hI hA r_x2 r_x3 q0 m27
theorem t_behind_42  {self27 : Int32 → Int32 → (Nat → Int32) → (Nat → Nat → Int32) → Option (Int32 × MS)} {N27 : Nat} (hself27 : ∀ (x2 : Int32) (x3 : Int32) (I : Nat → Int32) (A : Nat → Nat → Int32), TJ I → TK A → ((0 : Int) ≤ x2.toInt ∧ x2.toInt ≤ (65535 : Int)) → ((0 : Int) ≤ x3.toInt ∧ x3.toInt ≤ (64 : Int)) → (KP A) → (64 - x3.toInt) < (N27 : Int) → Ok (self27 x2 x3 I A) (fun o => TJ o.2.1 ∧ TK o.2.2 ∧ ((0 : Int) ≤ o.1.toInt ∧ o.1.toInt ≤ (65535 : Int)) ∧ ((o.2.1 29).toInt ≤ 1999))) : ∀ (n : Nat) (x2 : Int32) (x3 : Int32) (x4 : Int32) (I : Nat → Int32) (A : Nat → Nat → Int32), TJ I → TK A → ((0 : Int) ≤ x2.toInt ∧ x2.toInt ≤ (65535 : Int)) → ((0 : Int) ≤ x3.toInt ∧ x3.toInt ≤ (63 : Int)) → ((0 : Int) ≤ x4.toInt ∧ x4.toInt ≤ (64 : Int)) → (KP A) → ((64 - x3.toInt) ≤ (N27 : Int)) → (64 - x4.toInt) < (n : Int) → Ok (f_behind_42 self27 n x2 x3 x4 I A) (fun o => TJ o.2.1 ∧ TK o.2.2 ∧ ((0 : Int) ≤ o.1.toInt ∧ o.1.toInt ≤ (65535 : Int)) ∧ ((o.2.1 29).toInt ≤ 1999)) := by
  intro n
  induction n with
  | zero => intro x2 x3 x4 I A hI hA g0 g1 g2 g3 w0 hm; exfalso; omega
  | succ n ih =>
    intro x2 x3 x4 I A hI hA g0 g1 g2 g3 w0 hm
    exact t_behind_42s   (N42 := n) hself27 ih hI hA g0 g1 g2 g3 w0 (by omega)
theorem t_behind_27s  {I : Nat → Int32} {A : Nat → Nat → Int32} {self27 : Int32 → Int32 → (Nat → Int32) → (Nat → Nat → Int32) → Option (Int32 × MS)} {N27 : Nat} (hself27 : ∀ (x2 : Int32) (x3 : Int32) (I : Nat → Int32) (A : Nat → Nat → Int32), TJ I → TK A → ((0 : Int) ≤ x2.toInt ∧ x2.toInt ≤ (65535 : Int)) → ((0 : Int) ≤ x3.toInt ∧ x3.toInt ≤ (64 : Int)) → (KP A) → (64 - x3.toInt) < (N27 : Int) → Ok (self27 x2 x3 I A) (fun o => TJ o.2.1 ∧ TK o.2.2 ∧ ((0 : Int) ≤ o.1.toInt ∧ o.1.toInt ≤ (65535 : Int)) ∧ ((o.2.1 29).toInt ≤ 1999))) {x2 : Int32} {x3 : Int32} (hI : TJ I) (hA : TK A) (r_x2 : (0 : Int) ≤ x2.toInt ∧ x2.toInt ≤ (65535 : Int)) (r_x3 : (0 : Int) ≤ x3.toInt ∧ x3.toInt ≤ (64 : Int)) (q0 : KP A) (m27 : (64 - x3.toInt) ≤ (N27 : Int)) : Ok (f_behind_27s self27 x2 x3 I A) (fun o => TJ o.2.1 ∧ TK o.2.2 ∧ ((0 : Int) ≤ o.1.toInt ∧ o.1.toInt ≤ (65535 : Int)) ∧ ((o.2.1 29).toInt ≤ 1999)) := by
  unfold f_behind_27s
  refine ok_if (fun c83 => ?_) (fun c83 => ?_)
  ·
    replace c83 := ti_leP c83 (show (64 : Int32).toInt = 64 from rfl) rfl
    exact t_behind_98    (x2 := x2) hI hA r_x2 q0
  ·
    replace c83 := ti_leN c83 (show (64 : Int32).toInt = 64 from rfl) rfl
    refine ok_if (fun c84 => ?_) (fun c84 => ?_)
    ·
      replace c84 := ti_eqP c84 rfl (show (35 : Int32).toInt = 35 from rfl)
      exact t_behind_42   hself27  mFuel x2 x3 (0 : Int32) I A hI hA r_x2 (by omega) (by decide) q0 m27 (by show _ < ((200000 : Nat) : Int); have z0 : (0 : Int32).toInt = 0 := rfl; omega)
    ·
      replace c84 := ti_eqN c84 rfl (show (35 : Int32).toInt = 35 from rfl)
      exact t_behind_98    (x2 := x2) hI hA r_x2 q0
theorem t_behind_27   : ∀ (n : Nat) (x2 : Int32) (x3 : Int32) (I : Nat → Int32) (A : Nat → Nat → Int32), TJ I → TK A → ((0 : Int) ≤ x2.toInt ∧ x2.toInt ≤ (65535 : Int)) → ((0 : Int) ≤ x3.toInt ∧ x3.toInt ≤ (64 : Int)) → (KP A) → (64 - x3.toInt) < (n : Int) → Ok (f_behind_27  n x2 x3 I A) (fun o => TJ o.2.1 ∧ TK o.2.2 ∧ ((0 : Int) ≤ o.1.toInt ∧ o.1.toInt ≤ (65535 : Int)) ∧ ((o.2.1 29).toInt ≤ 1999)) := by
  intro n
  induction n with
  | zero => intro x2 x3 I A hI hA g0 g1 g2  hm; exfalso; omega
  | succ n ih =>
    intro x2 x3 I A hI hA g0 g1 g2  hm
    exact t_behind_27s   (N27 := n)  ih hI hA g0 g1 g2  (by omega)
theorem t_behind_0  {I : Nat → Int32} {A : Nat → Nat → Int32} {x1 : Int32} (hI : TJ I) (hA : TK A) (r_x1 : (0 : Int) ≤ x1.toInt ∧ x1.toInt ≤ (24575 : Int)) (q0 : (I 29).toInt ≤ 1999) : Ok (f_behind_0 x1 I A) (fun o => TJ o.2.1 ∧ TK o.2.2 ∧ ((0 : Int) ≤ o.1.toInt ∧ o.1.toInt ≤ (65535 : Int)) ∧ ((o.2.1 29).toInt ≤ 1999)) := by
  unfold f_behind_0
  refine ok_cl (o := (0, (I, nA I A))) rfl ?_
  have hA_Ac1 := tk_nA hI hA
  have fA_Ac1 : ∀ j, j ≠ 30 → j ≠ 31 → nA I A j = A j := fun j a b => nA_o a b
  have n4_Ac1 : nA I A 31 4 = I 29 := rfl
  generalize nA I A = Ac1 at hA_Ac1 fA_Ac1 n4_Ac1 ⊢
  have kp1 : KP Ac1 := by show (Ac1 31 4).toInt ≤ 1999; rw [n4_Ac1]; exact q0
  have b_I_29 := tI_29 hI
  obtain ⟨⟨r2, Ic2, Ac2⟩, h_r2, hI_Ic2, hA_Ac2, p_r2_0⟩ := t_make (x1 := x1)  hI hA_Ac1 r_x1 (⟨Int.le_refl _, q0⟩ : (I 29).toInt ≤ (I 29).toInt ∧ (I 29).toInt ≤ 1999)
  replace hI_Ic2 : TJ Ic2 := hI_Ic2
  replace hA_Ac2 : TK Ac2 := hA_Ac2
  dsimp only at p_r2_0
  refine ok_clR h_r2 ?_
  have f_r2 := fw_make h_r2
  have k85 : KP Ac2 := KP_fr (f_r2.2 31 (by decide)) kp1
  have b_Ic2_25 := tI_25 hI_Ic2
  obtain ⟨r3, h_r3, p_r3⟩ := ro (t_isInCheck (x1 := (Ic2 25))  hI_Ic2 hA_Ac2 (by omega))
  refine ok_clR h_r3 ?_
  dsimp only at p_r3
  refine ok_if (fun c86 => ?_) (fun c86 => ?_)
  ·
    replace c86 := ti_eqP c86 rfl (show (0 : Int32).toInt = 0 from rfl)
    exact t_behind_98    (x2 := (0 : Int32)) hI_Ic2 hA_Ac2 (by decide) k85
  ·
    replace c86 := ti_eqN c86 rfl (show (0 : Int32).toInt = 0 from rfl)
    exact t_behind_27     mFuel (35 : Int32) (0 : Int32) Ic2 Ac2 hI_Ic2 hA_Ac2 (by decide) (by decide) k85 (by show _ < ((200000 : Nat) : Int); have z0 : (35 : Int32).toInt = 35 := rfl; have z1 : (0 : Int32).toInt = 0 := rfl; omega)
theorem t_behind  {I : Nat → Int32} {A : Nat → Nat → Int32} {x1 : Int32} (hI : TJ I) (hA : TK A) (r_x1 : (0 : Int) ≤ x1.toInt ∧ x1.toInt ≤ (24575 : Int)) (q0 : (I 29).toInt ≤ 1999) : Ok (f_behind x1 I A) (fun o => TJ o.2.1 ∧ TK o.2.2 ∧ ((0 : Int) ≤ o.1.toInt ∧ o.1.toInt ≤ (65535 : Int)) ∧ ((o.2.1 29).toInt ≤ 1999)) := t_behind_0  hI hA r_x1 q0
theorem t_apartOf_135  {I : Nat → Int32} {A : Nat → Nat → Int32} {self46 : Int32 → Int32 → Int32 → Int32 → Int32 → Int32 → Int32 → (Nat → Int32) → (Nat → Nat → Int32) → Option (Int32 × MS)} {N46 : Nat} (hself46 : ∀ (x1 : Int32) (x2 : Int32) (x3 : Int32) (x4 : Int32) (x5 : Int32) (x6 : Int32) (x7 : Int32),  ((0 : Int) ≤ x1.toInt ∧ x1.toInt ≤ (24575 : Int)) → ((0 : Int) ≤ x2.toInt ∧ x2.toInt ≤ (63 : Int)) → ((0 : Int) ≤ x3.toInt ∧ x3.toInt ≤ (7 : Int)) → ((0 : Int) ≤ x4.toInt ∧ x4.toInt ≤ (1 : Int)) → ((0 : Int) ≤ x5.toInt ∧ x5.toInt ≤ (1 : Int)) → ((0 : Int) ≤ x6.toInt ∧ x6.toInt ≤ (1 : Int)) → ((0 : Int) ≤ x7.toInt ∧ x7.toInt ≤ (2048 : Int)) → (2049 - x7.toInt) < (N46 : Int) → Ok (self46 x1 x2 x3 x4 x5 x6 x7 I A) (fun o => o.2 = (I, A) ∧ ((0 : Int) ≤ o.1.toInt ∧ o.1.toInt ≤ (3 : Int)))) {x1 : Int32} {x2 : Int32} {x3 : Int32} {x4 : Int32} {x6 : Int32} {x7 : Int32} {x8 : Int32} {t0 : Int32} (hI : TJ I) (hA : TK A) (r_x1 : (0 : Int) ≤ x1.toInt ∧ x1.toInt ≤ (24575 : Int)) (r_x2 : (0 : Int) ≤ x2.toInt ∧ x2.toInt ≤ (63 : Int)) (r_x3 : (0 : Int) ≤ x3.toInt ∧ x3.toInt ≤ (7 : Int)) (r_x4 : (0 : Int) ≤ x4.toInt ∧ x4.toInt ≤ (1 : Int)) (r_x6 : (0 : Int) ≤ x6.toInt ∧ x6.toInt ≤ (1 : Int)) (r_x7 : (0 : Int) ≤ x7.toInt ∧ x7.toInt ≤ (2047 : Int)) (r_x8 : (0 : Int) ≤ x8.toInt ∧ x8.toInt ≤ (63 : Int)) (r_t0 : (0 : Int) ≤ t0.toInt ∧ t0.toInt ≤ (1 : Int)) (m46 : (2049 - x7.toInt) ≤ (N46 : Int)) : Ok (f_apartOf_135 self46 x1 x2 x3 x4 x6 x7 x8 t0 I A) (fun o => o.2 = (I, A) ∧ ((0 : Int) ≤ o.1.toInt ∧ o.1.toInt ≤ (3 : Int))) := by
  unfold f_apartOf_135
  refine ok_if (fun c87 => ?_) (fun c87 => ?_)
  ·
    replace c87 := ti_eqP c87 rfl (show (0 : Int32).toInt = 0 from rfl)
    refine ok_bnd (fun v1 e88 => ?_)
    have t_v1 : v1.toInt = x8.toInt / 8 := ti_div e88 rfl (show (8 : Int32).toInt = 8 from rfl) (by omega) (by decide)
    refine ok_bnd (fun v2 e89 => ?_)
    have t_v2 : v2.toInt = x2.toInt / 8 := ti_div e89 rfl (show (8 : Int32).toInt = 8 from rfl) (by omega) (by decide)
    refine ok_if (fun c90 => ?_) (fun c90 => ?_)
    ·
      replace c90 := ti_eqP c90 rfl rfl
      unfold f_apartOf_154
      unfold f_apartOf_159
      unfold f_apartOf_161
      refine ok_bnd (fun v1 e91 => ?_)
      have t_v1 : v1.toInt = x7.toInt + 1 := ti_add e91 rfl (show (1 : Int32).toInt = 1 from rfl) (by omega) (by omega)
      exact hself46 x1 x2 x3 x4 t0 (1 : Int32) v1 r_x1 r_x2 r_x3 r_x4 r_t0 (by decide) (by omega) (by omega)
    ·
      replace c90 := ti_eqN c90 rfl rfl
      unfold f_apartOf_159
      unfold f_apartOf_161
      refine ok_bnd (fun v1 e92 => ?_)
      have t_v1 : v1.toInt = x7.toInt + 1 := ti_add e92 rfl (show (1 : Int32).toInt = 1 from rfl) (by omega) (by omega)
      exact hself46 x1 x2 x3 x4 t0 (0 : Int32) v1 r_x1 r_x2 r_x3 r_x4 r_t0 (by decide) (by omega) (by omega)
  ·
    replace c87 := ti_eqN c87 rfl (show (0 : Int32).toInt = 0 from rfl)
    unfold f_apartOf_154
    unfold f_apartOf_159
    unfold f_apartOf_161
    refine ok_bnd (fun v1 e93 => ?_)
    have t_v1 : v1.toInt = x7.toInt + 1 := ti_add e93 rfl (show (1 : Int32).toInt = 1 from rfl) (by omega) (by omega)
    exact hself46 x1 x2 x3 x4 t0 (1 : Int32) v1 r_x1 r_x2 r_x3 r_x4 r_t0 (by decide) (by omega) (by omega)
theorem t_apartOf_46s  {I : Nat → Int32} {A : Nat → Nat → Int32} {self46 : Int32 → Int32 → Int32 → Int32 → Int32 → Int32 → Int32 → (Nat → Int32) → (Nat → Nat → Int32) → Option (Int32 × MS)} {N46 : Nat} (hself46 : ∀ (x1 : Int32) (x2 : Int32) (x3 : Int32) (x4 : Int32) (x5 : Int32) (x6 : Int32) (x7 : Int32),  ((0 : Int) ≤ x1.toInt ∧ x1.toInt ≤ (24575 : Int)) → ((0 : Int) ≤ x2.toInt ∧ x2.toInt ≤ (63 : Int)) → ((0 : Int) ≤ x3.toInt ∧ x3.toInt ≤ (7 : Int)) → ((0 : Int) ≤ x4.toInt ∧ x4.toInt ≤ (1 : Int)) → ((0 : Int) ≤ x5.toInt ∧ x5.toInt ≤ (1 : Int)) → ((0 : Int) ≤ x6.toInt ∧ x6.toInt ≤ (1 : Int)) → ((0 : Int) ≤ x7.toInt ∧ x7.toInt ≤ (2048 : Int)) → (2049 - x7.toInt) < (N46 : Int) → Ok (self46 x1 x2 x3 x4 x5 x6 x7 I A) (fun o => o.2 = (I, A) ∧ ((0 : Int) ≤ o.1.toInt ∧ o.1.toInt ≤ (3 : Int)))) {x1 : Int32} {x2 : Int32} {x3 : Int32} {x4 : Int32} {x5 : Int32} {x6 : Int32} {x7 : Int32} (hI : TJ I) (hA : TK A) (r_x1 : (0 : Int) ≤ x1.toInt ∧ x1.toInt ≤ (24575 : Int)) (r_x2 : (0 : Int) ≤ x2.toInt ∧ x2.toInt ≤ (63 : Int)) (r_x3 : (0 : Int) ≤ x3.toInt ∧ x3.toInt ≤ (7 : Int)) (r_x4 : (0 : Int) ≤ x4.toInt ∧ x4.toInt ≤ (1 : Int)) (r_x5 : (0 : Int) ≤ x5.toInt ∧ x5.toInt ≤ (1 : Int)) (r_x6 : (0 : Int) ≤ x6.toInt ∧ x6.toInt ≤ (1 : Int)) (r_x7 : (0 : Int) ≤ x7.toInt ∧ x7.toInt ≤ (2048 : Int)) (m46 : (2049 - x7.toInt) ≤ (N46 : Int)) : Ok (f_apartOf_46s self46 x1 x2 x3 x4 x5 x6 x7 I A) (fun o => o.2 = (I, A) ∧ ((0 : Int) ≤ o.1.toInt ∧ o.1.toInt ≤ (3 : Int))) := by
  unfold f_apartOf_46s
  have b_I_33 := tI_33 hI
  refine ok_if (fun c94 => ?_) (fun c94 => ?_)
  ·
    replace c94 := ti_leP c94 rfl rfl
    refine ok_if (fun c95 => ?_) (fun c95 => ?_)
    ·
      replace c95 := ti_eqP c95 rfl (show (0 : Int32).toInt = 0 from rfl)
      unfold f_apartOf_195
      exact ok_ret ⟨rfl, (show (0 : Int) ≤ (0 : Int32).toInt ∧ (0 : Int32).toInt ≤ (3 : Int) from (by decide))⟩
    ·
      replace c95 := ti_eqN c95 rfl (show (0 : Int32).toInt = 0 from rfl)
      refine ok_if (fun c96 => ?_) (fun c96 => ?_)
      ·
        replace c96 := ti_eqP c96 rfl (show (0 : Int32).toInt = 0 from rfl)
        unfold f_apartOf_195
        exact ok_ret ⟨rfl, (show (0 : Int) ≤ (1 : Int32).toInt ∧ (1 : Int32).toInt ≤ (3 : Int) from (by decide))⟩
      ·
        replace c96 := ti_eqN c96 rfl (show (0 : Int32).toInt = 0 from rfl)
        refine ok_if (fun c97 => ?_) (fun c97 => ?_)
        ·
          replace c97 := ti_eqP c97 rfl (show (0 : Int32).toInt = 0 from rfl)
          unfold f_apartOf_195
          exact ok_ret ⟨rfl, (show (0 : Int) ≤ (2 : Int32).toInt ∧ (2 : Int32).toInt ≤ (3 : Int) from (by decide))⟩
        ·
          replace c97 := ti_eqN c97 rfl (show (0 : Int32).toInt = 0 from rfl)
          unfold f_apartOf_195
          exact ok_ret ⟨rfl, (show (0 : Int) ≤ (3 : Int32).toInt ∧ (3 : Int32).toInt ≤ (3 : Int) from (by decide))⟩
  ·
    replace c94 := ti_leN c94 rfl rfl
    refine ok_chk (ti_in (by omega) (by omega)) ?_
    refine ok_bnd (fun v1 e98 => ?_)
    have b_v1 := tA_32 hA ((x7).toNatClampNeg)
    rw [← e98] at b_v1
    refine ok_bnd (fun v2 e99 => ?_)
    have t_v2 : v2.toInt = v1.toInt % 64 := ti_rem e99 rfl (show (64 : Int32).toInt = 64 from rfl) (by omega) (by decide)
    refine ok_if (fun c100 => ?_) (fun c100 => ?_)
    ·
      replace c100 := ti_eqP c100 rfl rfl
      unfold f_apartOf_161
      refine ok_bnd (fun v1 e101 => ?_)
      have t_v1 : v1.toInt = x7.toInt + 1 := ti_add e101 rfl (show (1 : Int32).toInt = 1 from rfl) (by omega) (by omega)
      exact hself46 x1 x2 x3 x4 x5 x6 v1 r_x1 r_x2 r_x3 r_x4 r_x5 r_x6 (by omega) (by omega)
    ·
      replace c100 := ti_eqN c100 rfl rfl
      refine ok_chk (ti_in (by omega) (by omega)) ?_
      refine ok_bnd (fun v3 e102 => ?_)
      have b_v3 := tA_32 hA ((x7).toNatClampNeg)
      rw [← e102] at b_v3
      refine ok_bnd (fun v4 e103 => ?_)
      have t_v4 : v4.toInt = v3.toInt / 64 := ti_div e103 rfl (show (64 : Int32).toInt = 64 from rfl) (by omega) (by decide)
      refine ok_bnd (fun v5 e104 => ?_)
      have t_v5 : v5.toInt = v4.toInt % 64 := ti_rem e104 rfl (show (64 : Int32).toInt = 64 from rfl) (by omega) (by decide)
      refine ok_bnd (fun v6 e105 => ?_)
      have t_v6 : v6.toInt = x1.toInt / 64 := ti_div e105 rfl (show (64 : Int32).toInt = 64 from rfl) (by omega) (by decide)
      refine ok_bnd (fun v7 e106 => ?_)
      have t_v7 : v7.toInt = v6.toInt % 64 := ti_rem e106 rfl (show (64 : Int32).toInt = 64 from rfl) (by omega) (by decide)
      refine ok_if (fun c107 => ?_) (fun c107 => ?_)
      ·
        replace c107 := ti_eqP c107 rfl rfl
        refine ok_chk (ti_in (by omega) (by omega)) ?_
        refine ok_bnd (fun v8 e108 => ?_)
        obtain ⟨r9, h_r9, p_r9⟩ := ro (t_kind (x0 := v8)  hI hA )
        refine ok_clR h_r9 ?_
        dsimp only at p_r9
        refine ok_if (fun c109 => ?_) (fun c109 => ?_)
        ·
          replace c109 := ti_eqP c109 rfl rfl
          refine ok_if (fun c110 => ?_) (fun c110 => ?_)
          ·
            replace c110 := ti_eqP c110 rfl (show (0 : Int32).toInt = 0 from rfl)
            refine ok_bnd (fun v10 e111 => ?_)
            have t_v10 : v10.toInt = v2.toInt % 8 := ti_rem e111 rfl (show (8 : Int32).toInt = 8 from rfl) (by omega) (by decide)
            refine ok_bnd (fun v11 e112 => ?_)
            have t_v11 : v11.toInt = x2.toInt % 8 := ti_rem e112 rfl (show (8 : Int32).toInt = 8 from rfl) (by omega) (by decide)
            refine ok_if (fun c113 => ?_) (fun c113 => ?_)
            ·
              replace c113 := ti_eqP c113 rfl rfl
              unfold f_apartOf_130
              exact t_apartOf_135   hself46 (x1 := x1) (x2 := x2) (x3 := x3) (x4 := (1 : Int32)) (x6 := x6) (x7 := x7) (x8 := v2) (t0 := (1 : Int32)) hI hA r_x1 r_x2 r_x3 (by decide) r_x6 (by omega) (by omega) (by decide) m46
            ·
              replace c113 := ti_eqN c113 rfl rfl
              exact t_apartOf_135   hself46 (x1 := x1) (x2 := x2) (x3 := x3) (x4 := (1 : Int32)) (x6 := x6) (x7 := x7) (x8 := v2) (t0 := (0 : Int32)) hI hA r_x1 r_x2 r_x3 (by decide) r_x6 (by omega) (by omega) (by decide) m46
          ·
            replace c110 := ti_eqN c110 rfl (show (0 : Int32).toInt = 0 from rfl)
            unfold f_apartOf_130
            exact t_apartOf_135   hself46 (x1 := x1) (x2 := x2) (x3 := x3) (x4 := (1 : Int32)) (x6 := x6) (x7 := x7) (x8 := v2) (t0 := (1 : Int32)) hI hA r_x1 r_x2 r_x3 (by decide) r_x6 (by omega) (by omega) (by decide) m46
        ·
          replace c109 := ti_eqN c109 rfl rfl
          unfold f_apartOf_161
          refine ok_bnd (fun v1 e114 => ?_)
          have t_v1 : v1.toInt = x7.toInt + 1 := ti_add e114 rfl (show (1 : Int32).toInt = 1 from rfl) (by omega) (by omega)
          exact hself46 x1 x2 x3 x4 x5 x6 v1 r_x1 r_x2 r_x3 r_x4 r_x5 r_x6 (by omega) (by omega)
      ·
        replace c107 := ti_eqN c107 rfl rfl
        unfold f_apartOf_161
        refine ok_bnd (fun v1 e115 => ?_)
        have t_v1 : v1.toInt = x7.toInt + 1 := ti_add e115 rfl (show (1 : Int32).toInt = 1 from rfl) (by omega) (by omega)
        exact hself46 x1 x2 x3 x4 x5 x6 v1 r_x1 r_x2 r_x3 r_x4 r_x5 r_x6 (by omega) (by omega)
theorem t_apartOf_46  {I : Nat → Int32} {A : Nat → Nat → Int32} (hI : TJ I) (hA : TK A) : ∀ (n : Nat) (x1 : Int32) (x2 : Int32) (x3 : Int32) (x4 : Int32) (x5 : Int32) (x6 : Int32) (x7 : Int32),  ((0 : Int) ≤ x1.toInt ∧ x1.toInt ≤ (24575 : Int)) → ((0 : Int) ≤ x2.toInt ∧ x2.toInt ≤ (63 : Int)) → ((0 : Int) ≤ x3.toInt ∧ x3.toInt ≤ (7 : Int)) → ((0 : Int) ≤ x4.toInt ∧ x4.toInt ≤ (1 : Int)) → ((0 : Int) ≤ x5.toInt ∧ x5.toInt ≤ (1 : Int)) → ((0 : Int) ≤ x6.toInt ∧ x6.toInt ≤ (1 : Int)) → ((0 : Int) ≤ x7.toInt ∧ x7.toInt ≤ (2048 : Int)) → (2049 - x7.toInt) < (n : Int) → Ok (f_apartOf_46  n x1 x2 x3 x4 x5 x6 x7 I A) (fun o => o.2 = (I, A) ∧ ((0 : Int) ≤ o.1.toInt ∧ o.1.toInt ≤ (3 : Int))) := by
  intro n
  induction n with
  | zero => intro x1 x2 x3 x4 x5 x6 x7 g0 g1 g2 g3 g4 g5 g6  hm; exfalso; omega
  | succ n ih =>
    intro x1 x2 x3 x4 x5 x6 x7 g0 g1 g2 g3 g4 g5 g6  hm
    exact t_apartOf_46s   (N46 := n)  ih hI hA g0 g1 g2 g3 g4 g5 g6  (by omega)
theorem t_apartOf_0  {I : Nat → Int32} {A : Nat → Nat → Int32} {x1 : Int32} (hI : TJ I) (hA : TK A) (r_x1 : (0 : Int) ≤ x1.toInt ∧ x1.toInt ≤ (24575 : Int)) : Ok (f_apartOf_0 x1 I A) (fun o => o.2 = (I, A) ∧ ((0 : Int) ≤ o.1.toInt ∧ o.1.toInt ≤ (3 : Int))) := by
  unfold f_apartOf_0
  refine ok_bnd (fun v1 e116 => ?_)
  have t_v1 : v1.toInt = x1.toInt % 64 := ti_rem e116 rfl (show (64 : Int32).toInt = 64 from rfl) (by omega) (by decide)
  refine ok_chk (ti_in (by omega) (by omega)) ?_
  refine ok_bnd (fun v2 e117 => ?_)
  obtain ⟨r3, h_r3, p_r3⟩ := ro (t_kind (x0 := v2)  hI hA )
  refine ok_clR h_r3 ?_
  dsimp only at p_r3
  refine ok_if (fun c118 => ?_) (fun c118 => ?_)
  ·
    replace c118 := ti_eqP c118 rfl (show (1 : Int32).toInt = 1 from rfl)
    obtain ⟨r4, h_r4, p_r4⟩ := ro (t_isTaking (x1 := x1)  hI hA r_x1)
    refine ok_clR h_r4 ?_
    dsimp only at p_r4
    refine ok_if (fun c119 => ?_) (fun c119 => ?_)
    ·
      replace c119 := ti_eqP c119 rfl (show (0 : Int32).toInt = 0 from rfl)
      unfold f_apartOf_33
      exact ok_ret ⟨rfl, (show (0 : Int) ≤ (0 : Int32).toInt ∧ (0 : Int32).toInt ≤ (3 : Int) from (by decide))⟩
    ·
      replace c119 := ti_eqN c119 rfl (show (0 : Int32).toInt = 0 from rfl)
      unfold f_apartOf_33
      exact ok_ret ⟨rfl, (show (0 : Int) ≤ (1 : Int32).toInt ∧ (1 : Int32).toInt ≤ (3 : Int) from (by decide))⟩
  ·
    replace c118 := ti_eqN c118 rfl (show (1 : Int32).toInt = 1 from rfl)
    exact t_apartOf_46    hI hA mFuel x1 v1 r3 (0 : Int32) (0 : Int32) (0 : Int32) (0 : Int32)  r_x1 (by omega) (by omega) (by decide) (by decide) (by decide) (by decide) (by show _ < ((200000 : Nat) : Int); have z0 : (0 : Int32).toInt = 0 := rfl; have z1 : (0 : Int32).toInt = 0 := rfl; have z2 : (0 : Int32).toInt = 0 := rfl; have z3 : (0 : Int32).toInt = 0 := rfl; omega)
theorem t_apartOf  {I : Nat → Int32} {A : Nat → Nat → Int32} {x1 : Int32} (hI : TJ I) (hA : TK A) (r_x1 : (0 : Int) ≤ x1.toInt ∧ x1.toInt ≤ (24575 : Int)) : Ok (f_apartOf x1 I A) (fun o => o.2 = (I, A) ∧ ((0 : Int) ≤ o.1.toInt ∧ o.1.toInt ≤ (3 : Int))) := t_apartOf_0  hI hA r_x1
theorem t_spellWhole_0  {I : Nat → Int32} {A : Nat → Nat → Int32} {x1 : Int32} (hI : TJ I) (hA : TK A) (r_x1 : (0 : Int) ≤ x1.toInt ∧ x1.toInt ≤ (24575 : Int)) (q0 : (I 29).toInt ≤ 1999) : Ok (f_spellWhole_0 x1 I A) (fun o => TJ o.2.1 ∧ TK o.2.2 ∧ ((o.2.1 36).toInt ≤ 9) ∧ ((o.2.1 29).toInt ≤ 1999)) := by
  unfold f_spellWhole_0
  have b_I_36 := tI_36 hI
  have b_I_29 := tI_29 hI
  obtain ⟨r1, h_r1, p_r1⟩ := ro (t_apartOf (x1 := x1)  hI hA r_x1)
  refine ok_clR h_r1 ?_
  dsimp only at p_r1
  obtain ⟨r2, h_r2, p_r2⟩ := ro (t_isTaking (x1 := x1)  hI hA r_x1)
  refine ok_clR h_r2 ?_
  dsimp only at p_r2
  obtain ⟨⟨r3, Ic3, Ac3⟩, h_r3, hI_Ic3, hA_Ac3, p_r3_0⟩ := t_spellMove (x1 := x1) (x2 := r1) (x3 := r2)  hI hA r_x1 (by omega) (by omega)
  replace hI_Ic3 : TJ Ic3 := hI_Ic3
  replace hA_Ac3 : TK Ac3 := hA_Ac3
  dsimp only at p_r3_0
  refine ok_clR h_r3 ?_
  have f_r3 := fw_spellMove h_r3
  have : (Ic3 29).toInt = (I 29).toInt := congrArg Int32.toInt (f_r3.1 29 (by decide))
  have b_Ic3_29 := tI_29 hI_Ic3
  obtain ⟨⟨r4, Ic4, Ac4⟩, h_r4, hI_Ic4, hA_Ac4, p_r4, p_r4_0⟩ := t_behind (x1 := x1)  hI_Ic3 hA_Ac3 r_x1 (by omega)
  replace hI_Ic4 : TJ Ic4 := hI_Ic4
  replace hA_Ac4 : TK Ac4 := hA_Ac4
  dsimp only at p_r4 p_r4_0
  refine ok_clR h_r4 ?_
  have f_r4 := fw_behind h_r4
  have : (Ic4 36).toInt = (Ic3 36).toInt := congrArg Int32.toInt (f_r4.1 36 (by decide))
  refine ok_if (fun c120 => ?_) (fun c120 => ?_)
  ·
    replace c120 := ti_eqP c120 rfl (show (0 : Int32).toInt = 0 from rfl)
    unfold f_spellWhole_30
    exact ok_ret ⟨hI_Ic4, hA_Ac4, (by show (Ic4 36).toInt ≤ 9; have z : (0 : Int32).toInt = 0 := rfl; omega), (by show (Ic4 29).toInt ≤ 1999; have z : (0 : Int32).toInt = 0 := rfl; omega)⟩
  ·
    replace c120 := ti_eqN c120 rfl (show (0 : Int32).toInt = 0 from rfl)
    have b_Ic4_36 := tI_36 hI_Ic4
    obtain ⟨⟨r5, Ic5, Ac5⟩, h_r5, hI_Ic5, hA_Ac5, p_r5_0⟩ := t_spell (x1 := r4)  hI_Ic4 hA_Ac4 (by omega)
    replace hI_Ic5 : TJ Ic5 := hI_Ic5
    replace hA_Ac5 : TK Ac5 := hA_Ac5
    dsimp only at p_r5_0
    refine ok_clR h_r5 ?_
    have f_r5 := fw_spell h_r5
    have : (Ic5 29).toInt = (Ic4 29).toInt := congrArg Int32.toInt (f_r5.1 29 (by decide))
    unfold f_spellWhole_30
    exact ok_ret ⟨hI_Ic5, hA_Ac5, (by show (Ic5 36).toInt ≤ 9; have z : (0 : Int32).toInt = 0 := rfl; omega), (by show (Ic5 29).toInt ≤ 1999; have z : (0 : Int32).toInt = 0 := rfl; omega)⟩
theorem t_spellWhole  {I : Nat → Int32} {A : Nat → Nat → Int32} {x1 : Int32} (hI : TJ I) (hA : TK A) (r_x1 : (0 : Int) ≤ x1.toInt ∧ x1.toInt ≤ (24575 : Int)) (q0 : (I 29).toInt ≤ 1999) : Ok (f_spellWhole x1 I A) (fun o => TJ o.2.1 ∧ TK o.2.2 ∧ ((o.2.1 36).toInt ≤ 9) ∧ ((o.2.1 29).toInt ≤ 1999)) := t_spellWhole_0  hI hA r_x1 q0
theorem t_isSpelled_72  {I : Nat → Int32} {A : Nat → Nat → Int32} {self6 : Int32 → Int32 → Int32 → Int32 → (Nat → Int32) → (Nat → Nat → Int32) → Option (Int32 × MS)} {N6 : Nat} (hself6 : ∀ (x2 : Int32) (x3 : Int32) (x4 : Int32) (x5 : Int32),  ((0 : Int) ≤ x2.toInt ∧ x2.toInt ≤ (2000 : Int)) → ((0 : Int) ≤ x3.toInt ∧ x3.toInt ≤ (1 : Int)) → ((0 : Int) ≤ x4.toInt ∧ x4.toInt ≤ (16 : Int)) → ((0 : Int) ≤ x5.toInt ∧ x5.toInt ≤ (2000 : Int)) → (x4.toInt ≤ (I 36).toInt) → (2001 - x5.toInt) < (N6 : Int) → Ok (self6 x2 x3 x4 x5 I A) (fun o => o.2 = (I, A) ∧ ((0 : Int) ≤ o.1.toInt ∧ o.1.toInt ≤ (1 : Int)))) {x2 : Int32} {x3 : Int32} {x4 : Int32} {x5 : Int32} (hI : TJ I) (hA : TK A) (r_x2 : (0 : Int) ≤ x2.toInt ∧ x2.toInt ≤ (2000 : Int)) (r_x3 : (0 : Int) ≤ x3.toInt ∧ x3.toInt ≤ (1 : Int)) (r_x4 : (0 : Int) ≤ x4.toInt ∧ x4.toInt ≤ (16 : Int)) (r_x5 : (0 : Int) ≤ x5.toInt ∧ x5.toInt ≤ (1999 : Int)) (q0 : x4.toInt ≤ (I 36).toInt) (m6 : (2001 - x5.toInt) ≤ (N6 : Int)) : Ok (f_isSpelled_72 self6 x2 x3 x4 x5 I A) (fun o => o.2 = (I, A) ∧ ((0 : Int) ≤ o.1.toInt ∧ o.1.toInt ≤ (1 : Int))) := by
  unfold f_isSpelled_72
  refine ok_bnd (fun v1 e121 => ?_)
  have t_v1 : v1.toInt = x5.toInt + 1 := ti_add e121 rfl (show (1 : Int32).toInt = 1 from rfl) (by omega) (by omega)
  exact hself6 x2 x3 x4 v1 r_x2 r_x3 r_x4 (by omega) q0 (by omega)
theorem t_isSpelled_46  {I : Nat → Int32} {A : Nat → Nat → Int32} {self6 : Int32 → Int32 → Int32 → Int32 → (Nat → Int32) → (Nat → Nat → Int32) → Option (Int32 × MS)} {N6 : Nat} (hself6 : ∀ (x2 : Int32) (x3 : Int32) (x4 : Int32) (x5 : Int32),  ((0 : Int) ≤ x2.toInt ∧ x2.toInt ≤ (2000 : Int)) → ((0 : Int) ≤ x3.toInt ∧ x3.toInt ≤ (1 : Int)) → ((0 : Int) ≤ x4.toInt ∧ x4.toInt ≤ (16 : Int)) → ((0 : Int) ≤ x5.toInt ∧ x5.toInt ≤ (2000 : Int)) → (x4.toInt ≤ (I 36).toInt) → (2001 - x5.toInt) < (N6 : Int) → Ok (self6 x2 x3 x4 x5 I A) (fun o => o.2 = (I, A) ∧ ((0 : Int) ≤ o.1.toInt ∧ o.1.toInt ≤ (1 : Int)))) {x2 : Int32} {x3 : Int32} {x4 : Int32} {x5 : Int32} {x6 : Int32} (hI : TJ I) (hA : TK A) (r_x2 : (0 : Int) ≤ x2.toInt ∧ x2.toInt ≤ (2000 : Int)) (r_x3 : (0 : Int) ≤ x3.toInt ∧ x3.toInt ≤ (1 : Int)) (r_x4 : (0 : Int) ≤ x4.toInt ∧ x4.toInt ≤ (16 : Int)) (r_x5 : (0 : Int) ≤ x5.toInt ∧ x5.toInt ≤ (1999 : Int)) (q0 : x4.toInt ≤ (I 36).toInt) (m6 : (2001 - x5.toInt) ≤ (N6 : Int)) : Ok (f_isSpelled_46 self6 x2 x3 x4 x5 x6 I A) (fun o => o.2 = (I, A) ∧ ((0 : Int) ≤ o.1.toInt ∧ o.1.toInt ≤ (1 : Int))) := by
  unfold f_isSpelled_46
  have b_I_36 := tI_36 hI
  refine ok_if (fun c122 => ?_) (fun c122 => ?_)
  ·
    replace c122 := ti_eqP c122 rfl rfl
    unfold f_isSpelled_67
    refine ok_chk (by decide) ?_
    exact ok_ret ⟨rfl, (show (0 : Int) ≤ (0 : Int32).toInt ∧ (0 : Int32).toInt ≤ (1 : Int) from (by decide))⟩
  ·
    replace c122 := ti_eqN c122 rfl rfl
    refine ok_chk (ti_in (by omega) (by omega)) ?_
    refine ok_bnd (fun v1 e123 => ?_)
    have b_v1 := tA_35 hA ((x4).toNatClampNeg)
    rw [← e123] at b_v1
    refine ok_if (fun c124 => ?_) (fun c124 => ?_)
    ·
      replace c124 := ti_eqP c124 rfl rfl
      refine ok_bnd (fun v2 e125 => ?_)
      have t_v2 : v2.toInt = x4.toInt + 1 := ti_add e125 rfl (show (1 : Int32).toInt = 1 from rfl) (by omega) (by omega)
      exact t_isSpelled_72   hself6 (x2 := x2) (x3 := x3) (x4 := v2) (x5 := x5) hI hA r_x2 r_x3 (by omega) r_x5 (by omega) m6
    ·
      replace c124 := ti_eqN c124 rfl rfl
      unfold f_isSpelled_67
      refine ok_chk (by decide) ?_
      exact ok_ret ⟨rfl, (show (0 : Int) ≤ (0 : Int32).toInt ∧ (0 : Int32).toInt ≤ (1 : Int) from (by decide))⟩
theorem t_isSpelled_6s  {I : Nat → Int32} {A : Nat → Nat → Int32} {self6 : Int32 → Int32 → Int32 → Int32 → (Nat → Int32) → (Nat → Nat → Int32) → Option (Int32 × MS)} {N6 : Nat} (hself6 : ∀ (x2 : Int32) (x3 : Int32) (x4 : Int32) (x5 : Int32),  ((0 : Int) ≤ x2.toInt ∧ x2.toInt ≤ (2000 : Int)) → ((0 : Int) ≤ x3.toInt ∧ x3.toInt ≤ (1 : Int)) → ((0 : Int) ≤ x4.toInt ∧ x4.toInt ≤ (16 : Int)) → ((0 : Int) ≤ x5.toInt ∧ x5.toInt ≤ (2000 : Int)) → (x4.toInt ≤ (I 36).toInt) → (2001 - x5.toInt) < (N6 : Int) → Ok (self6 x2 x3 x4 x5 I A) (fun o => o.2 = (I, A) ∧ ((0 : Int) ≤ o.1.toInt ∧ o.1.toInt ≤ (1 : Int)))) {x2 : Int32} {x3 : Int32} {x4 : Int32} {x5 : Int32} (hI : TJ I) (hA : TK A) (r_x2 : (0 : Int) ≤ x2.toInt ∧ x2.toInt ≤ (2000 : Int)) (r_x3 : (0 : Int) ≤ x3.toInt ∧ x3.toInt ≤ (1 : Int)) (r_x4 : (0 : Int) ≤ x4.toInt ∧ x4.toInt ≤ (16 : Int)) (r_x5 : (0 : Int) ≤ x5.toInt ∧ x5.toInt ≤ (2000 : Int)) (q0 : x4.toInt ≤ (I 36).toInt) (m6 : (2001 - x5.toInt) ≤ (N6 : Int)) : Ok (f_isSpelled_6s self6 x2 x3 x4 x5 I A) (fun o => o.2 = (I, A) ∧ ((0 : Int) ≤ o.1.toInt ∧ o.1.toInt ≤ (1 : Int))) := by
  unfold f_isSpelled_6s
  refine ok_if (fun c126 => ?_) (fun c126 => ?_)
  ·
    replace c126 := ti_leP c126 rfl rfl
    have b_I_36 := tI_36 hI
    refine ok_if (fun c127 => ?_) (fun c127 => ?_)
    ·
      replace c127 := ti_eqP c127 rfl rfl
      unfold f_isSpelled_92
      refine ok_chk (by decide) ?_
      exact ok_ret ⟨rfl, (show (0 : Int) ≤ (1 : Int32).toInt ∧ (1 : Int32).toInt ≤ (1 : Int) from (by decide))⟩
    ·
      replace c127 := ti_eqN c127 rfl rfl
      unfold f_isSpelled_92
      refine ok_chk (by decide) ?_
      exact ok_ret ⟨rfl, (show (0 : Int) ≤ (0 : Int32).toInt ∧ (0 : Int32).toInt ≤ (1 : Int) from (by decide))⟩
  ·
    replace c126 := ti_leN c126 rfl rfl
    refine ok_chk (ti_in (by omega) (by omega)) ?_
    refine ok_bnd (fun v1 e128 => ?_)
    have b_v1 := tA_2 hA ((x5).toNatClampNeg)
    rw [← e128] at b_v1
    refine ok_if (fun c129 => ?_) (fun c129 => ?_)
    ·
      replace c129 := ti_eqP c129 rfl (show (0 : Int32).toInt = 0 from rfl)
      exact t_isSpelled_46   hself6 (x2 := x2) (x3 := x3) (x4 := x4) (x5 := x5) (x6 := v1) hI hA r_x2 r_x3 r_x4 (by omega) q0 m6
    ·
      replace c129 := ti_eqN c129 rfl (show (0 : Int32).toInt = 0 from rfl)
      refine ok_if (fun c130 => ?_) (fun c130 => ?_)
      ·
        replace c130 := ti_eqP c130 rfl (show (120 : Int32).toInt = 120 from rfl)
        exact t_isSpelled_72   hself6 (x2 := x2) (x3 := x3) (x4 := x4) (x5 := x5) hI hA r_x2 r_x3 r_x4 (by omega) q0 m6
      ·
        replace c130 := ti_eqN c130 rfl (show (120 : Int32).toInt = 120 from rfl)
        refine ok_if (fun c131 => ?_) (fun c131 => ?_)
        ·
          replace c131 := ti_eqP c131 rfl (show (43 : Int32).toInt = 43 from rfl)
          exact t_isSpelled_72   hself6 (x2 := x2) (x3 := x3) (x4 := x4) (x5 := x5) hI hA r_x2 r_x3 r_x4 (by omega) q0 m6
        ·
          replace c131 := ti_eqN c131 rfl (show (43 : Int32).toInt = 43 from rfl)
          refine ok_if (fun c132 => ?_) (fun c132 => ?_)
          ·
            replace c132 := ti_eqP c132 rfl (show (35 : Int32).toInt = 35 from rfl)
            exact t_isSpelled_72   hself6 (x2 := x2) (x3 := x3) (x4 := x4) (x5 := x5) hI hA r_x2 r_x3 r_x4 (by omega) q0 m6
          ·
            replace c132 := ti_eqN c132 rfl (show (35 : Int32).toInt = 35 from rfl)
            exact t_isSpelled_46   hself6 (x2 := x2) (x3 := x3) (x4 := x4) (x5 := x5) (x6 := v1) hI hA r_x2 r_x3 r_x4 (by omega) q0 m6
theorem t_isSpelled_6  {I : Nat → Int32} {A : Nat → Nat → Int32} (hI : TJ I) (hA : TK A) : ∀ (n : Nat) (x2 : Int32) (x3 : Int32) (x4 : Int32) (x5 : Int32),  ((0 : Int) ≤ x2.toInt ∧ x2.toInt ≤ (2000 : Int)) → ((0 : Int) ≤ x3.toInt ∧ x3.toInt ≤ (1 : Int)) → ((0 : Int) ≤ x4.toInt ∧ x4.toInt ≤ (16 : Int)) → ((0 : Int) ≤ x5.toInt ∧ x5.toInt ≤ (2000 : Int)) → (x4.toInt ≤ (I 36).toInt) → (2001 - x5.toInt) < (n : Int) → Ok (f_isSpelled_6  n x2 x3 x4 x5 I A) (fun o => o.2 = (I, A) ∧ ((0 : Int) ≤ o.1.toInt ∧ o.1.toInt ≤ (1 : Int))) := by
  intro n
  induction n with
  | zero => intro x2 x3 x4 x5 g0 g1 g2 g3 g4  hm; exfalso; omega
  | succ n ih =>
    intro x2 x3 x4 x5 g0 g1 g2 g3 g4  hm
    exact t_isSpelled_6s   (N6 := n)  ih hI hA g0 g1 g2 g3 g4  (by omega)
theorem t_isSpelled_0  {I : Nat → Int32} {A : Nat → Nat → Int32} {x1 : Int32} {x2 : Int32} {x3 : Int32} (hI : TJ I) (hA : TK A) (r_x1 : (0 : Int) ≤ x1.toInt ∧ x1.toInt ≤ (2000 : Int)) (r_x2 : (0 : Int) ≤ x2.toInt ∧ x2.toInt ≤ (2000 : Int)) (r_x3 : (0 : Int) ≤ x3.toInt ∧ x3.toInt ≤ (1 : Int)) : Ok (f_isSpelled_0 x1 x2 x3 I A) (fun o => o.2 = (I, A) ∧ ((0 : Int) ≤ o.1.toInt ∧ o.1.toInt ≤ (1 : Int))) := by
  unfold f_isSpelled_0
  have b_I_36 := tI_36 hI
  exact t_isSpelled_6    hI hA mFuel x2 x3 (0 : Int32) x1  r_x2 r_x3 (by decide) r_x1 (by have z0 : (0 : Int32).toInt = 0 := rfl; omega) (by show _ < ((200000 : Nat) : Int); have z0 : (0 : Int32).toInt = 0 := rfl; omega)
theorem t_isSpelled  {I : Nat → Int32} {A : Nat → Nat → Int32} {x1 : Int32} {x2 : Int32} {x3 : Int32} (hI : TJ I) (hA : TK A) (r_x1 : (0 : Int) ≤ x1.toInt ∧ x1.toInt ≤ (2000 : Int)) (r_x2 : (0 : Int) ≤ x2.toInt ∧ x2.toInt ≤ (2000 : Int)) (r_x3 : (0 : Int) ≤ x3.toInt ∧ x3.toInt ≤ (1 : Int)) : Ok (f_isSpelled x1 x2 x3 I A) (fun o => o.2 = (I, A) ∧ ((0 : Int) ≤ o.1.toInt ∧ o.1.toInt ≤ (1 : Int))) := t_isSpelled_0  hI hA r_x1 r_x2 r_x3
theorem t_fits_198  {I : Nat → Int32} {A : Nat → Nat → Int32} {self37 : Int32 → Int32 → Int32 → Int32 → Int32 → Int32 → Int32 → (Nat → Int32) → (Nat → Nat → Int32) → Option (Int32 × MS)} {N37 : Nat} (hself37 : ∀ (x1 : Int32) (x2 : Int32) (x3 : Int32) (x4 : Int32) (x6 : Int32) (x7 : Int32) (x8 : Int32) (I : Nat → Int32) (A : Nat → Nat → Int32), TJ I → TK A → ((0 : Int) ≤ x1.toInt ∧ x1.toInt ≤ (24575 : Int)) → ((0 : Int) ≤ x2.toInt ∧ x2.toInt ≤ (2000 : Int)) → ((0 : Int) ≤ x3.toInt ∧ x3.toInt ≤ (2000 : Int)) → ((0 : Int) ≤ x4.toInt ∧ x4.toInt ≤ (1 : Int)) → ((0 : Int) ≤ x6.toInt ∧ x6.toInt ≤ (1 : Int)) → ((0 : Int) ≤ x7.toInt ∧ x7.toInt ≤ (1 : Int)) → ((0 : Int) ≤ x8.toInt ∧ x8.toInt ≤ (4 : Int)) → ((I 29).toInt ≤ 1999) → (5 - x8.toInt) < (N37 : Int) → Ok (self37 x1 x2 x3 x4 x6 x7 x8 I A) (fun o => TJ o.2.1 ∧ TK o.2.2 ∧ ((0 : Int) ≤ o.1.toInt ∧ o.1.toInt ≤ (1 : Int)) ∧ ((o.2.1 29).toInt ≤ 1999))) {x1 : Int32} {x2 : Int32} {x3 : Int32} {x4 : Int32} {x6 : Int32} {x7 : Int32} {x8 : Int32} (hI : TJ I) (hA : TK A) (r_x1 : (0 : Int) ≤ x1.toInt ∧ x1.toInt ≤ (24575 : Int)) (r_x2 : (0 : Int) ≤ x2.toInt ∧ x2.toInt ≤ (2000 : Int)) (r_x3 : (0 : Int) ≤ x3.toInt ∧ x3.toInt ≤ (2000 : Int)) (r_x4 : (0 : Int) ≤ x4.toInt ∧ x4.toInt ≤ (1 : Int)) (r_x6 : (0 : Int) ≤ x6.toInt ∧ x6.toInt ≤ (1 : Int)) (r_x7 : (0 : Int) ≤ x7.toInt ∧ x7.toInt ≤ (1 : Int)) (r_x8 : (0 : Int) ≤ x8.toInt ∧ x8.toInt ≤ (3 : Int)) (q0 : (I 29).toInt ≤ 1999) (m37 : (5 - x8.toInt) ≤ (N37 : Int)) : Ok (f_fits_198 self37 x1 x2 x3 x4 x6 x7 x8 I A) (fun o => TJ o.2.1 ∧ TK o.2.2 ∧ ((0 : Int) ≤ o.1.toInt ∧ o.1.toInt ≤ (1 : Int)) ∧ ((o.2.1 29).toInt ≤ 1999)) := by
  unfold f_fits_198
  have b_I_29 := tI_29 hI
  refine ok_bnd (fun v1 e133 => ?_)
  have t_v1 : v1.toInt = x8.toInt + 1 := ti_add e133 rfl (show (1 : Int32).toInt = 1 from rfl) (by omega) (by omega)
  exact hself37 x1 x2 x3 x4 x6 x7 v1 I A hI hA r_x1 r_x2 r_x3 r_x4 r_x6 r_x7 (by omega) q0 (by omega)
theorem t_fits_168  {I : Nat → Int32} {A : Nat → Nat → Int32} {self37 : Int32 → Int32 → Int32 → Int32 → Int32 → Int32 → Int32 → (Nat → Int32) → (Nat → Nat → Int32) → Option (Int32 × MS)} {N37 : Nat} (hself37 : ∀ (x1 : Int32) (x2 : Int32) (x3 : Int32) (x4 : Int32) (x6 : Int32) (x7 : Int32) (x8 : Int32) (I : Nat → Int32) (A : Nat → Nat → Int32), TJ I → TK A → ((0 : Int) ≤ x1.toInt ∧ x1.toInt ≤ (24575 : Int)) → ((0 : Int) ≤ x2.toInt ∧ x2.toInt ≤ (2000 : Int)) → ((0 : Int) ≤ x3.toInt ∧ x3.toInt ≤ (2000 : Int)) → ((0 : Int) ≤ x4.toInt ∧ x4.toInt ≤ (1 : Int)) → ((0 : Int) ≤ x6.toInt ∧ x6.toInt ≤ (1 : Int)) → ((0 : Int) ≤ x7.toInt ∧ x7.toInt ≤ (1 : Int)) → ((0 : Int) ≤ x8.toInt ∧ x8.toInt ≤ (4 : Int)) → ((I 29).toInt ≤ 1999) → (5 - x8.toInt) < (N37 : Int) → Ok (self37 x1 x2 x3 x4 x6 x7 x8 I A) (fun o => TJ o.2.1 ∧ TK o.2.2 ∧ ((0 : Int) ≤ o.1.toInt ∧ o.1.toInt ≤ (1 : Int)) ∧ ((o.2.1 29).toInt ≤ 1999))) {x1 : Int32} {x2 : Int32} {x3 : Int32} {x4 : Int32} {x6 : Int32} {x7 : Int32} {x8 : Int32} (hI : TJ I) (hA : TK A) (r_x1 : (0 : Int) ≤ x1.toInt ∧ x1.toInt ≤ (24575 : Int)) (r_x2 : (0 : Int) ≤ x2.toInt ∧ x2.toInt ≤ (2000 : Int)) (r_x3 : (0 : Int) ≤ x3.toInt ∧ x3.toInt ≤ (2000 : Int)) (r_x4 : (0 : Int) ≤ x4.toInt ∧ x4.toInt ≤ (1 : Int)) (r_x6 : (0 : Int) ≤ x6.toInt ∧ x6.toInt ≤ (1 : Int)) (r_x7 : (0 : Int) ≤ x7.toInt ∧ x7.toInt ≤ (1 : Int)) (r_x8 : (0 : Int) ≤ x8.toInt ∧ x8.toInt ≤ (3 : Int)) (q0 : (I 29).toInt ≤ 1999) (q1 : x2.toInt < x3.toInt) (m37 : (5 - x8.toInt) ≤ (N37 : Int)) : Ok (f_fits_168 self37 x1 x2 x3 x4 x6 x7 x8 I A) (fun o => TJ o.2.1 ∧ TK o.2.2 ∧ ((0 : Int) ≤ o.1.toInt ∧ o.1.toInt ≤ (1 : Int)) ∧ ((o.2.1 29).toInt ≤ 1999)) := by
  unfold f_fits_168
  have b_I_29 := tI_29 hI
  refine ok_bnd (fun v1 e134 => ?_)
  have t_v1 : v1.toInt = x3.toInt - 1 := ti_sub e134 rfl (show (1 : Int32).toInt = 1 from rfl) (by omega) (by omega)
  obtain ⟨r2, h_r2, p_r2⟩ := ro (t_isSpelled (x1 := x2) (x2 := v1) (x3 := (0 : Int32))  hI hA r_x2 (by omega) (by decide))
  refine ok_clR h_r2 ?_
  dsimp only at p_r2
  refine ok_if (fun c135 => ?_) (fun c135 => ?_)
  ·
    replace c135 := ti_eqP c135 rfl (show (0 : Int32).toInt = 0 from rfl)
    exact t_fits_198   hself37 (x1 := x1) (x2 := x2) (x3 := x3) (x4 := x4) (x6 := x6) (x7 := x7) (x8 := x8) hI hA r_x1 r_x2 r_x3 r_x4 r_x6 r_x7 r_x8 q0 m37
  ·
    replace c135 := ti_eqN c135 rfl (show (0 : Int32).toInt = 0 from rfl)
    obtain ⟨⟨r3, Ic3, Ac3⟩, h_r3, hI_Ic3, hA_Ac3, p_r3, p_r3_0⟩ := t_behind (x1 := x1)  hI hA r_x1 q0
    replace hI_Ic3 : TJ Ic3 := hI_Ic3
    replace hA_Ac3 : TK Ac3 := hA_Ac3
    dsimp only at p_r3 p_r3_0
    refine ok_clR h_r3 ?_
    refine ok_bnd (fun v4 e136 => ?_)
    have t_v4 : v4.toInt = x3.toInt - 1 := ti_sub e136 rfl (show (1 : Int32).toInt = 1 from rfl) (by omega) (by omega)
    refine ok_chk (ti_in (by omega) (by omega)) ?_
    refine ok_bnd (fun v5 e137 => ?_)
    have b_v5 := tA_2 hA_Ac3 ((v4).toNatClampNeg)
    rw [← e137] at b_v5
    refine ok_if (fun c138 => ?_) (fun c138 => ?_)
    ·
      replace c138 := ti_eqP c138 rfl rfl
      refine ok_chk (by decide) ?_
      exact ok_ret ⟨hI_Ic3, hA_Ac3, (show (0 : Int) ≤ (1 : Int32).toInt ∧ (1 : Int32).toInt ≤ (1 : Int) from (by decide)), (by show (Ic3 29).toInt ≤ 1999; have z : (1 : Int32).toInt = 1 := rfl; omega)⟩
    ·
      replace c138 := ti_eqN c138 rfl rfl
      have b_Ic3_29 := tI_29 hI_Ic3
      exact t_fits_198   hself37 (x1 := x1) (x2 := x2) (x3 := x3) (x4 := x4) (x6 := x6) (x7 := x7) (x8 := x8) hI_Ic3 hA_Ac3 r_x1 r_x2 r_x3 r_x4 r_x6 r_x7 r_x8 (by omega) m37
theorem t_fits_116  {I : Nat → Int32} {A : Nat → Nat → Int32} {self37 : Int32 → Int32 → Int32 → Int32 → Int32 → Int32 → Int32 → (Nat → Int32) → (Nat → Nat → Int32) → Option (Int32 × MS)} {N37 : Nat} (hself37 : ∀ (x1 : Int32) (x2 : Int32) (x3 : Int32) (x4 : Int32) (x6 : Int32) (x7 : Int32) (x8 : Int32) (I : Nat → Int32) (A : Nat → Nat → Int32), TJ I → TK A → ((0 : Int) ≤ x1.toInt ∧ x1.toInt ≤ (24575 : Int)) → ((0 : Int) ≤ x2.toInt ∧ x2.toInt ≤ (2000 : Int)) → ((0 : Int) ≤ x3.toInt ∧ x3.toInt ≤ (2000 : Int)) → ((0 : Int) ≤ x4.toInt ∧ x4.toInt ≤ (1 : Int)) → ((0 : Int) ≤ x6.toInt ∧ x6.toInt ≤ (1 : Int)) → ((0 : Int) ≤ x7.toInt ∧ x7.toInt ≤ (1 : Int)) → ((0 : Int) ≤ x8.toInt ∧ x8.toInt ≤ (4 : Int)) → ((I 29).toInt ≤ 1999) → (5 - x8.toInt) < (N37 : Int) → Ok (self37 x1 x2 x3 x4 x6 x7 x8 I A) (fun o => TJ o.2.1 ∧ TK o.2.2 ∧ ((0 : Int) ≤ o.1.toInt ∧ o.1.toInt ≤ (1 : Int)) ∧ ((o.2.1 29).toInt ≤ 1999))) {x1 : Int32} {x2 : Int32} {x3 : Int32} {x4 : Int32} {x6 : Int32} {x7 : Int32} {x8 : Int32} {t0 : Int32} {t1 : Int32} {t2 : Int32} (hI : TJ I) (hA : TK A) (r_x1 : (0 : Int) ≤ x1.toInt ∧ x1.toInt ≤ (24575 : Int)) (r_x2 : (0 : Int) ≤ x2.toInt ∧ x2.toInt ≤ (2000 : Int)) (r_x3 : (0 : Int) ≤ x3.toInt ∧ x3.toInt ≤ (2000 : Int)) (r_x4 : (0 : Int) ≤ x4.toInt ∧ x4.toInt ≤ (1 : Int)) (r_x6 : (0 : Int) ≤ x6.toInt ∧ x6.toInt ≤ (1 : Int)) (r_x7 : (0 : Int) ≤ x7.toInt ∧ x7.toInt ≤ (1 : Int)) (r_x8 : (0 : Int) ≤ x8.toInt ∧ x8.toInt ≤ (3 : Int)) (r_t0 : (0 : Int) ≤ t0.toInt ∧ t0.toInt ≤ (1 : Int)) (r_t1 : (0 : Int) ≤ t1.toInt ∧ t1.toInt ≤ (3 : Int)) (r_t2 : (0 : Int) ≤ t2.toInt ∧ t2.toInt ≤ (24575 : Int)) (q0 : (I 29).toInt ≤ 1999) (m37 : (5 - x8.toInt) ≤ (N37 : Int)) : Ok (f_fits_116 self37 x1 x2 x3 x4 x6 x7 x8 t0 t1 t2 I A) (fun o => TJ o.2.1 ∧ TK o.2.2 ∧ ((0 : Int) ≤ o.1.toInt ∧ o.1.toInt ≤ (1 : Int)) ∧ ((o.2.1 29).toInt ≤ 1999)) := by
  unfold f_fits_116
  have b_I_29 := tI_29 hI
  obtain ⟨⟨r1, Ic1, Ac1⟩, h_r1, hI_Ic1, hA_Ac1, p_r1_0⟩ := t_spellMove (x1 := t2) (x2 := t1) (x3 := t0)  hI hA r_t2 r_t1 r_t0
  replace hI_Ic1 : TJ Ic1 := hI_Ic1
  replace hA_Ac1 : TK Ac1 := hA_Ac1
  dsimp only at p_r1_0
  refine ok_clR h_r1 ?_
  have f_r1 := fw_spellMove h_r1
  have : (Ic1 29).toInt = (I 29).toInt := congrArg Int32.toInt (f_r1.1 29 (by decide))
  obtain ⟨r2, h_r2, p_r2⟩ := ro (t_isSpelled (x1 := x2) (x2 := x3) (x3 := x4)  hI_Ic1 hA_Ac1 r_x2 r_x3 r_x4)
  refine ok_clR h_r2 ?_
  dsimp only at p_r2
  refine ok_if (fun c139 => ?_) (fun c139 => ?_)
  ·
    replace c139 := ti_eqP c139 rfl (show (0 : Int32).toInt = 0 from rfl)
    refine ok_if (fun c140 => ?_) (fun c140 => ?_)
    ·
      replace c140 := ti_eqP c140 rfl (show (0 : Int32).toInt = 0 from rfl)
      refine ok_if (fun c141 => ?_) (fun c141 => ?_)
      ·
        replace c141 := ti_leP c141 rfl rfl
        have b_Ic1_29 := tI_29 hI_Ic1
        exact t_fits_198   hself37 (x1 := x1) (x2 := x2) (x3 := x3) (x4 := x4) (x6 := x6) (x7 := x7) (x8 := x8) hI_Ic1 hA_Ac1 r_x1 r_x2 r_x3 r_x4 r_x6 r_x7 r_x8 (by omega) m37
      ·
        replace c141 := ti_leN c141 rfl rfl
        refine ok_bnd (fun v3 e142 => ?_)
        have t_v3 : v3.toInt = x3.toInt - 1 := ti_sub e142 rfl (show (1 : Int32).toInt = 1 from rfl) (by omega) (by omega)
        refine ok_chk (ti_in (by omega) (by omega)) ?_
        refine ok_bnd (fun v4 e143 => ?_)
        have b_v4 := tA_2 hA_Ac1 ((v3).toNatClampNeg)
        rw [← e143] at b_v4
        refine ok_if (fun c144 => ?_) (fun c144 => ?_)
        ·
          replace c144 := ti_eqP c144 rfl (show (43 : Int32).toInt = 43 from rfl)
          have b_Ic1_29 := tI_29 hI_Ic1
          exact t_fits_168   hself37 (x1 := x1) (x2 := x2) (x3 := x3) (x4 := x4) (x6 := x6) (x7 := x7) (x8 := x8) hI_Ic1 hA_Ac1 r_x1 r_x2 r_x3 r_x4 r_x6 r_x7 r_x8 (by omega) (by omega) m37
        ·
          replace c144 := ti_eqN c144 rfl (show (43 : Int32).toInt = 43 from rfl)
          refine ok_bnd (fun v5 e145 => ?_)
          have t_v5 : v5.toInt = x3.toInt - 1 := ti_sub e145 rfl (show (1 : Int32).toInt = 1 from rfl) (by omega) (by omega)
          refine ok_chk (ti_in (by omega) (by omega)) ?_
          refine ok_bnd (fun v6 e146 => ?_)
          have b_v6 := tA_2 hA_Ac1 ((v5).toNatClampNeg)
          rw [← e146] at b_v6
          refine ok_if (fun c147 => ?_) (fun c147 => ?_)
          ·
            replace c147 := ti_eqP c147 rfl (show (35 : Int32).toInt = 35 from rfl)
            have b_Ic1_29 := tI_29 hI_Ic1
            exact t_fits_168   hself37 (x1 := x1) (x2 := x2) (x3 := x3) (x4 := x4) (x6 := x6) (x7 := x7) (x8 := x8) hI_Ic1 hA_Ac1 r_x1 r_x2 r_x3 r_x4 r_x6 r_x7 r_x8 (by omega) (by omega) m37
          ·
            replace c147 := ti_eqN c147 rfl (show (35 : Int32).toInt = 35 from rfl)
            have b_Ic1_29 := tI_29 hI_Ic1
            exact t_fits_198   hself37 (x1 := x1) (x2 := x2) (x3 := x3) (x4 := x4) (x6 := x6) (x7 := x7) (x8 := x8) hI_Ic1 hA_Ac1 r_x1 r_x2 r_x3 r_x4 r_x6 r_x7 r_x8 (by omega) m37
    ·
      replace c140 := ti_eqN c140 rfl (show (0 : Int32).toInt = 0 from rfl)
      have b_Ic1_29 := tI_29 hI_Ic1
      exact t_fits_198   hself37 (x1 := x1) (x2 := x2) (x3 := x3) (x4 := x4) (x6 := x6) (x7 := x7) (x8 := x8) hI_Ic1 hA_Ac1 r_x1 r_x2 r_x3 r_x4 r_x6 r_x7 r_x8 (by omega) m37
  ·
    replace c139 := ti_eqN c139 rfl (show (0 : Int32).toInt = 0 from rfl)
    refine ok_chk (by decide) ?_
    exact ok_ret ⟨hI_Ic1, hA_Ac1, (show (0 : Int) ≤ (1 : Int32).toInt ∧ (1 : Int32).toInt ≤ (1 : Int) from (by decide)), (by show (Ic1 29).toInt ≤ 1999; have z : (1 : Int32).toInt = 1 := rfl; omega)⟩
theorem t_fits_90  {I : Nat → Int32} {A : Nat → Nat → Int32} {self37 : Int32 → Int32 → Int32 → Int32 → Int32 → Int32 → Int32 → (Nat → Int32) → (Nat → Nat → Int32) → Option (Int32 × MS)} {N37 : Nat} (hself37 : ∀ (x1 : Int32) (x2 : Int32) (x3 : Int32) (x4 : Int32) (x6 : Int32) (x7 : Int32) (x8 : Int32) (I : Nat → Int32) (A : Nat → Nat → Int32), TJ I → TK A → ((0 : Int) ≤ x1.toInt ∧ x1.toInt ≤ (24575 : Int)) → ((0 : Int) ≤ x2.toInt ∧ x2.toInt ≤ (2000 : Int)) → ((0 : Int) ≤ x3.toInt ∧ x3.toInt ≤ (2000 : Int)) → ((0 : Int) ≤ x4.toInt ∧ x4.toInt ≤ (1 : Int)) → ((0 : Int) ≤ x6.toInt ∧ x6.toInt ≤ (1 : Int)) → ((0 : Int) ≤ x7.toInt ∧ x7.toInt ≤ (1 : Int)) → ((0 : Int) ≤ x8.toInt ∧ x8.toInt ≤ (4 : Int)) → ((I 29).toInt ≤ 1999) → (5 - x8.toInt) < (N37 : Int) → Ok (self37 x1 x2 x3 x4 x6 x7 x8 I A) (fun o => TJ o.2.1 ∧ TK o.2.2 ∧ ((0 : Int) ≤ o.1.toInt ∧ o.1.toInt ≤ (1 : Int)) ∧ ((o.2.1 29).toInt ≤ 1999))) {x1 : Int32} {x2 : Int32} {x3 : Int32} {x4 : Int32} {x6 : Int32} {x7 : Int32} {x8 : Int32} {t0 : Int32} (hI : TJ I) (hA : TK A) (r_x1 : (0 : Int) ≤ x1.toInt ∧ x1.toInt ≤ (24575 : Int)) (r_x2 : (0 : Int) ≤ x2.toInt ∧ x2.toInt ≤ (2000 : Int)) (r_x3 : (0 : Int) ≤ x3.toInt ∧ x3.toInt ≤ (2000 : Int)) (r_x4 : (0 : Int) ≤ x4.toInt ∧ x4.toInt ≤ (1 : Int)) (r_x6 : (0 : Int) ≤ x6.toInt ∧ x6.toInt ≤ (1 : Int)) (r_x7 : (0 : Int) ≤ x7.toInt ∧ x7.toInt ≤ (1 : Int)) (r_x8 : (0 : Int) ≤ x8.toInt ∧ x8.toInt ≤ (3 : Int)) (r_t0 : (0 : Int) ≤ t0.toInt ∧ t0.toInt ≤ (1 : Int)) (q0 : (I 29).toInt ≤ 1999) (m37 : (5 - x8.toInt) ≤ (N37 : Int)) : Ok (f_fits_90 self37 x1 x2 x3 x4 x6 x7 x8 t0 I A) (fun o => TJ o.2.1 ∧ TK o.2.2 ∧ ((0 : Int) ≤ o.1.toInt ∧ o.1.toInt ≤ (1 : Int)) ∧ ((o.2.1 29).toInt ≤ 1999)) := by
  unfold f_fits_90
  have b_I_29 := tI_29 hI
  refine ok_if (fun c148 => ?_) (fun c148 => ?_)
  ·
    replace c148 := ti_eqP c148 rfl (show (0 : Int32).toInt = 0 from rfl)
    exact t_fits_198   hself37 (x1 := x1) (x2 := x2) (x3 := x3) (x4 := x4) (x6 := x6) (x7 := x7) (x8 := x8) hI hA r_x1 r_x2 r_x3 r_x4 r_x6 r_x7 r_x8 q0 m37
  ·
    replace c148 := ti_eqN c148 rfl (show (0 : Int32).toInt = 0 from rfl)
    refine ok_if (fun c149 => ?_) (fun c149 => ?_)
    ·
      replace c149 := ti_eqP c149 rfl (show (0 : Int32).toInt = 0 from rfl)
      unfold f_fits_115
      exact t_fits_116   hself37 (x1 := x1) (x2 := x2) (x3 := x3) (x4 := x4) (x6 := x6) (x7 := x7) (x8 := x8) (t0 := (0 : Int32)) (t1 := x8) (t2 := x1) hI hA r_x1 r_x2 r_x3 r_x4 r_x6 r_x7 r_x8 (by decide) r_x8 r_x1 q0 m37
    ·
      replace c149 := ti_eqN c149 rfl (show (0 : Int32).toInt = 0 from rfl)
      refine ok_if (fun c150 => ?_) (fun c150 => ?_)
      ·
        replace c150 := ti_eqP c150 rfl (show (0 : Int32).toInt = 0 from rfl)
        exact t_fits_116   hself37 (x1 := x1) (x2 := x2) (x3 := x3) (x4 := x4) (x6 := x6) (x7 := x7) (x8 := x8) (t0 := (1 : Int32)) (t1 := x8) (t2 := x1) hI hA r_x1 r_x2 r_x3 r_x4 r_x6 r_x7 r_x8 (by decide) r_x8 r_x1 q0 m37
      ·
        replace c150 := ti_eqN c150 rfl (show (0 : Int32).toInt = 0 from rfl)
        unfold f_fits_115
        exact t_fits_116   hself37 (x1 := x1) (x2 := x2) (x3 := x3) (x4 := x4) (x6 := x6) (x7 := x7) (x8 := x8) (t0 := (0 : Int32)) (t1 := x8) (t2 := x1) hI hA r_x1 r_x2 r_x3 r_x4 r_x6 r_x7 r_x8 (by decide) r_x8 r_x1 q0 m37
theorem t_fits_37s  {I : Nat → Int32} {A : Nat → Nat → Int32} {self37 : Int32 → Int32 → Int32 → Int32 → Int32 → Int32 → Int32 → (Nat → Int32) → (Nat → Nat → Int32) → Option (Int32 × MS)} {N37 : Nat} (hself37 : ∀ (x1 : Int32) (x2 : Int32) (x3 : Int32) (x4 : Int32) (x6 : Int32) (x7 : Int32) (x8 : Int32) (I : Nat → Int32) (A : Nat → Nat → Int32), TJ I → TK A → ((0 : Int) ≤ x1.toInt ∧ x1.toInt ≤ (24575 : Int)) → ((0 : Int) ≤ x2.toInt ∧ x2.toInt ≤ (2000 : Int)) → ((0 : Int) ≤ x3.toInt ∧ x3.toInt ≤ (2000 : Int)) → ((0 : Int) ≤ x4.toInt ∧ x4.toInt ≤ (1 : Int)) → ((0 : Int) ≤ x6.toInt ∧ x6.toInt ≤ (1 : Int)) → ((0 : Int) ≤ x7.toInt ∧ x7.toInt ≤ (1 : Int)) → ((0 : Int) ≤ x8.toInt ∧ x8.toInt ≤ (4 : Int)) → ((I 29).toInt ≤ 1999) → (5 - x8.toInt) < (N37 : Int) → Ok (self37 x1 x2 x3 x4 x6 x7 x8 I A) (fun o => TJ o.2.1 ∧ TK o.2.2 ∧ ((0 : Int) ≤ o.1.toInt ∧ o.1.toInt ≤ (1 : Int)) ∧ ((o.2.1 29).toInt ≤ 1999))) {x1 : Int32} {x2 : Int32} {x3 : Int32} {x4 : Int32} {x6 : Int32} {x7 : Int32} {x8 : Int32} (hI : TJ I) (hA : TK A) (r_x1 : (0 : Int) ≤ x1.toInt ∧ x1.toInt ≤ (24575 : Int)) (r_x2 : (0 : Int) ≤ x2.toInt ∧ x2.toInt ≤ (2000 : Int)) (r_x3 : (0 : Int) ≤ x3.toInt ∧ x3.toInt ≤ (2000 : Int)) (r_x4 : (0 : Int) ≤ x4.toInt ∧ x4.toInt ≤ (1 : Int)) (r_x6 : (0 : Int) ≤ x6.toInt ∧ x6.toInt ≤ (1 : Int)) (r_x7 : (0 : Int) ≤ x7.toInt ∧ x7.toInt ≤ (1 : Int)) (r_x8 : (0 : Int) ≤ x8.toInt ∧ x8.toInt ≤ (4 : Int)) (q0 : (I 29).toInt ≤ 1999) (m37 : (5 - x8.toInt) ≤ (N37 : Int)) : Ok (f_fits_37s self37 x1 x2 x3 x4 x6 x7 x8 I A) (fun o => TJ o.2.1 ∧ TK o.2.2 ∧ ((0 : Int) ≤ o.1.toInt ∧ o.1.toInt ≤ (1 : Int)) ∧ ((o.2.1 29).toInt ≤ 1999)) := by
  unfold f_fits_37s
  have b_I_29 := tI_29 hI
  refine ok_if (fun c151 => ?_) (fun c151 => ?_)
  ·
    replace c151 := ti_leP c151 (show (4 : Int32).toInt = 4 from rfl) rfl
    refine ok_chk (by decide) ?_
    exact ok_ret ⟨hI, hA, (show (0 : Int) ≤ (0 : Int32).toInt ∧ (0 : Int32).toInt ≤ (1 : Int) from (by decide)), q0⟩
  ·
    replace c151 := ti_leN c151 (show (4 : Int32).toInt = 4 from rfl) rfl
    obtain ⟨r1, h_r1, p_r1⟩ := ro (t_isCastling (x1 := x1)  hI hA r_x1)
    refine ok_clR h_r1 ?_
    dsimp only at p_r1
    refine ok_if (fun c152 => ?_) (fun c152 => ?_)
    ·
      replace c152 := ti_eqP c152 rfl (show (0 : Int32).toInt = 0 from rfl)
      refine ok_if (fun c153 => ?_) (fun c153 => ?_)
      ·
        replace c153 := ti_eqP c153 rfl (show (0 : Int32).toInt = 0 from rfl)
        unfold f_fits_85
        exact t_fits_90   hself37 (x1 := x1) (x2 := x2) (x3 := x3) (x4 := x4) (x6 := x6) (x7 := x7) (x8 := x8) (t0 := (1 : Int32)) hI hA r_x1 r_x2 r_x3 r_x4 r_x6 r_x7 (by omega) (by decide) q0 m37
      ·
        replace c153 := ti_eqN c153 rfl (show (0 : Int32).toInt = 0 from rfl)
        refine ok_if (fun c154 => ?_) (fun c154 => ?_)
        ·
          replace c154 := ti_eqP c154 rfl (show (1 : Int32).toInt = 1 from rfl)
          unfold f_fits_85
          exact t_fits_90   hself37 (x1 := x1) (x2 := x2) (x3 := x3) (x4 := x4) (x6 := x6) (x7 := x7) (x8 := x8) (t0 := (1 : Int32)) hI hA r_x1 r_x2 r_x3 r_x4 r_x6 r_x7 (by omega) (by decide) q0 m37
        ·
          replace c154 := ti_eqN c154 rfl (show (1 : Int32).toInt = 1 from rfl)
          refine ok_if (fun c155 => ?_) (fun c155 => ?_)
          ·
            replace c155 := ti_eqP c155 rfl (show (0 : Int32).toInt = 0 from rfl)
            refine ok_if (fun c156 => ?_) (fun c156 => ?_)
            ·
              replace c156 := ti_eqP c156 rfl (show (0 : Int32).toInt = 0 from rfl)
              unfold f_fits_85
              exact t_fits_90   hself37 (x1 := x1) (x2 := x2) (x3 := x3) (x4 := x4) (x6 := x6) (x7 := x7) (x8 := x8) (t0 := (1 : Int32)) hI hA r_x1 r_x2 r_x3 r_x4 r_x6 r_x7 (by omega) (by decide) q0 m37
            ·
              replace c156 := ti_eqN c156 rfl (show (0 : Int32).toInt = 0 from rfl)
              unfold f_fits_89
              exact t_fits_90   hself37 (x1 := x1) (x2 := x2) (x3 := x3) (x4 := x4) (x6 := x6) (x7 := x7) (x8 := x8) (t0 := (0 : Int32)) hI hA r_x1 r_x2 r_x3 r_x4 r_x6 r_x7 (by omega) (by decide) q0 m37
          ·
            replace c155 := ti_eqN c155 rfl (show (0 : Int32).toInt = 0 from rfl)
            unfold f_fits_89
            exact t_fits_90   hself37 (x1 := x1) (x2 := x2) (x3 := x3) (x4 := x4) (x6 := x6) (x7 := x7) (x8 := x8) (t0 := (0 : Int32)) hI hA r_x1 r_x2 r_x3 r_x4 r_x6 r_x7 (by omega) (by decide) q0 m37
    ·
      replace c152 := ti_eqN c152 rfl (show (0 : Int32).toInt = 0 from rfl)
      refine ok_if (fun c157 => ?_) (fun c157 => ?_)
      ·
        replace c157 := ti_eqP c157 rfl (show (0 : Int32).toInt = 0 from rfl)
        exact t_fits_90   hself37 (x1 := x1) (x2 := x2) (x3 := x3) (x4 := x4) (x6 := x6) (x7 := x7) (x8 := x8) (t0 := (1 : Int32)) hI hA r_x1 r_x2 r_x3 r_x4 r_x6 r_x7 (by omega) (by decide) q0 m37
      ·
        replace c157 := ti_eqN c157 rfl (show (0 : Int32).toInt = 0 from rfl)
        exact t_fits_90   hself37 (x1 := x1) (x2 := x2) (x3 := x3) (x4 := x4) (x6 := x6) (x7 := x7) (x8 := x8) (t0 := (0 : Int32)) hI hA r_x1 r_x2 r_x3 r_x4 r_x6 r_x7 (by omega) (by decide) q0 m37
theorem t_fits_37   : ∀ (n : Nat) (x1 : Int32) (x2 : Int32) (x3 : Int32) (x4 : Int32) (x6 : Int32) (x7 : Int32) (x8 : Int32) (I : Nat → Int32) (A : Nat → Nat → Int32), TJ I → TK A → ((0 : Int) ≤ x1.toInt ∧ x1.toInt ≤ (24575 : Int)) → ((0 : Int) ≤ x2.toInt ∧ x2.toInt ≤ (2000 : Int)) → ((0 : Int) ≤ x3.toInt ∧ x3.toInt ≤ (2000 : Int)) → ((0 : Int) ≤ x4.toInt ∧ x4.toInt ≤ (1 : Int)) → ((0 : Int) ≤ x6.toInt ∧ x6.toInt ≤ (1 : Int)) → ((0 : Int) ≤ x7.toInt ∧ x7.toInt ≤ (1 : Int)) → ((0 : Int) ≤ x8.toInt ∧ x8.toInt ≤ (4 : Int)) → ((I 29).toInt ≤ 1999) → (5 - x8.toInt) < (n : Int) → Ok (f_fits_37  n x1 x2 x3 x4 x6 x7 x8 I A) (fun o => TJ o.2.1 ∧ TK o.2.2 ∧ ((0 : Int) ≤ o.1.toInt ∧ o.1.toInt ≤ (1 : Int)) ∧ ((o.2.1 29).toInt ≤ 1999)) := by
  intro n
  induction n with
  | zero => intro x1 x2 x3 x4 x6 x7 x8 I A hI hA g0 g1 g2 g3 g4 g5 g6 g7  hm; exfalso; omega
  | succ n ih =>
    intro x1 x2 x3 x4 x6 x7 x8 I A hI hA g0 g1 g2 g3 g4 g5 g6 g7  hm
    exact t_fits_37s   (N37 := n)  ih hI hA g0 g1 g2 g3 g4 g5 g6 g7  (by omega)
theorem t_fits_0  {I : Nat → Int32} {A : Nat → Nat → Int32} {x1 : Int32} {x2 : Int32} {x3 : Int32} {x4 : Int32} (hI : TJ I) (hA : TK A) (r_x1 : (0 : Int) ≤ x1.toInt ∧ x1.toInt ≤ (24575 : Int)) (r_x2 : (0 : Int) ≤ x2.toInt ∧ x2.toInt ≤ (2000 : Int)) (r_x3 : (0 : Int) ≤ x3.toInt ∧ x3.toInt ≤ (2000 : Int)) (r_x4 : (0 : Int) ≤ x4.toInt ∧ x4.toInt ≤ (1 : Int)) (q0 : (I 29).toInt ≤ 1999) : Ok (f_fits_0 x1 x2 x3 x4 I A) (fun o => TJ o.2.1 ∧ TK o.2.2 ∧ ((0 : Int) ≤ o.1.toInt ∧ o.1.toInt ≤ (1 : Int)) ∧ ((o.2.1 29).toInt ≤ 1999)) := by
  unfold f_fits_0
  have b_I_29 := tI_29 hI
  refine ok_bnd (fun v1 e158 => ?_)
  have t_v1 : v1.toInt = x1.toInt % 64 := ti_rem e158 rfl (show (64 : Int32).toInt = 64 from rfl) (by omega) (by decide)
  refine ok_chk (ti_in (by omega) (by omega)) ?_
  refine ok_bnd (fun v2 e159 => ?_)
  obtain ⟨r3, h_r3, p_r3⟩ := ro (t_kind (x0 := v2)  hI hA )
  refine ok_clR h_r3 ?_
  dsimp only at p_r3
  refine ok_if (fun c160 => ?_) (fun c160 => ?_)
  ·
    replace c160 := ti_eqP c160 rfl (show (1 : Int32).toInt = 1 from rfl)
    unfold f_fits_25
    obtain ⟨r1, h_r1, p_r1⟩ := ro (t_isTaking (x1 := x1)  hI hA r_x1)
    refine ok_clR h_r1 ?_
    dsimp only at p_r1
    exact t_fits_37     mFuel x1 x2 x3 x4 (1 : Int32) r1 (0 : Int32) I A hI hA r_x1 r_x2 r_x3 r_x4 (by decide) (by omega) (by decide) q0 (by show _ < ((200000 : Nat) : Int); have z0 : (1 : Int32).toInt = 1 := rfl; have z1 : (0 : Int32).toInt = 0 := rfl; omega)
  ·
    replace c160 := ti_eqN c160 rfl (show (1 : Int32).toInt = 1 from rfl)
    unfold f_fits_25
    obtain ⟨r1, h_r1, p_r1⟩ := ro (t_isTaking (x1 := x1)  hI hA r_x1)
    refine ok_clR h_r1 ?_
    dsimp only at p_r1
    exact t_fits_37     mFuel x1 x2 x3 x4 (0 : Int32) r1 (0 : Int32) I A hI hA r_x1 r_x2 r_x3 r_x4 (by decide) (by omega) (by decide) q0 (by show _ < ((200000 : Nat) : Int); have z0 : (0 : Int32).toInt = 0 := rfl; have z1 : (0 : Int32).toInt = 0 := rfl; omega)
theorem t_fits  {I : Nat → Int32} {A : Nat → Nat → Int32} {x1 : Int32} {x2 : Int32} {x3 : Int32} {x4 : Int32} (hI : TJ I) (hA : TK A) (r_x1 : (0 : Int) ≤ x1.toInt ∧ x1.toInt ≤ (24575 : Int)) (r_x2 : (0 : Int) ≤ x2.toInt ∧ x2.toInt ≤ (2000 : Int)) (r_x3 : (0 : Int) ≤ x3.toInt ∧ x3.toInt ≤ (2000 : Int)) (r_x4 : (0 : Int) ≤ x4.toInt ∧ x4.toInt ≤ (1 : Int)) (q0 : (I 29).toInt ≤ 1999) : Ok (f_fits x1 x2 x3 x4 I A) (fun o => TJ o.2.1 ∧ TK o.2.2 ∧ ((0 : Int) ≤ o.1.toInt ∧ o.1.toInt ≤ (1 : Int)) ∧ ((o.2.1 29).toInt ≤ 1999)) := t_fits_0  hI hA r_x1 r_x2 r_x3 r_x4 q0
theorem t_understood_104  {I : Nat → Int32} {A : Nat → Nat → Int32} {self71 : Int32 → Int32 → Int32 → Int32 → (Nat → Int32) → (Nat → Nat → Int32) → Option (Int32 × MS)} {N71 : Nat} (hself71 : ∀ (x1 : Int32) (x2 : Int32) (x3 : Int32) (x5 : Int32) (I : Nat → Int32) (A : Nat → Nat → Int32), TJ I → TK A → ((0 : Int) ≤ x1.toInt ∧ x1.toInt ≤ (2000 : Int)) → ((0 : Int) ≤ x2.toInt ∧ x2.toInt ≤ (2000 : Int)) → ((0 : Int) ≤ x3.toInt ∧ x3.toInt ≤ (2048 : Int)) → ((0 : Int) ≤ x5.toInt ∧ x5.toInt ≤ (2048 : Int)) → ((I 29).toInt ≤ 1999) → (x3.toInt ≤ x5.toInt) → (2049 - x5.toInt) < (N71 : Int) → Ok (self71 x1 x2 x3 x5 I A) (fun o => TJ o.2.1 ∧ TK o.2.2 ∧ ((-2 : Int) ≤ o.1.toInt ∧ o.1.toInt ≤ (24575 : Int)) ∧ ((o.2.1 29).toInt ≤ 1999))) {x1 : Int32} {x2 : Int32} {x5 : Int32} {t0 : Int32} (hI : TJ I) (hA : TK A) (r_x1 : (0 : Int) ≤ x1.toInt ∧ x1.toInt ≤ (2000 : Int)) (r_x2 : (0 : Int) ≤ x2.toInt ∧ x2.toInt ≤ (2000 : Int)) (r_x5 : (0 : Int) ≤ x5.toInt ∧ x5.toInt ≤ (2047 : Int)) (r_t0 : (0 : Int) ≤ t0.toInt ∧ t0.toInt ≤ (2048 : Int)) (q0 : (I 29).toInt ≤ 1999) (q1 : t0.toInt ≤ x5.toInt + 1) (m71 : (2049 - x5.toInt) ≤ (N71 : Int)) : Ok (f_understood_104 self71 x1 x2 x5 t0 I A) (fun o => TJ o.2.1 ∧ TK o.2.2 ∧ ((-2 : Int) ≤ o.1.toInt ∧ o.1.toInt ≤ (24575 : Int)) ∧ ((o.2.1 29).toInt ≤ 1999)) := by
  unfold f_understood_104
  have b_I_29 := tI_29 hI
  have b_I_33 := tI_33 hI
  refine ok_bnd (fun v1 e161 => ?_)
  have t_v1 : v1.toInt = x5.toInt + 1 := ti_add e161 rfl (show (1 : Int32).toInt = 1 from rfl) (by omega) (by omega)
  exact hself71 x1 x2 t0 v1 I A hI hA r_x1 r_x2 r_t0 (by omega) q0 (by omega) (by omega)
theorem t_understood_71s  {I : Nat → Int32} {A : Nat → Nat → Int32} {self71 : Int32 → Int32 → Int32 → Int32 → (Nat → Int32) → (Nat → Nat → Int32) → Option (Int32 × MS)} {N71 : Nat} (hself71 : ∀ (x1 : Int32) (x2 : Int32) (x3 : Int32) (x5 : Int32) (I : Nat → Int32) (A : Nat → Nat → Int32), TJ I → TK A → ((0 : Int) ≤ x1.toInt ∧ x1.toInt ≤ (2000 : Int)) → ((0 : Int) ≤ x2.toInt ∧ x2.toInt ≤ (2000 : Int)) → ((0 : Int) ≤ x3.toInt ∧ x3.toInt ≤ (2048 : Int)) → ((0 : Int) ≤ x5.toInt ∧ x5.toInt ≤ (2048 : Int)) → ((I 29).toInt ≤ 1999) → (x3.toInt ≤ x5.toInt) → (2049 - x5.toInt) < (N71 : Int) → Ok (self71 x1 x2 x3 x5 I A) (fun o => TJ o.2.1 ∧ TK o.2.2 ∧ ((-2 : Int) ≤ o.1.toInt ∧ o.1.toInt ≤ (24575 : Int)) ∧ ((o.2.1 29).toInt ≤ 1999))) {x1 : Int32} {x2 : Int32} {x3 : Int32} {x5 : Int32} (hI : TJ I) (hA : TK A) (r_x1 : (0 : Int) ≤ x1.toInt ∧ x1.toInt ≤ (2000 : Int)) (r_x2 : (0 : Int) ≤ x2.toInt ∧ x2.toInt ≤ (2000 : Int)) (r_x3 : (0 : Int) ≤ x3.toInt ∧ x3.toInt ≤ (2048 : Int)) (r_x5 : (0 : Int) ≤ x5.toInt ∧ x5.toInt ≤ (2048 : Int)) (q0 : (I 29).toInt ≤ 1999) (q1 : x3.toInt ≤ x5.toInt) (m71 : (2049 - x5.toInt) ≤ (N71 : Int)) : Ok (f_understood_71s self71 x1 x2 x3 x5 I A) (fun o => TJ o.2.1 ∧ TK o.2.2 ∧ ((-2 : Int) ≤ o.1.toInt ∧ o.1.toInt ≤ (24575 : Int)) ∧ ((o.2.1 29).toInt ≤ 1999)) := by
  unfold f_understood_71s
  have b_I_29 := tI_29 hI
  have b_I_33 := tI_33 hI
  refine ok_if (fun c162 => ?_) (fun c162 => ?_)
  ·
    replace c162 := ti_leP c162 rfl rfl
    refine ok_if (fun c163 => ?_) (fun c163 => ?_)
    ·
      replace c163 := ti_eqP c163 rfl (show (1 : Int32).toInt = 1 from rfl)
      unfold f_understood_122
      exact ok_ret ⟨hI, hA, (show (-2 : Int) ≤ (-2 : Int32).toInt ∧ (-2 : Int32).toInt ≤ (24575 : Int) from (by decide)), q0⟩
    ·
      replace c163 := ti_eqN c163 rfl (show (1 : Int32).toInt = 1 from rfl)
      unfold f_understood_122
      exact ok_ret ⟨hI, hA, (show (-2 : Int) ≤ (-1 : Int32).toInt ∧ (-1 : Int32).toInt ≤ (24575 : Int) from (by decide)), q0⟩
  ·
    replace c162 := ti_leN c162 rfl rfl
    refine ok_chk (ti_in (by omega) (by omega)) ?_
    refine ok_bnd (fun v1 e164 => ?_)
    have b_v1 := tA_32 hA ((x5).toNatClampNeg)
    rw [← e164] at b_v1
    obtain ⟨⟨r2, Ic2, Ac2⟩, h_r2, hI_Ic2, hA_Ac2, p_r2, p_r2_0⟩ := t_fits (x1 := v1) (x2 := x1) (x3 := x2) (x4 := (1 : Int32))  hI hA (by omega) r_x1 r_x2 (by decide) q0
    replace hI_Ic2 : TJ Ic2 := hI_Ic2
    replace hA_Ac2 : TK Ac2 := hA_Ac2
    dsimp only at p_r2 p_r2_0
    refine ok_clR h_r2 ?_
    have f_r2 := fw_fits h_r2
    have : (Ic2 33).toInt = (I 33).toInt := congrArg Int32.toInt (f_r2.1 33 (by decide))
    refine ok_if (fun c165 => ?_) (fun c165 => ?_)
    ·
      replace c165 := ti_eqP c165 rfl (show (0 : Int32).toInt = 0 from rfl)
      have b_Ic2_29 := tI_29 hI_Ic2
      exact t_understood_104   hself71 (x1 := x1) (x2 := x2) (x5 := x5) (t0 := x3) hI_Ic2 hA_Ac2 r_x1 r_x2 (by omega) r_x3 (by omega) (by omega) m71
    ·
      replace c165 := ti_eqN c165 rfl (show (0 : Int32).toInt = 0 from rfl)
      refine ok_bnd (fun v3 e166 => ?_)
      have t_v3 : v3.toInt = x3.toInt + 1 := ti_add e166 rfl (show (1 : Int32).toInt = 1 from rfl) (by omega) (by omega)
      have b_Ic2_29 := tI_29 hI_Ic2
      exact t_understood_104   hself71 (x1 := x1) (x2 := x2) (x5 := x5) (t0 := v3) hI_Ic2 hA_Ac2 r_x1 r_x2 (by omega) (by omega) (by omega) (by omega) m71
theorem t_understood_71   : ∀ (n : Nat) (x1 : Int32) (x2 : Int32) (x3 : Int32) (x5 : Int32) (I : Nat → Int32) (A : Nat → Nat → Int32), TJ I → TK A → ((0 : Int) ≤ x1.toInt ∧ x1.toInt ≤ (2000 : Int)) → ((0 : Int) ≤ x2.toInt ∧ x2.toInt ≤ (2000 : Int)) → ((0 : Int) ≤ x3.toInt ∧ x3.toInt ≤ (2048 : Int)) → ((0 : Int) ≤ x5.toInt ∧ x5.toInt ≤ (2048 : Int)) → ((I 29).toInt ≤ 1999) → (x3.toInt ≤ x5.toInt) → (2049 - x5.toInt) < (n : Int) → Ok (f_understood_71  n x1 x2 x3 x5 I A) (fun o => TJ o.2.1 ∧ TK o.2.2 ∧ ((-2 : Int) ≤ o.1.toInt ∧ o.1.toInt ≤ (24575 : Int)) ∧ ((o.2.1 29).toInt ≤ 1999)) := by
  intro n
  induction n with
  | zero => intro x1 x2 x3 x5 I A hI hA g0 g1 g2 g3 g4 g5  hm; exfalso; omega
  | succ n ih =>
    intro x1 x2 x3 x5 I A hI hA g0 g1 g2 g3 g4 g5  hm
    exact t_understood_71s   (N71 := n)  ih hI hA g0 g1 g2 g3 g4 g5  (by omega)
theorem t_understood_46  {I : Nat → Int32} {A : Nat → Nat → Int32} {self8 : Int32 → Int32 → Int32 → Int32 → Int32 → (Nat → Int32) → (Nat → Nat → Int32) → Option (Int32 × MS)} {N8 : Nat} (hself8 : ∀ (x1 : Int32) (x2 : Int32) (x3 : Int32) (x4 : Int32) (x5 : Int32) (I : Nat → Int32) (A : Nat → Nat → Int32), TJ I → TK A → ((0 : Int) ≤ x1.toInt ∧ x1.toInt ≤ (2000 : Int)) → ((0 : Int) ≤ x2.toInt ∧ x2.toInt ≤ (2000 : Int)) → ((0 : Int) ≤ x3.toInt ∧ x3.toInt ≤ (2048 : Int)) → ((-1 : Int) ≤ x4.toInt ∧ x4.toInt ≤ (24575 : Int)) → ((0 : Int) ≤ x5.toInt ∧ x5.toInt ≤ (2048 : Int)) → ((I 29).toInt ≤ 1999) → (x3.toInt ≤ x5.toInt) → (2049 - x5.toInt) < (N8 : Int) → Ok (self8 x1 x2 x3 x4 x5 I A) (fun o => TJ o.2.1 ∧ TK o.2.2 ∧ ((-2 : Int) ≤ o.1.toInt ∧ o.1.toInt ≤ (24575 : Int)) ∧ ((o.2.1 29).toInt ≤ 1999))) {x1 : Int32} {x2 : Int32} {x3 : Int32} {x4 : Int32} {x5 : Int32} (hI : TJ I) (hA : TK A) (r_x1 : (0 : Int) ≤ x1.toInt ∧ x1.toInt ≤ (2000 : Int)) (r_x2 : (0 : Int) ≤ x2.toInt ∧ x2.toInt ≤ (2000 : Int)) (r_x3 : (0 : Int) ≤ x3.toInt ∧ x3.toInt ≤ (2048 : Int)) (r_x4 : (-1 : Int) ≤ x4.toInt ∧ x4.toInt ≤ (24575 : Int)) (r_x5 : (0 : Int) ≤ x5.toInt ∧ x5.toInt ≤ (2047 : Int)) (q0 : (I 29).toInt ≤ 1999) (q1 : x3.toInt ≤ x5.toInt + 1) (m8 : (2049 - x5.toInt) ≤ (N8 : Int)) : Ok (f_understood_46 self8 x1 x2 x3 x4 x5 I A) (fun o => TJ o.2.1 ∧ TK o.2.2 ∧ ((-2 : Int) ≤ o.1.toInt ∧ o.1.toInt ≤ (24575 : Int)) ∧ ((o.2.1 29).toInt ≤ 1999)) := by
  unfold f_understood_46
  have b_I_29 := tI_29 hI
  have b_I_33 := tI_33 hI
  refine ok_bnd (fun v1 e167 => ?_)
  have t_v1 : v1.toInt = x5.toInt + 1 := ti_add e167 rfl (show (1 : Int32).toInt = 1 from rfl) (by omega) (by omega)
  exact hself8 x1 x2 x3 x4 v1 I A hI hA r_x1 r_x2 r_x3 r_x4 (by omega) q0 (by omega) (by omega)
theorem t_understood_8s  {I : Nat → Int32} {A : Nat → Nat → Int32} {self8 : Int32 → Int32 → Int32 → Int32 → Int32 → (Nat → Int32) → (Nat → Nat → Int32) → Option (Int32 × MS)} {N8 : Nat} (hself8 : ∀ (x1 : Int32) (x2 : Int32) (x3 : Int32) (x4 : Int32) (x5 : Int32) (I : Nat → Int32) (A : Nat → Nat → Int32), TJ I → TK A → ((0 : Int) ≤ x1.toInt ∧ x1.toInt ≤ (2000 : Int)) → ((0 : Int) ≤ x2.toInt ∧ x2.toInt ≤ (2000 : Int)) → ((0 : Int) ≤ x3.toInt ∧ x3.toInt ≤ (2048 : Int)) → ((-1 : Int) ≤ x4.toInt ∧ x4.toInt ≤ (24575 : Int)) → ((0 : Int) ≤ x5.toInt ∧ x5.toInt ≤ (2048 : Int)) → ((I 29).toInt ≤ 1999) → (x3.toInt ≤ x5.toInt) → (2049 - x5.toInt) < (N8 : Int) → Ok (self8 x1 x2 x3 x4 x5 I A) (fun o => TJ o.2.1 ∧ TK o.2.2 ∧ ((-2 : Int) ≤ o.1.toInt ∧ o.1.toInt ≤ (24575 : Int)) ∧ ((o.2.1 29).toInt ≤ 1999))) {x1 : Int32} {x2 : Int32} {x3 : Int32} {x4 : Int32} {x5 : Int32} (hI : TJ I) (hA : TK A) (r_x1 : (0 : Int) ≤ x1.toInt ∧ x1.toInt ≤ (2000 : Int)) (r_x2 : (0 : Int) ≤ x2.toInt ∧ x2.toInt ≤ (2000 : Int)) (r_x3 : (0 : Int) ≤ x3.toInt ∧ x3.toInt ≤ (2048 : Int)) (r_x4 : (-1 : Int) ≤ x4.toInt ∧ x4.toInt ≤ (24575 : Int)) (r_x5 : (0 : Int) ≤ x5.toInt ∧ x5.toInt ≤ (2048 : Int)) (q0 : (I 29).toInt ≤ 1999) (q1 : x3.toInt ≤ x5.toInt) (m8 : (2049 - x5.toInt) ≤ (N8 : Int)) : Ok (f_understood_8s self8 x1 x2 x3 x4 x5 I A) (fun o => TJ o.2.1 ∧ TK o.2.2 ∧ ((-2 : Int) ≤ o.1.toInt ∧ o.1.toInt ≤ (24575 : Int)) ∧ ((o.2.1 29).toInt ≤ 1999)) := by
  unfold f_understood_8s
  have b_I_29 := tI_29 hI
  have b_I_33 := tI_33 hI
  refine ok_if (fun c168 => ?_) (fun c168 => ?_)
  ·
    replace c168 := ti_leP c168 rfl rfl
    refine ok_if (fun c169 => ?_) (fun c169 => ?_)
    ·
      replace c169 := ti_leP c169 rfl (show (0 : Int32).toInt = 0 from rfl)
      exact t_understood_71     mFuel x1 x2 x3 (0 : Int32) I A hI hA r_x1 r_x2 r_x3 (by decide) q0 (by have z0 : (0 : Int32).toInt = 0 := rfl; omega) (by show _ < ((200000 : Nat) : Int); have z0 : (0 : Int32).toInt = 0 := rfl; omega)
    ·
      replace c169 := ti_leN c169 rfl (show (0 : Int32).toInt = 0 from rfl)
      refine ok_if (fun c170 => ?_) (fun c170 => ?_)
      ·
        replace c170 := ti_eqP c170 rfl (show (1 : Int32).toInt = 1 from rfl)
        unfold f_understood_67
        exact ok_ret ⟨hI, hA, (show (-2 : Int) ≤ x4.toInt ∧ x4.toInt ≤ (24575 : Int) from (by omega)), q0⟩
      ·
        replace c170 := ti_eqN c170 rfl (show (1 : Int32).toInt = 1 from rfl)
        unfold f_understood_67
        exact ok_ret ⟨hI, hA, (show (-2 : Int) ≤ (-1 : Int32).toInt ∧ (-1 : Int32).toInt ≤ (24575 : Int) from (by decide)), q0⟩
  ·
    replace c168 := ti_leN c168 rfl rfl
    refine ok_chk (ti_in (by omega) (by omega)) ?_
    refine ok_bnd (fun v1 e171 => ?_)
    have b_v1 := tA_32 hA ((x5).toNatClampNeg)
    rw [← e171] at b_v1
    obtain ⟨⟨r2, Ic2, Ac2⟩, h_r2, hI_Ic2, hA_Ac2, p_r2, p_r2_0⟩ := t_fits (x1 := v1) (x2 := x1) (x3 := x2) (x4 := (0 : Int32))  hI hA (by omega) r_x1 r_x2 (by decide) q0
    replace hI_Ic2 : TJ Ic2 := hI_Ic2
    replace hA_Ac2 : TK Ac2 := hA_Ac2
    dsimp only at p_r2 p_r2_0
    refine ok_clR h_r2 ?_
    have f_r2 := fw_fits h_r2
    have : (Ic2 33).toInt = (I 33).toInt := congrArg Int32.toInt (f_r2.1 33 (by decide))
    refine ok_if (fun c172 => ?_) (fun c172 => ?_)
    ·
      replace c172 := ti_eqP c172 rfl (show (0 : Int32).toInt = 0 from rfl)
      have b_Ic2_29 := tI_29 hI_Ic2
      exact t_understood_46   hself8 (x1 := x1) (x2 := x2) (x3 := x3) (x4 := x4) (x5 := x5) hI_Ic2 hA_Ac2 r_x1 r_x2 r_x3 r_x4 (by omega) (by omega) (by omega) m8
    ·
      replace c172 := ti_eqN c172 rfl (show (0 : Int32).toInt = 0 from rfl)
      refine ok_bnd (fun v3 e173 => ?_)
      have t_v3 : v3.toInt = x3.toInt + 1 := ti_add e173 rfl (show (1 : Int32).toInt = 1 from rfl) (by omega) (by omega)
      refine ok_chk (ti_in (by omega) (by omega)) ?_
      refine ok_bnd (fun v4 e174 => ?_)
      have b_v4 := tA_32 hA_Ac2 ((x5).toNatClampNeg)
      rw [← e174] at b_v4
      have b_Ic2_29 := tI_29 hI_Ic2
      exact t_understood_46   hself8 (x1 := x1) (x2 := x2) (x3 := v3) (x4 := v4) (x5 := x5) hI_Ic2 hA_Ac2 r_x1 r_x2 (by omega) (by omega) (by omega) (by omega) (by omega) m8
theorem t_understood_8   : ∀ (n : Nat) (x1 : Int32) (x2 : Int32) (x3 : Int32) (x4 : Int32) (x5 : Int32) (I : Nat → Int32) (A : Nat → Nat → Int32), TJ I → TK A → ((0 : Int) ≤ x1.toInt ∧ x1.toInt ≤ (2000 : Int)) → ((0 : Int) ≤ x2.toInt ∧ x2.toInt ≤ (2000 : Int)) → ((0 : Int) ≤ x3.toInt ∧ x3.toInt ≤ (2048 : Int)) → ((-1 : Int) ≤ x4.toInt ∧ x4.toInt ≤ (24575 : Int)) → ((0 : Int) ≤ x5.toInt ∧ x5.toInt ≤ (2048 : Int)) → ((I 29).toInt ≤ 1999) → (x3.toInt ≤ x5.toInt) → (2049 - x5.toInt) < (n : Int) → Ok (f_understood_8  n x1 x2 x3 x4 x5 I A) (fun o => TJ o.2.1 ∧ TK o.2.2 ∧ ((-2 : Int) ≤ o.1.toInt ∧ o.1.toInt ≤ (24575 : Int)) ∧ ((o.2.1 29).toInt ≤ 1999)) := by
  intro n
  induction n with
  | zero => intro x1 x2 x3 x4 x5 I A hI hA g0 g1 g2 g3 g4 g5 g6  hm; exfalso; omega
  | succ n ih =>
    intro x1 x2 x3 x4 x5 I A hI hA g0 g1 g2 g3 g4 g5 g6  hm
    exact t_understood_8s   (N8 := n)  ih hI hA g0 g1 g2 g3 g4 g5 g6  (by omega)
theorem t_understood_0  {I : Nat → Int32} {A : Nat → Nat → Int32} {x1 : Int32} {x2 : Int32} (hI : TJ I) (hA : TK A) (r_x1 : (0 : Int) ≤ x1.toInt ∧ x1.toInt ≤ (2000 : Int)) (r_x2 : (0 : Int) ≤ x2.toInt ∧ x2.toInt ≤ (2000 : Int)) (q0 : (I 29).toInt ≤ 1999) : Ok (f_understood_0 x1 x2 I A) (fun o => TJ o.2.1 ∧ TK o.2.2 ∧ ((-2 : Int) ≤ o.1.toInt ∧ o.1.toInt ≤ (24575 : Int)) ∧ ((o.2.1 29).toInt ≤ 1999)) := by
  unfold f_understood_0
  have b_I_29 := tI_29 hI
  have b_I_33 := tI_33 hI
  exact t_understood_8     mFuel x1 x2 (0 : Int32) (-1 : Int32) (0 : Int32) I A hI hA r_x1 r_x2 (by decide) (by decide) (by decide) q0 (by have z0 : (0 : Int32).toInt = 0 := rfl; have z1 : (-1 : Int32).toInt = -1 := rfl; have z2 : (0 : Int32).toInt = 0 := rfl; omega) (by show _ < ((200000 : Nat) : Int); have z0 : (0 : Int32).toInt = 0 := rfl; have z1 : (-1 : Int32).toInt = -1 := rfl; have z2 : (0 : Int32).toInt = 0 := rfl; omega)
theorem t_understood  {I : Nat → Int32} {A : Nat → Nat → Int32} {x1 : Int32} {x2 : Int32} (hI : TJ I) (hA : TK A) (r_x1 : (0 : Int) ≤ x1.toInt ∧ x1.toInt ≤ (2000 : Int)) (r_x2 : (0 : Int) ≤ x2.toInt ∧ x2.toInt ≤ (2000 : Int)) (q0 : (I 29).toInt ≤ 1999) : Ok (f_understood x1 x2 I A) (fun o => TJ o.2.1 ∧ TK o.2.2 ∧ ((-2 : Int) ≤ o.1.toInt ∧ o.1.toInt ≤ (24575 : Int)) ∧ ((o.2.1 29).toInt ≤ 1999)) := t_understood_0  hI hA r_x1 r_x2 q0
theorem t_find_0  {I : Nat → Int32} {A : Nat → Nat → Int32} (hI : TJ I) (hA : TK A) (q0 : (I 29).toInt ≤ 1999) : Ok (f_find_0 I A) (fun o => TJ o.2.1 ∧ TK o.2.2 ∧ ((-2 : Int) ≤ o.1.toInt ∧ o.1.toInt ≤ (24575 : Int)) ∧ ((o.2.1 29).toInt ≤ 1999)) := by
  unfold f_find_0
  have b_I_29 := tI_29 hI
  refine ok_bnd (fun I1 e175 => ?_)
  have hI_I1 : TJ I1 := e175.symm ▸ tj_u hI (k := 0) (show (0 : Int) ≤ (0 : Int32).toInt from (by decide)) (show (0 : Int32).toInt ≤ (2 : Int) from (by decide))
  have : (I1 29).toInt = (I 29).toInt := by rw [e175]; rfl
  have b_I1_1 := tI_1 hI_I1
  have b_I1_29 := tI_29 hI_I1
  obtain ⟨⟨r2, Ic2, Ac2⟩, h_r2, hI_Ic2, hA_Ac2, p_r2, p_r2_0⟩ := t_understood (x1 := (0 : Int32)) (x2 := (I1 1))  hI_I1 hA (by decide) (by omega) (by have z0 : (0 : Int32).toInt = 0 := rfl; omega)
  replace hI_Ic2 : TJ Ic2 := hI_Ic2
  replace hA_Ac2 : TK Ac2 := hA_Ac2
  dsimp only at p_r2 p_r2_0
  refine ok_clR h_r2 ?_
  exact ok_ret ⟨hI_Ic2, hA_Ac2, (show (-2 : Int) ≤ r2.toInt ∧ r2.toInt ≤ (24575 : Int) from (by omega)), (by show (Ic2 29).toInt ≤ 1999; omega)⟩
theorem t_find  {I : Nat → Int32} {A : Nat → Nat → Int32}  (hI : TJ I) (hA : TK A) (q0 : (I 29).toInt ≤ 1999) : Ok (f_find  I A) (fun o => TJ o.2.1 ∧ TK o.2.2 ∧ ((-2 : Int) ≤ o.1.toInt ∧ o.1.toInt ≤ (24575 : Int)) ∧ ((o.2.1 29).toInt ≤ 1999)) := t_find_0  hI hA q0
end
section
theorem ro_eq {e : Option (Int32 × MS)} {r r' : Int32} {I : Nat → Int32} {A : Nat → Nat → Int32} (h1 : e = some (r, (I, A))) (h2 : e = some (r', (I, A))) : r' = r := by
  rw [h1] at h2
  cases h2
  rfl
theorem t_manOf_b {rec : Int32 → (Nat → Int32) → (Nat → Nat → Int32) → Option (Int32 × MS)} {x0 : Int32} {I : Nat → Int32} {A : Nat → Nat → Int32} (h : x0.toInt < 97) : Ok (f_manOf_0 rec x0 I A) (fun o => o.2 = (I, A) ∧ ((0 : Int) ≤ o.1.toInt ∧ o.1.toInt ≤ (6 : Int))) := by
  unfold f_manOf_0
  refine ok_if (fun _ => ok_ret ⟨rfl, by dsimp only; decide⟩) (fun _ => ?_)
  refine ok_if (fun _ => ok_ret ⟨rfl, by dsimp only; decide⟩) (fun _ => ?_)
  refine ok_if (fun _ => ok_ret ⟨rfl, by dsimp only; decide⟩) (fun _ => ?_)
  refine ok_if (fun _ => ok_ret ⟨rfl, by dsimp only; decide⟩) (fun _ => ?_)
  refine ok_if (fun _ => ok_ret ⟨rfl, by dsimp only; decide⟩) (fun _ => ?_)
  refine ok_if (fun _ => ok_ret ⟨rfl, by dsimp only; decide⟩) (fun _ => ?_)
  exact ok_ifT (Int32.lt_iff_toInt_lt.mpr h) (ok_ret ⟨rfl, by dsimp only; decide⟩)
theorem t_manOf {x0 : Int32} {I : Nat → Int32} {A : Nat → Nat → Int32} (hI : TJ I) (hA : TK A) (r_x0 : (0 : Int) ≤ x0.toInt ∧ x0.toInt ≤ (65535 : Int)) : Ok (f_manOf x0 I A) (fun o => o.2 = (I, A) ∧ ((0 : Int) ≤ o.1.toInt ∧ o.1.toInt ≤ (14 : Int))) := by
  show Ok (f_manOf_0 (fr_manOf 2) x0 I A) _
  unfold f_manOf_0
  refine ok_if (fun _ => ok_ret ⟨rfl, by dsimp only; decide⟩) (fun _ => ?_)
  refine ok_if (fun _ => ok_ret ⟨rfl, by dsimp only; decide⟩) (fun _ => ?_)
  refine ok_if (fun _ => ok_ret ⟨rfl, by dsimp only; decide⟩) (fun _ => ?_)
  refine ok_if (fun _ => ok_ret ⟨rfl, by dsimp only; decide⟩) (fun _ => ?_)
  refine ok_if (fun _ => ok_ret ⟨rfl, by dsimp only; decide⟩) (fun _ => ?_)
  refine ok_if (fun _ => ok_ret ⟨rfl, by dsimp only; decide⟩) (fun _ => ?_)
  refine ok_if (fun _ => ok_ret ⟨rfl, by dsimp only; decide⟩) (fun c1 => ?_)
  refine ok_if (fun _ => ok_ret ⟨rfl, by dsimp only; decide⟩) (fun c2 => ?_)
  replace c1 := ti_ltN c1 rfl (show (97 : Int32).toInt = 97 from rfl)
  replace c2 := ti_ltN c2 (show (122 : Int32).toInt = 122 from rfl) rfl
  refine ok_bnd (fun v1 e1 => ?_)
  have t1 := ti_sub e1 rfl (show (32 : Int32).toInt = 32 from rfl) (by omega) (by omega)
  refine ok_bnd (fun v2 e2 => ?_)
  have t2 : v2.toInt = v1.toInt := by rw [e2]; exact nar_ci rfl (by omega) (by omega)
  obtain ⟨r3, h3, p3⟩ := ro (show Ok (fr_manOf 2 v2 I A) _ from t_manOf_b (rec := fr_manOf 1) (x0 := v2) (I := I) (A := A) (by omega))
  dsimp only at p3
  refine ok_clR h3 ?_
  refine ok_if (fun _ => ok_ret ⟨rfl, by dsimp only; decide⟩) (fun _ => ?_)
  refine ok_bnd (fun v4 e4 => ?_)
  have t4 := ti_sub e4 rfl (show (32 : Int32).toInt = 32 from rfl) (by omega) (by omega)
  refine ok_bnd (fun v5 e5 => ?_)
  have t5 : v5.toInt = v4.toInt := by rw [e5]; exact nar_ci rfl (by omega) (by omega)
  obtain ⟨r6, h6, p6⟩ := ro (show Ok (fr_manOf 2 v5 I A) _ from t_manOf_b (rec := fr_manOf 1) (x0 := v5) (I := I) (A := A) (by omega))
  dsimp only at p6
  refine ok_clR h6 ?_
  refine ok_bnd (fun v7 e7 => ?_)
  have t7 := ti_add e7 rfl (show (8 : Int32).toInt = 8 from rfl) (by omega) (by omega)
  exact ok_ret ⟨rfl, by show (0 : Int) ≤ v7.toInt ∧ v7.toInt ≤ 14; omega⟩
theorem t_sign_0  {I : Nat → Int32} {A : Nat → Nat → Int32} (hI : TJ I) (hA : TK A) : Ok (f_sign_0 I A) (fun o => o.2 = (I, A) ∧ ((0 : Int) ≤ o.1.toInt ∧ o.1.toInt ≤ (65535 : Int))) := by
  unfold f_sign_0
  have b_I_39 := tI_39 hI
  have b_I_38 := tI_38 hI
  refine ok_if (fun c1 => ?_) (fun c1 => ?_)
  ·
    replace c1 := ti_leP c1 rfl rfl
    unfold f_sign_24
    refine ok_chk (by decide) ?_
    exact ok_ret ⟨rfl, (show (0 : Int) ≤ (0 : Int32).toInt ∧ (0 : Int32).toInt ≤ (65535 : Int) from (by decide))⟩
  ·
    replace c1 := ti_leN c1 rfl rfl
    refine ok_chk (ti_in (by omega) (by omega)) ?_
    refine ok_bnd (fun v1 e2 => ?_)
    have b_v1 := tA_22 hA (((I 38)).toNatClampNeg)
    rw [← e2] at b_v1
    unfold f_sign_24
    refine ok_chk (nar_c (by omega) (by omega)) ?_
    exact ok_ret ⟨rfl, (show (0 : Int) ≤ v1.toInt ∧ v1.toInt ≤ (65535 : Int) from (by omega))⟩
theorem t_sign  {I : Nat → Int32} {A : Nat → Nat → Int32}  (hI : TJ I) (hA : TK A) : Ok (f_sign  I A) (fun o => o.2 = (I, A) ∧ ((0 : Int) ≤ o.1.toInt ∧ o.1.toInt ≤ (65535 : Int))) := t_sign_0  hI hA 
theorem t_pass_0  {I : Nat → Int32} {A : Nat → Nat → Int32} {x1 : Int32} (hI : TJ I) (hA : TK A) (q0 : (I 38).toInt ≤ 3999) : Ok (f_pass_0 x1 I A) (fun o => TJ o.2.1 ∧ TK o.2.2 ∧ ((0 : Int) ≤ o.1.toInt ∧ o.1.toInt ≤ (1 : Int)) ∧ ((o.2.1 38).toInt = (I 38).toInt + 1)) := by
  unfold f_pass_0
  have b_I_38 := tI_38 hI
  obtain ⟨r1, h_r1, p_r1⟩ := ro (t_sign   hI hA )
  refine ok_clR h_r1 ?_
  dsimp only at p_r1
  refine ok_if (fun c3 => ?_) (fun c3 => ?_)
  ·
    replace c3 := ti_eqP c3 rfl rfl
    unfold f_pass_13
    refine ok_bnd (fun v1 e4 => ?_)
    have t_v1 : v1.toInt = (I 38).toInt + 1 := ti_add e4 rfl (show (1 : Int32).toInt = 1 from rfl) (by omega) (by omega)
    refine ok_bnd (fun I2 e5 => ?_)
    have hI_I2 : TJ I2 := e5.symm ▸ tj_u hI (k := 38) (show (0 : Int) ≤ v1.toInt from (by omega)) (show v1.toInt ≤ (4000 : Int) from (by omega))
    have : (I2 38).toInt = v1.toInt := by rw [e5]; exact rfl
    refine ok_chk (by decide) ?_
    exact ok_ret ⟨hI_I2, hA, (show (0 : Int) ≤ (1 : Int32).toInt ∧ (1 : Int32).toInt ≤ (1 : Int) from (by decide)), (by show (I2 38).toInt = (I 38).toInt + 1; have z : (1 : Int32).toInt = 1 := rfl; omega)⟩
  ·
    replace c3 := ti_eqN c3 rfl rfl
    unfold f_pass_13
    refine ok_bnd (fun v1 e6 => ?_)
    have t_v1 : v1.toInt = (I 38).toInt + 1 := ti_add e6 rfl (show (1 : Int32).toInt = 1 from rfl) (by omega) (by omega)
    refine ok_bnd (fun I2 e7 => ?_)
    have hI_I2 : TJ I2 := e7.symm ▸ tj_u hI (k := 38) (show (0 : Int) ≤ v1.toInt from (by omega)) (show v1.toInt ≤ (4000 : Int) from (by omega))
    have : (I2 38).toInt = v1.toInt := by rw [e7]; exact rfl
    refine ok_chk (by decide) ?_
    exact ok_ret ⟨hI_I2, hA, (show (0 : Int) ≤ (0 : Int32).toInt ∧ (0 : Int32).toInt ≤ (1 : Int) from (by decide)), (by show (I2 38).toInt = (I 38).toInt + 1; have z : (0 : Int32).toInt = 0 := rfl; omega)⟩
theorem t_pass  {I : Nat → Int32} {A : Nat → Nat → Int32} {x1 : Int32} (hI : TJ I) (hA : TK A) (q0 : (I 38).toInt ≤ 3999) : Ok (f_pass x1 I A) (fun o => TJ o.2.1 ∧ TK o.2.2 ∧ ((0 : Int) ≤ o.1.toInt ∧ o.1.toInt ≤ (1 : Int)) ∧ ((o.2.1 38).toInt = (I 38).toInt + 1)) := t_pass_0  hI hA q0
theorem t_readRank_82 {vv : Int} {I : Nat → Int32} {A : Nat → Nat → Int32} {self4 : Int32 → Int32 → Int32 → (Nat → Int32) → (Nat → Nat → Int32) → Option (Int32 × MS)} {N4 : Nat} (hself4 : ∀ (x1 : Int32) (x2 : Int32) (x3 : Int32) (I : Nat → Int32) (A : Nat → Nat → Int32), TJ I → TK A → ((0 : Int) ≤ x1.toInt ∧ x1.toInt ≤ (7 : Int)) → ((0 : Int) ≤ x2.toInt ∧ x2.toInt ≤ (15 : Int)) → ((0 : Int) ≤ x3.toInt ∧ x3.toInt ≤ (1 : Int)) → ((I 38).toInt ≤ vv + x2.toInt ∧ vv ≤ 3900) → (16 - x2.toInt) < (N4 : Int) → Ok (self4 x1 x2 x3 I A) (fun o => TJ o.2.1 ∧ TK o.2.2 ∧ ((0 : Int) ≤ o.1.toInt ∧ o.1.toInt ≤ (1 : Int)) ∧ ((o.2.1 38).toInt ≤ vv + 16))) {x1 : Int32} {x2 : Int32} {x3 : Int32} (hI : TJ I) (hA : TK A) (r_x1 : (0 : Int) ≤ x1.toInt ∧ x1.toInt ≤ (7 : Int)) (r_x2 : (1 : Int) ≤ x2.toInt ∧ x2.toInt ≤ (15 : Int)) (r_x3 : (0 : Int) ≤ x3.toInt ∧ x3.toInt ≤ (1 : Int)) (q0 : (I 38).toInt ≤ vv + x2.toInt - 1 ∧ vv ≤ 3900) (m4 : (17 - x2.toInt) ≤ (N4 : Int)) : Ok (f_readRank_82 self4 x1 x2 x3 I A) (fun o => TJ o.2.1 ∧ TK o.2.2 ∧ ((0 : Int) ≤ o.1.toInt ∧ o.1.toInt ≤ (1 : Int)) ∧ ((o.2.1 38).toInt ≤ vv + 16)) := by
  unfold f_readRank_82
  have b_I_38 := tI_38 hI
  refine ok_bnd (fun v1 e8 => ?_)
  have t_v1 : v1.toInt = (I 38).toInt + 1 := ti_add e8 rfl (show (1 : Int32).toInt = 1 from rfl) (by omega) (by omega)
  refine ok_bnd (fun I2 e9 => ?_)
  have hI_I2 : TJ I2 := e9.symm ▸ tj_u hI (k := 38) (show (0 : Int) ≤ v1.toInt from (by omega)) (show v1.toInt ≤ (4000 : Int) from (by omega))
  have : (I2 38).toInt = v1.toInt := by rw [e9]; exact rfl
  have b_I2_38 := tI_38 hI_I2
  exact hself4 x1 x2 x3 I2 A hI_I2 hA r_x1 (by omega) r_x3 (by omega) (by omega)
theorem t_readRank_54 {vv : Int} {I : Nat → Int32} {A : Nat → Nat → Int32} {self4 : Int32 → Int32 → Int32 → (Nat → Int32) → (Nat → Nat → Int32) → Option (Int32 × MS)} {N4 : Nat} (hself4 : ∀ (x1 : Int32) (x2 : Int32) (x3 : Int32) (I : Nat → Int32) (A : Nat → Nat → Int32), TJ I → TK A → ((0 : Int) ≤ x1.toInt ∧ x1.toInt ≤ (7 : Int)) → ((0 : Int) ≤ x2.toInt ∧ x2.toInt ≤ (15 : Int)) → ((0 : Int) ≤ x3.toInt ∧ x3.toInt ≤ (1 : Int)) → ((I 38).toInt ≤ vv + x2.toInt ∧ vv ≤ 3900) → (16 - x2.toInt) < (N4 : Int) → Ok (self4 x1 x2 x3 I A) (fun o => TJ o.2.1 ∧ TK o.2.2 ∧ ((0 : Int) ≤ o.1.toInt ∧ o.1.toInt ≤ (1 : Int)) ∧ ((o.2.1 38).toInt ≤ vv + 16))) {x1 : Int32} {x2 : Int32} {x5 : Int32} (hI : TJ I) (hA : TK A) (r_x1 : (0 : Int) ≤ x1.toInt ∧ x1.toInt ≤ (7 : Int)) (r_x2 : (0 : Int) ≤ x2.toInt ∧ x2.toInt ≤ (7 : Int)) (q0 : (I 38).toInt ≤ vv + x2.toInt ∧ vv ≤ 3900) (m4 : (16 - x2.toInt) ≤ (N4 : Int)) : Ok (f_readRank_54 self4 x1 x2 x5 I A) (fun o => TJ o.2.1 ∧ TK o.2.2 ∧ ((0 : Int) ≤ o.1.toInt ∧ o.1.toInt ≤ (1 : Int)) ∧ ((o.2.1 38).toInt ≤ vv + 16)) := by
  unfold f_readRank_54
  have b_I_38 := tI_38 hI
  refine ok_if (fun c10 => ?_) (fun c10 => ?_)
  ·
    replace c10 := ti_leP c10 rfl (show (0 : Int32).toInt = 0 from rfl)
    refine ok_chk (by decide) ?_
    exact ok_ret ⟨hI, hA, (show (0 : Int) ≤ (0 : Int32).toInt ∧ (0 : Int32).toInt ≤ (1 : Int) from (by decide)), (by show (I 38).toInt ≤ vv + 16; have z : (0 : Int32).toInt = 0 := rfl; omega)⟩
  ·
    replace c10 := ti_leN c10 rfl (show (0 : Int32).toInt = 0 from rfl)
    refine ok_bnd (fun v1 e11 => ?_)
    have t_v1 : v1.toInt = 8 * x1.toInt := ti_mul e11 (show (8 : Int32).toInt = 8 from rfl) rfl (by omega) (by omega)
    refine ok_bnd (fun v2 e12 => ?_)
    have t_v2 : v2.toInt = v1.toInt + x2.toInt := ti_add e12 rfl rfl (by omega) (by omega)
    refine ok_chk (ti_in (by omega) (by omega)) ?_
    refine ok_bnd (fun A3 e13 => ?_)
    have hA_A3 : TK A3 := e13.symm ▸ tk_w hA (j := 24) rfl
    refine ok_bnd (fun v4 e14 => ?_)
    have t_v4 : v4.toInt = x2.toInt + 1 := ti_add e14 rfl (show (1 : Int32).toInt = 1 from rfl) (by omega) (by omega)
    exact t_readRank_82 (vv := vv)  hself4 (x1 := x1) (x2 := v4) (x3 := (0 : Int32)) hI hA_A3 r_x1 (by omega) (by decide) (by have z0 : (0 : Int32).toInt = 0 := rfl; omega) (by have z0 : (0 : Int32).toInt = 0 := rfl; omega)
theorem t_readRank_4s {vv : Int} {I : Nat → Int32} {A : Nat → Nat → Int32} {self4 : Int32 → Int32 → Int32 → (Nat → Int32) → (Nat → Nat → Int32) → Option (Int32 × MS)} {N4 : Nat} (hself4 : ∀ (x1 : Int32) (x2 : Int32) (x3 : Int32) (I : Nat → Int32) (A : Nat → Nat → Int32), TJ I → TK A → ((0 : Int) ≤ x1.toInt ∧ x1.toInt ≤ (7 : Int)) → ((0 : Int) ≤ x2.toInt ∧ x2.toInt ≤ (15 : Int)) → ((0 : Int) ≤ x3.toInt ∧ x3.toInt ≤ (1 : Int)) → ((I 38).toInt ≤ vv + x2.toInt ∧ vv ≤ 3900) → (16 - x2.toInt) < (N4 : Int) → Ok (self4 x1 x2 x3 I A) (fun o => TJ o.2.1 ∧ TK o.2.2 ∧ ((0 : Int) ≤ o.1.toInt ∧ o.1.toInt ≤ (1 : Int)) ∧ ((o.2.1 38).toInt ≤ vv + 16))) {x1 : Int32} {x2 : Int32} {x3 : Int32} (hI : TJ I) (hA : TK A) (r_x1 : (0 : Int) ≤ x1.toInt ∧ x1.toInt ≤ (7 : Int)) (r_x2 : (0 : Int) ≤ x2.toInt ∧ x2.toInt ≤ (15 : Int)) (r_x3 : (0 : Int) ≤ x3.toInt ∧ x3.toInt ≤ (1 : Int)) (q0 : (I 38).toInt ≤ vv + x2.toInt ∧ vv ≤ 3900) (m4 : (16 - x2.toInt) ≤ (N4 : Int)) : Ok (f_readRank_4s self4 x1 x2 x3 I A) (fun o => TJ o.2.1 ∧ TK o.2.2 ∧ ((0 : Int) ≤ o.1.toInt ∧ o.1.toInt ≤ (1 : Int)) ∧ ((o.2.1 38).toInt ≤ vv + 16)) := by
  unfold f_readRank_4s
  have b_I_38 := tI_38 hI
  refine ok_if (fun c15 => ?_) (fun c15 => ?_)
  ·
    replace c15 := ti_leP c15 (show (8 : Int32).toInt = 8 from rfl) rfl
    refine ok_if (fun c16 => ?_) (fun c16 => ?_)
    ·
      replace c16 := ti_eqP c16 rfl (show (8 : Int32).toInt = 8 from rfl)
      unfold f_readRank_106
      refine ok_chk (by decide) ?_
      exact ok_ret ⟨hI, hA, (show (0 : Int) ≤ (1 : Int32).toInt ∧ (1 : Int32).toInt ≤ (1 : Int) from (by decide)), (by show (I 38).toInt ≤ vv + 16; have z : (1 : Int32).toInt = 1 := rfl; omega)⟩
    ·
      replace c16 := ti_eqN c16 rfl (show (8 : Int32).toInt = 8 from rfl)
      unfold f_readRank_106
      refine ok_chk (by decide) ?_
      exact ok_ret ⟨hI, hA, (show (0 : Int) ≤ (0 : Int32).toInt ∧ (0 : Int32).toInt ≤ (1 : Int) from (by decide)), (by show (I 38).toInt ≤ vv + 16; have z : (0 : Int32).toInt = 0 := rfl; omega)⟩
  ·
    replace c15 := ti_leN c15 (show (8 : Int32).toInt = 8 from rfl) rfl
    obtain ⟨r1, h_r1, p_r1⟩ := ro (t_sign   hI hA )
    refine ok_clR h_r1 ?_
    dsimp only at p_r1
    obtain ⟨r2, h_r2, p_r2⟩ := ro (t_manOf (x0 := r1)  hI hA (by omega))
    refine ok_clR h_r2 ?_
    dsimp only at p_r2
    refine ok_if (fun c17 => ?_) (fun c17 => ?_)
    ·
      replace c17 := ti_ltP c17 rfl (show (49 : Int32).toInt = 49 from rfl)
      exact t_readRank_54 (vv := vv)  hself4 (x1 := x1) (x2 := x2) (x5 := r2) hI hA r_x1 (by omega) q0 m4
    ·
      replace c17 := ti_ltN c17 rfl (show (49 : Int32).toInt = 49 from rfl)
      refine ok_if (fun c18 => ?_) (fun c18 => ?_)
      ·
        replace c18 := ti_ltP c18 (show (56 : Int32).toInt = 56 from rfl) rfl
        exact t_readRank_54 (vv := vv)  hself4 (x1 := x1) (x2 := x2) (x5 := r2) hI hA r_x1 (by omega) q0 m4
      ·
        replace c18 := ti_ltN c18 (show (56 : Int32).toInt = 56 from rfl) rfl
        refine ok_if (fun c19 => ?_) (fun c19 => ?_)
        ·
          replace c19 := ti_eqP c19 rfl (show (0 : Int32).toInt = 0 from rfl)
          refine ok_bnd (fun v3 e20 => ?_)
          have t_v3 : v3.toInt = x2.toInt + r1.toInt := ti_add e20 rfl rfl (by omega) (by omega)
          refine ok_bnd (fun v4 e21 => ?_)
          have t_v4 : v4.toInt = v3.toInt - 48 := ti_sub e21 rfl (show (48 : Int32).toInt = 48 from rfl) (by omega) (by omega)
          exact t_readRank_82 (vv := vv)  hself4 (x1 := x1) (x2 := v4) (x3 := (1 : Int32)) hI hA r_x1 (by omega) (by decide) (by have z0 : (1 : Int32).toInt = 1 := rfl; omega) (by have z0 : (1 : Int32).toInt = 1 := rfl; omega)
        ·
          replace c19 := ti_eqN c19 rfl (show (0 : Int32).toInt = 0 from rfl)
          exact t_readRank_54 (vv := vv)  hself4 (x1 := x1) (x2 := x2) (x5 := r2) hI hA r_x1 (by omega) q0 m4
theorem t_readRank_4 {vv : Int}  : ∀ (n : Nat) (x1 : Int32) (x2 : Int32) (x3 : Int32) (I : Nat → Int32) (A : Nat → Nat → Int32), TJ I → TK A → ((0 : Int) ≤ x1.toInt ∧ x1.toInt ≤ (7 : Int)) → ((0 : Int) ≤ x2.toInt ∧ x2.toInt ≤ (15 : Int)) → ((0 : Int) ≤ x3.toInt ∧ x3.toInt ≤ (1 : Int)) → ((I 38).toInt ≤ vv + x2.toInt ∧ vv ≤ 3900) → (16 - x2.toInt) < (n : Int) → Ok (f_readRank_4  n x1 x2 x3 I A) (fun o => TJ o.2.1 ∧ TK o.2.2 ∧ ((0 : Int) ≤ o.1.toInt ∧ o.1.toInt ≤ (1 : Int)) ∧ ((o.2.1 38).toInt ≤ vv + 16)) := by
  intro n
  induction n with
  | zero => intro x1 x2 x3 I A hI hA g0 g1 g2 g3  hm; exfalso; omega
  | succ n ih =>
    intro x1 x2 x3 I A hI hA g0 g1 g2 g3  hm
    exact t_readRank_4s (vv := vv)  (N4 := n)  ih hI hA g0 g1 g2 g3  (by omega)
theorem t_readRank_0 {vv : Int} {I : Nat → Int32} {A : Nat → Nat → Int32} {x1 : Int32} (hI : TJ I) (hA : TK A) (r_x1 : (0 : Int) ≤ x1.toInt ∧ x1.toInt ≤ (7 : Int)) (q0 : (I 38).toInt ≤ vv ∧ vv ≤ 3900) : Ok (f_readRank_0 x1 I A) (fun o => TJ o.2.1 ∧ TK o.2.2 ∧ ((0 : Int) ≤ o.1.toInt ∧ o.1.toInt ≤ (1 : Int)) ∧ ((o.2.1 38).toInt ≤ vv + 16)) := by
  unfold f_readRank_0
  have b_I_38 := tI_38 hI
  exact t_readRank_4 (vv := vv)    mFuel x1 (0 : Int32) (0 : Int32) I A hI hA r_x1 (by decide) (by decide) (by have z0 : (0 : Int32).toInt = 0 := rfl; have z1 : (0 : Int32).toInt = 0 := rfl; omega) (by show _ < ((200000 : Nat) : Int); have z0 : (0 : Int32).toInt = 0 := rfl; have z1 : (0 : Int32).toInt = 0 := rfl; omega)
theorem t_readRank {vv : Int} {I : Nat → Int32} {A : Nat → Nat → Int32} {x1 : Int32} (hI : TJ I) (hA : TK A) (r_x1 : (0 : Int) ≤ x1.toInt ∧ x1.toInt ≤ (7 : Int)) (q0 : (I 38).toInt ≤ vv ∧ vv ≤ 3900) : Ok (f_readRank x1 I A) (fun o => TJ o.2.1 ∧ TK o.2.2 ∧ ((0 : Int) ≤ o.1.toInt ∧ o.1.toInt ≤ (1 : Int)) ∧ ((o.2.1 38).toInt ≤ vv + 16)) := t_readRank_0 (vv := vv) hI hA r_x1 q0
theorem t_readNumber_61 {vv : Int} {I : Nat → Int32} {A : Nat → Nat → Int32} {x1 : Int32} {x2 : Int32} {x3 : Int32} (hI : TJ I) (hA : TK A) (r_x1 : (0 : Int) ≤ x1.toInt ∧ x1.toInt ≤ (9999 : Int)) (r_x2 : (0 : Int) ≤ x2.toInt ∧ x2.toInt ≤ (4 : Int)) (r_x3 : (0 : Int) ≤ x3.toInt ∧ x3.toInt ≤ (65535 : Int)) (q0 : (I 38).toInt ≤ vv + x2.toInt ∧ vv ≤ 3900) (q1 : (x2.toInt = 0 → x1.toInt = 0) ∧ (x2.toInt ≤ 1 → x1.toInt ≤ 9) ∧ (x2.toInt ≤ 2 → x1.toInt ≤ 99) ∧ (x2.toInt ≤ 3 → x1.toInt ≤ 999)) : Ok (f_readNumber_61 x1 x2 x3 I A) (fun o => TJ o.2.1 ∧ TK o.2.2 ∧ ((-1 : Int) ≤ o.1.toInt ∧ o.1.toInt ≤ (999 : Int)) ∧ ((o.2.1 38).toInt ≤ vv + 4)) := by
  unfold f_readNumber_61
  have b_I_38 := tI_38 hI
  refine ok_if (fun c22 => ?_) (fun c22 => ?_)
  ·
    replace c22 := ti_eqP c22 rfl (show (0 : Int32).toInt = 0 from rfl)
    unfold f_readNumber_81
    unfold f_readNumber_86
    exact ok_ret ⟨hI, hA, (show (-1 : Int) ≤ (-1 : Int32).toInt ∧ (-1 : Int32).toInt ≤ (999 : Int) from (by decide)), (by show (I 38).toInt ≤ vv + 4; have z : (-1 : Int32).toInt = -1 := rfl; omega)⟩
  ·
    replace c22 := ti_eqN c22 rfl (show (0 : Int32).toInt = 0 from rfl)
    refine ok_if (fun c23 => ?_) (fun c23 => ?_)
    ·
      replace c23 := ti_ltP c23 (show (3 : Int32).toInt = 3 from rfl) rfl
      unfold f_readNumber_81
      unfold f_readNumber_86
      exact ok_ret ⟨hI, hA, (show (-1 : Int) ≤ (-1 : Int32).toInt ∧ (-1 : Int32).toInt ≤ (999 : Int) from (by decide)), (by show (I 38).toInt ≤ vv + 4; have z : (-1 : Int32).toInt = -1 := rfl; omega)⟩
    ·
      replace c23 := ti_ltN c23 (show (3 : Int32).toInt = 3 from rfl) rfl
      refine ok_if (fun c24 => ?_) (fun c24 => ?_)
      ·
        replace c24 := ti_leP c24 rfl (show (1 : Int32).toInt = 1 from rfl)
        unfold f_readNumber_85
        unfold f_readNumber_86
        exact ok_ret ⟨hI, hA, (show (-1 : Int) ≤ x1.toInt ∧ x1.toInt ≤ (999 : Int) from (by omega)), (by show (I 38).toInt ≤ vv + 4; omega)⟩
      ·
        replace c24 := ti_leN c24 rfl (show (1 : Int32).toInt = 1 from rfl)
        refine ok_if (fun c25 => ?_) (fun c25 => ?_)
        ·
          replace c25 := ti_eqP c25 rfl (show (48 : Int32).toInt = 48 from rfl)
          unfold f_readNumber_81
          unfold f_readNumber_86
          exact ok_ret ⟨hI, hA, (show (-1 : Int) ≤ (-1 : Int32).toInt ∧ (-1 : Int32).toInt ≤ (999 : Int) from (by decide)), (by show (I 38).toInt ≤ vv + 4; have z : (-1 : Int32).toInt = -1 := rfl; omega)⟩
        ·
          replace c25 := ti_eqN c25 rfl (show (48 : Int32).toInt = 48 from rfl)
          unfold f_readNumber_85
          unfold f_readNumber_86
          exact ok_ret ⟨hI, hA, (show (-1 : Int) ≤ x1.toInt ∧ x1.toInt ≤ (999 : Int) from (by omega)), (by show (I 38).toInt ≤ vv + 4; omega)⟩
theorem t_readNumber_9s {vv : Int} {I : Nat → Int32} {A : Nat → Nat → Int32} {self9 : Int32 → Int32 → Int32 → (Nat → Int32) → (Nat → Nat → Int32) → Option (Int32 × MS)} {N9 : Nat} (hself9 : ∀ (x1 : Int32) (x2 : Int32) (x3 : Int32) (I : Nat → Int32) (A : Nat → Nat → Int32), TJ I → TK A → ((0 : Int) ≤ x1.toInt ∧ x1.toInt ≤ (9999 : Int)) → ((0 : Int) ≤ x2.toInt ∧ x2.toInt ≤ (4 : Int)) → ((0 : Int) ≤ x3.toInt ∧ x3.toInt ≤ (65535 : Int)) → ((I 38).toInt ≤ vv + x2.toInt ∧ vv ≤ 3900) → ((x2.toInt = 0 → x1.toInt = 0) ∧ (x2.toInt ≤ 1 → x1.toInt ≤ 9) ∧ (x2.toInt ≤ 2 → x1.toInt ≤ 99) ∧ (x2.toInt ≤ 3 → x1.toInt ≤ 999)) → (5 - x2.toInt) < (N9 : Int) → Ok (self9 x1 x2 x3 I A) (fun o => TJ o.2.1 ∧ TK o.2.2 ∧ ((-1 : Int) ≤ o.1.toInt ∧ o.1.toInt ≤ (999 : Int)) ∧ ((o.2.1 38).toInt ≤ vv + 4))) {x1 : Int32} {x2 : Int32} {x3 : Int32} (hI : TJ I) (hA : TK A) (r_x1 : (0 : Int) ≤ x1.toInt ∧ x1.toInt ≤ (9999 : Int)) (r_x2 : (0 : Int) ≤ x2.toInt ∧ x2.toInt ≤ (4 : Int)) (r_x3 : (0 : Int) ≤ x3.toInt ∧ x3.toInt ≤ (65535 : Int)) (q0 : (I 38).toInt ≤ vv + x2.toInt ∧ vv ≤ 3900) (q1 : (x2.toInt = 0 → x1.toInt = 0) ∧ (x2.toInt ≤ 1 → x1.toInt ≤ 9) ∧ (x2.toInt ≤ 2 → x1.toInt ≤ 99) ∧ (x2.toInt ≤ 3 → x1.toInt ≤ 999)) (m9 : (5 - x2.toInt) ≤ (N9 : Int)) : Ok (f_readNumber_9s self9 x1 x2 x3 I A) (fun o => TJ o.2.1 ∧ TK o.2.2 ∧ ((-1 : Int) ≤ o.1.toInt ∧ o.1.toInt ≤ (999 : Int)) ∧ ((o.2.1 38).toInt ≤ vv + 4)) := by
  unfold f_readNumber_9s
  have b_I_38 := tI_38 hI
  obtain ⟨r1, h_r1, p_r1⟩ := ro (t_sign   hI hA )
  refine ok_clR h_r1 ?_
  dsimp only at p_r1
  refine ok_if (fun c26 => ?_) (fun c26 => ?_)
  ·
    replace c26 := ti_ltP c26 rfl (show (48 : Int32).toInt = 48 from rfl)
    exact t_readNumber_61 (vv := vv)   (x1 := x1) (x2 := x2) (x3 := x3) hI hA r_x1 r_x2 r_x3 q0 q1
  ·
    replace c26 := ti_ltN c26 rfl (show (48 : Int32).toInt = 48 from rfl)
    obtain ⟨r2, h_r2, p_r2⟩ := ro (t_sign   hI hA )
    refine ok_clR h_r2 ?_
    dsimp only at p_r2
    have e2 : r2.toInt = r1.toInt := by rw [ro_eq h_r1 h_r2]
    refine ok_if (fun c27 => ?_) (fun c27 => ?_)
    ·
      replace c27 := ti_ltP c27 (show (57 : Int32).toInt = 57 from rfl) rfl
      exact t_readNumber_61 (vv := vv)   (x1 := x1) (x2 := x2) (x3 := x3) hI hA r_x1 r_x2 r_x3 q0 q1
    ·
      replace c27 := ti_ltN c27 (show (57 : Int32).toInt = 57 from rfl) rfl
      refine ok_if (fun c28 => ?_) (fun c28 => ?_)
      ·
        replace c28 := ti_leP c28 (show (4 : Int32).toInt = 4 from rfl) rfl
        exact t_readNumber_61 (vv := vv)   (x1 := x1) (x2 := x2) (x3 := x3) hI hA r_x1 r_x2 r_x3 q0 q1
      ·
        replace c28 := ti_leN c28 (show (4 : Int32).toInt = 4 from rfl) rfl
        refine ok_bnd (fun v3 e29 => ?_)
        have t_v3 : v3.toInt = 10 * x1.toInt := ti_mul e29 (show (10 : Int32).toInt = 10 from rfl) rfl (by omega) (by omega)
        obtain ⟨r4, h_r4, p_r4⟩ := ro (t_sign   hI hA )
        refine ok_clR h_r4 ?_
        dsimp only at p_r4
        have e4 : r4.toInt = r1.toInt := by rw [ro_eq h_r1 h_r4]
        refine ok_bnd (fun v5 e30 => ?_)
        have t_v5 : v5.toInt = v3.toInt + r4.toInt := ti_add e30 rfl rfl (by omega) (by omega)
        refine ok_bnd (fun v6 e31 => ?_)
        have t_v6 : v6.toInt = v5.toInt - 48 := ti_sub e31 rfl (show (48 : Int32).toInt = 48 from rfl) (by omega) (by omega)
        refine ok_bnd (fun v7 e32 => ?_)
        have t_v7 : v7.toInt = x2.toInt + 1 := ti_add e32 rfl (show (1 : Int32).toInt = 1 from rfl) (by omega) (by omega)
        refine ok_bnd (fun v8 e33 => ?_)
        have t_v8 : v8.toInt = (I 38).toInt + 1 := ti_add e33 rfl (show (1 : Int32).toInt = 1 from rfl) (by omega) (by omega)
        refine ok_bnd (fun I9 e34 => ?_)
        have hI_I9 : TJ I9 := e34.symm ▸ tj_u hI (k := 38) (show (0 : Int) ≤ v8.toInt from (by omega)) (show v8.toInt ≤ (4000 : Int) from (by omega))
        have : (I9 38).toInt = v8.toInt := by rw [e34]; exact rfl
        have b_I9_38 := tI_38 hI_I9
        exact hself9 v6 v7 x3 I9 A hI_I9 hA (by omega) (by omega) r_x3 (by omega) (by omega) (by omega)
theorem t_readNumber_9 {vv : Int}  : ∀ (n : Nat) (x1 : Int32) (x2 : Int32) (x3 : Int32) (I : Nat → Int32) (A : Nat → Nat → Int32), TJ I → TK A → ((0 : Int) ≤ x1.toInt ∧ x1.toInt ≤ (9999 : Int)) → ((0 : Int) ≤ x2.toInt ∧ x2.toInt ≤ (4 : Int)) → ((0 : Int) ≤ x3.toInt ∧ x3.toInt ≤ (65535 : Int)) → ((I 38).toInt ≤ vv + x2.toInt ∧ vv ≤ 3900) → ((x2.toInt = 0 → x1.toInt = 0) ∧ (x2.toInt ≤ 1 → x1.toInt ≤ 9) ∧ (x2.toInt ≤ 2 → x1.toInt ≤ 99) ∧ (x2.toInt ≤ 3 → x1.toInt ≤ 999)) → (5 - x2.toInt) < (n : Int) → Ok (f_readNumber_9  n x1 x2 x3 I A) (fun o => TJ o.2.1 ∧ TK o.2.2 ∧ ((-1 : Int) ≤ o.1.toInt ∧ o.1.toInt ≤ (999 : Int)) ∧ ((o.2.1 38).toInt ≤ vv + 4)) := by
  intro n
  induction n with
  | zero => intro x1 x2 x3 I A hI hA g0 g1 g2 g3 g4  hm; exfalso; omega
  | succ n ih =>
    intro x1 x2 x3 I A hI hA g0 g1 g2 g3 g4  hm
    exact t_readNumber_9s (vv := vv)  (N9 := n)  ih hI hA g0 g1 g2 g3 g4  (by omega)
theorem t_readNumber_0 {vv : Int} {I : Nat → Int32} {A : Nat → Nat → Int32} (hI : TJ I) (hA : TK A) (q0 : (I 38).toInt ≤ vv ∧ vv ≤ 3900) : Ok (f_readNumber_0 I A) (fun o => TJ o.2.1 ∧ TK o.2.2 ∧ ((-1 : Int) ≤ o.1.toInt ∧ o.1.toInt ≤ (999 : Int)) ∧ ((o.2.1 38).toInt ≤ vv + 4)) := by
  unfold f_readNumber_0
  have b_I_38 := tI_38 hI
  obtain ⟨r1, h_r1, p_r1⟩ := ro (t_sign   hI hA )
  refine ok_clR h_r1 ?_
  dsimp only at p_r1
  exact t_readNumber_9 (vv := vv)    mFuel (0 : Int32) (0 : Int32) r1 I A hI hA (by decide) (by decide) (by omega) (by have z0 : (0 : Int32).toInt = 0 := rfl; have z1 : (0 : Int32).toInt = 0 := rfl; omega) (by have z0 : (0 : Int32).toInt = 0 := rfl; have z1 : (0 : Int32).toInt = 0 := rfl; omega) (by show _ < ((200000 : Nat) : Int); have z0 : (0 : Int32).toInt = 0 := rfl; have z1 : (0 : Int32).toInt = 0 := rfl; omega)
theorem t_readNumber {vv : Int} {I : Nat → Int32} {A : Nat → Nat → Int32}  (hI : TJ I) (hA : TK A) (q0 : (I 38).toInt ≤ vv ∧ vv ≤ 3900) : Ok (f_readNumber  I A) (fun o => TJ o.2.1 ∧ TK o.2.2 ∧ ((-1 : Int) ≤ o.1.toInt ∧ o.1.toInt ≤ (999 : Int)) ∧ ((o.2.1 38).toInt ≤ vv + 4)) := t_readNumber_0 (vv := vv) hI hA q0
theorem t_readRights_88 {vv : Int} {I : Nat → Int32} {A : Nat → Nat → Int32} {self23 : Int32 → (Nat → Int32) → (Nat → Nat → Int32) → Option (Int32 × MS)} {N23 : Nat} (hself23 : ∀ (x1 : Int32) (I : Nat → Int32) (A : Nat → Nat → Int32), TJ I → TK A → ((0 : Int) ≤ x1.toInt ∧ x1.toInt ≤ (4 : Int)) → ((I 38).toInt ≤ vv + x1.toInt ∧ vv ≤ 3900) → (5 - x1.toInt) < (N23 : Int) → Ok (self23 x1 I A) (fun o => TJ o.2.1 ∧ TK o.2.2 ∧ ((0 : Int) ≤ o.1.toInt ∧ o.1.toInt ≤ (1 : Int)) ∧ ((o.2.1 38).toInt ≤ vv + 4))) {x1 : Int32} (hI : TJ I) (hA : TK A) (r_x1 : (0 : Int) ≤ x1.toInt ∧ x1.toInt ≤ (3 : Int)) (q0 : (I 38).toInt ≤ vv + x1.toInt + 1 ∧ vv ≤ 3900) (m23 : (5 - x1.toInt) ≤ (N23 : Int)) : Ok (f_readRights_88 self23 x1 I A) (fun o => TJ o.2.1 ∧ TK o.2.2 ∧ ((0 : Int) ≤ o.1.toInt ∧ o.1.toInt ≤ (1 : Int)) ∧ ((o.2.1 38).toInt ≤ vv + 4)) := by
  unfold f_readRights_88
  have b_I_38 := tI_38 hI
  refine ok_bnd (fun v1 e35 => ?_)
  have t_v1 : v1.toInt = x1.toInt + 1 := ti_add e35 rfl (show (1 : Int32).toInt = 1 from rfl) (by omega) (by omega)
  exact hself23 v1 I A hI hA (by omega) (by omega) (by omega)
theorem t_readRights_63 {vv : Int} {I : Nat → Int32} {A : Nat → Nat → Int32} {self23 : Int32 → (Nat → Int32) → (Nat → Nat → Int32) → Option (Int32 × MS)} {N23 : Nat} (hself23 : ∀ (x1 : Int32) (I : Nat → Int32) (A : Nat → Nat → Int32), TJ I → TK A → ((0 : Int) ≤ x1.toInt ∧ x1.toInt ≤ (4 : Int)) → ((I 38).toInt ≤ vv + x1.toInt ∧ vv ≤ 3900) → (5 - x1.toInt) < (N23 : Int) → Ok (self23 x1 I A) (fun o => TJ o.2.1 ∧ TK o.2.2 ∧ ((0 : Int) ≤ o.1.toInt ∧ o.1.toInt ≤ (1 : Int)) ∧ ((o.2.1 38).toInt ≤ vv + 4))) {x1 : Int32} {t0 : Int32} {t1 : Int32} (hI : TJ I) (hA : TK A) (r_x1 : (0 : Int) ≤ x1.toInt ∧ x1.toInt ≤ (3 : Int)) (q0 : (I 38).toInt ≤ vv + x1.toInt ∧ vv ≤ 3900) (m23 : (5 - x1.toInt) ≤ (N23 : Int)) : Ok (f_readRights_63 self23 x1 t0 t1 I A) (fun o => TJ o.2.1 ∧ TK o.2.2 ∧ ((0 : Int) ≤ o.1.toInt ∧ o.1.toInt ≤ (1 : Int)) ∧ ((o.2.1 38).toInt ≤ vv + 4)) := by
  unfold f_readRights_63
  have b_I_38 := tI_38 hI
  refine ok_if (fun c36 => ?_) (fun c36 => ?_)
  ·
    replace c36 := ti_eqP c36 rfl rfl
    refine ok_bnd (fun v1 e37 => ?_)
    refine ok_bnd (fun v2 e38 => ?_)
    refine ok_bnd (fun I3 e39 => ?_)
    have hI_I3 : TJ I3 := e39.symm ▸ tj_w hI (k := 26) rfl
    have : (I3 38).toInt = (I 38).toInt := by rw [e39]; rfl
    refine ok_bnd (fun v4 e40 => ?_)
    have b_I3_38 := tI_38 hI_I3
    have t_v4 : v4.toInt = (I3 38).toInt + 1 := ti_add e40 rfl (show (1 : Int32).toInt = 1 from rfl) (by omega) (by omega)
    refine ok_bnd (fun I5 e41 => ?_)
    have hI_I5 : TJ I5 := e41.symm ▸ tj_u hI_I3 (k := 38) (show (0 : Int) ≤ v4.toInt from (by omega)) (show v4.toInt ≤ (4000 : Int) from (by omega))
    have : (I5 38).toInt = v4.toInt := by rw [e41]; exact rfl
    have b_I5_38 := tI_38 hI_I5
    exact t_readRights_88 (vv := vv)  hself23 (x1 := x1) hI_I5 hA r_x1 (by omega) m23
  ·
    replace c36 := ti_eqN c36 rfl rfl
    exact t_readRights_88 (vv := vv)  hself23 (x1 := x1) hI hA r_x1 (by omega) m23
theorem t_readRights_23s {vv : Int} {I : Nat → Int32} {A : Nat → Nat → Int32} {self23 : Int32 → (Nat → Int32) → (Nat → Nat → Int32) → Option (Int32 × MS)} {N23 : Nat} (hself23 : ∀ (x1 : Int32) (I : Nat → Int32) (A : Nat → Nat → Int32), TJ I → TK A → ((0 : Int) ≤ x1.toInt ∧ x1.toInt ≤ (4 : Int)) → ((I 38).toInt ≤ vv + x1.toInt ∧ vv ≤ 3900) → (5 - x1.toInt) < (N23 : Int) → Ok (self23 x1 I A) (fun o => TJ o.2.1 ∧ TK o.2.2 ∧ ((0 : Int) ≤ o.1.toInt ∧ o.1.toInt ≤ (1 : Int)) ∧ ((o.2.1 38).toInt ≤ vv + 4))) {x1 : Int32} (hI : TJ I) (hA : TK A) (r_x1 : (0 : Int) ≤ x1.toInt ∧ x1.toInt ≤ (4 : Int)) (q0 : (I 38).toInt ≤ vv + x1.toInt ∧ vv ≤ 3900) (m23 : (5 - x1.toInt) ≤ (N23 : Int)) : Ok (f_readRights_23s self23 x1 I A) (fun o => TJ o.2.1 ∧ TK o.2.2 ∧ ((0 : Int) ≤ o.1.toInt ∧ o.1.toInt ≤ (1 : Int)) ∧ ((o.2.1 38).toInt ≤ vv + 4)) := by
  unfold f_readRights_23s
  have b_I_38 := tI_38 hI
  refine ok_if (fun c42 => ?_) (fun c42 => ?_)
  ·
    replace c42 := ti_leP c42 (show (4 : Int32).toInt = 4 from rfl) rfl
    refine ok_if (fun c43 => ?_) (fun c43 => ?_)
    ·
      replace c43 := ti_leP c43 rfl (show (0 : Int32).toInt = 0 from rfl)
      unfold f_readRights_106
      refine ok_chk (by decide) ?_
      exact ok_ret ⟨hI, hA, (show (0 : Int) ≤ (0 : Int32).toInt ∧ (0 : Int32).toInt ≤ (1 : Int) from (by decide)), (by show (I 38).toInt ≤ vv + 4; have z : (0 : Int32).toInt = 0 := rfl; omega)⟩
    ·
      replace c43 := ti_leN c43 rfl (show (0 : Int32).toInt = 0 from rfl)
      unfold f_readRights_106
      refine ok_chk (by decide) ?_
      exact ok_ret ⟨hI, hA, (show (0 : Int) ≤ (1 : Int32).toInt ∧ (1 : Int32).toInt ≤ (1 : Int) from (by decide)), (by show (I 38).toInt ≤ vv + 4; have z : (1 : Int32).toInt = 1 := rfl; omega)⟩
  ·
    replace c42 := ti_leN c42 (show (4 : Int32).toInt = 4 from rfl) rfl
    obtain ⟨r1, h_r1, p_r1⟩ := ro (t_sign   hI hA )
    refine ok_clR h_r1 ?_
    dsimp only at p_r1
    refine ok_if (fun c44 => ?_) (fun c44 => ?_)
    ·
      replace c44 := ti_eqP c44 rfl (show (0 : Int32).toInt = 0 from rfl)
      exact t_readRights_63 (vv := vv)  hself23 (x1 := x1) (t0 := (75 : Int32)) (t1 := r1) hI hA (by omega) q0 m23
    ·
      replace c44 := ti_eqN c44 rfl (show (0 : Int32).toInt = 0 from rfl)
      refine ok_if (fun c45 => ?_) (fun c45 => ?_)
      ·
        replace c45 := ti_eqP c45 rfl (show (1 : Int32).toInt = 1 from rfl)
        exact t_readRights_63 (vv := vv)  hself23 (x1 := x1) (t0 := (81 : Int32)) (t1 := r1) hI hA (by omega) q0 m23
      ·
        replace c45 := ti_eqN c45 rfl (show (1 : Int32).toInt = 1 from rfl)
        refine ok_if (fun c46 => ?_) (fun c46 => ?_)
        ·
          replace c46 := ti_eqP c46 rfl (show (2 : Int32).toInt = 2 from rfl)
          exact t_readRights_63 (vv := vv)  hself23 (x1 := x1) (t0 := (107 : Int32)) (t1 := r1) hI hA (by omega) q0 m23
        ·
          replace c46 := ti_eqN c46 rfl (show (2 : Int32).toInt = 2 from rfl)
          exact t_readRights_63 (vv := vv)  hself23 (x1 := x1) (t0 := (113 : Int32)) (t1 := r1) hI hA (by omega) q0 m23
theorem t_readRights_23 {vv : Int}  : ∀ (n : Nat) (x1 : Int32) (I : Nat → Int32) (A : Nat → Nat → Int32), TJ I → TK A → ((0 : Int) ≤ x1.toInt ∧ x1.toInt ≤ (4 : Int)) → ((I 38).toInt ≤ vv + x1.toInt ∧ vv ≤ 3900) → (5 - x1.toInt) < (n : Int) → Ok (f_readRights_23  n x1 I A) (fun o => TJ o.2.1 ∧ TK o.2.2 ∧ ((0 : Int) ≤ o.1.toInt ∧ o.1.toInt ≤ (1 : Int)) ∧ ((o.2.1 38).toInt ≤ vv + 4)) := by
  intro n
  induction n with
  | zero => intro x1 I A hI hA g0 g1  hm; exfalso; omega
  | succ n ih =>
    intro x1 I A hI hA g0 g1  hm
    exact t_readRights_23s (vv := vv)  (N23 := n)  ih hI hA g0 g1  (by omega)
theorem t_readRights_0 {vv : Int} {I : Nat → Int32} {A : Nat → Nat → Int32} (hI : TJ I) (hA : TK A) (q0 : (I 38).toInt ≤ vv ∧ vv ≤ 3900) : Ok (f_readRights_0 I A) (fun o => TJ o.2.1 ∧ TK o.2.2 ∧ ((0 : Int) ≤ o.1.toInt ∧ o.1.toInt ≤ (1 : Int)) ∧ ((o.2.1 38).toInt ≤ vv + 4)) := by
  unfold f_readRights_0
  have b_I_38 := tI_38 hI
  refine ok_bnd (fun I1 e47 => ?_)
  have hI_I1 : TJ I1 := e47.symm ▸ tj_w hI (k := 26) rfl
  have : (I1 38).toInt = (I 38).toInt := by rw [e47]; rfl
  obtain ⟨r2, h_r2, p_r2⟩ := ro (t_sign   hI_I1 hA )
  refine ok_clR h_r2 ?_
  dsimp only at p_r2
  refine ok_if (fun c48 => ?_) (fun c48 => ?_)
  ·
    replace c48 := ti_eqP c48 rfl (show (45 : Int32).toInt = 45 from rfl)
    have b_I1_38 := tI_38 hI_I1
    obtain ⟨⟨r3, Ic3, Ac3⟩, h_r3, hI_Ic3, hA_Ac3, p_r3, p_r3_0⟩ := t_pass (x1 := (45 : Int32))  hI_I1 hA (by have z0 : (45 : Int32).toInt = 45 := rfl; omega)
    replace hI_Ic3 : TJ Ic3 := hI_Ic3
    replace hA_Ac3 : TK Ac3 := hA_Ac3
    dsimp only at p_r3 p_r3_0
    refine ok_clR h_r3 ?_
    refine ok_chk (nar_b (by omega) (by omega)) ?_
    exact ok_ret ⟨hI_Ic3, hA_Ac3, (show (0 : Int) ≤ r3.toInt ∧ r3.toInt ≤ (1 : Int) from (by omega)), (by show (Ic3 38).toInt ≤ vv + 4; omega)⟩
  ·
    replace c48 := ti_eqN c48 rfl (show (45 : Int32).toInt = 45 from rfl)
    have b_I1_38 := tI_38 hI_I1
    exact t_readRights_23 (vv := vv)    mFuel (0 : Int32) I1 A hI_I1 hA (by decide) (by have z0 : (0 : Int32).toInt = 0 := rfl; omega) (by show _ < ((200000 : Nat) : Int); have z0 : (0 : Int32).toInt = 0 := rfl; omega)
theorem t_readRights {vv : Int} {I : Nat → Int32} {A : Nat → Nat → Int32}  (hI : TJ I) (hA : TK A) (q0 : (I 38).toInt ≤ vv ∧ vv ≤ 3900) : Ok (f_readRights  I A) (fun o => TJ o.2.1 ∧ TK o.2.2 ∧ ((0 : Int) ≤ o.1.toInt ∧ o.1.toInt ≤ (1 : Int)) ∧ ((o.2.1 38).toInt ≤ vv + 4)) := t_readRights_0 (vv := vv) hI hA q0
theorem t_readPassed_0  {I : Nat → Int32} {A : Nat → Nat → Int32} (hI : TJ I) (hA : TK A) (q0 : (I 38).toInt ≤ 3900) : Ok (f_readPassed_0 I A) (fun o => TJ o.2.1 ∧ TK o.2.2 ∧ ((0 : Int) ≤ o.1.toInt ∧ o.1.toInt ≤ (1 : Int)) ∧ ((o.2.1 38).toInt ≤ (I 38).toInt + 2)) := by
  unfold f_readPassed_0
  have b_I_38 := tI_38 hI
  refine ok_bnd (fun I1 e49 => ?_)
  have hI_I1 : TJ I1 := e49.symm ▸ tj_w hI (k := 27) rfl
  have : (I1 38).toInt = (I 38).toInt := by rw [e49]; rfl
  obtain ⟨r2, h_r2, p_r2⟩ := ro (t_sign   hI_I1 hA )
  refine ok_clR h_r2 ?_
  dsimp only at p_r2
  refine ok_if (fun c50 => ?_) (fun c50 => ?_)
  ·
    replace c50 := ti_eqP c50 rfl (show (45 : Int32).toInt = 45 from rfl)
    have b_I1_38 := tI_38 hI_I1
    obtain ⟨⟨r13, Ic13, Ac13⟩, h_r13, hI_Ic13, hA_Ac13, p_r13, p_r13_0⟩ := t_pass (x1 := (45 : Int32))  hI_I1 hA (by have z0 : (45 : Int32).toInt = 45 := rfl; omega)
    replace hI_Ic13 : TJ Ic13 := hI_Ic13
    replace hA_Ac13 : TK Ac13 := hA_Ac13
    dsimp only at p_r13 p_r13_0
    refine ok_clR h_r13 ?_
    refine ok_chk (nar_b (by omega) (by omega)) ?_
    exact ok_ret ⟨hI_Ic13, hA_Ac13, (show (0 : Int) ≤ r13.toInt ∧ r13.toInt ≤ (1 : Int) from (by omega)), (by show (Ic13 38).toInt ≤ (I 38).toInt + 2; omega)⟩
  ·
    replace c50 := ti_eqN c50 rfl (show (45 : Int32).toInt = 45 from rfl)
    obtain ⟨r3, h_r3, p_r3⟩ := ro (t_sign   hI_I1 hA )
    refine ok_clR h_r3 ?_
    dsimp only at p_r3
    refine ok_bnd (fun v4 e51 => ?_)
    have t_v4 : v4.toInt = r3.toInt - 97 := ti_sub e51 rfl (show (97 : Int32).toInt = 97 from rfl) (by omega) (by omega)
    refine ok_bnd (fun v5 e52 => ?_)
    have b_I1_38 := tI_38 hI_I1
    have t_v5 : v5.toInt = (I1 38).toInt + 1 := ti_add e52 rfl (show (1 : Int32).toInt = 1 from rfl) (by omega) (by omega)
    refine ok_bnd (fun I6 e53 => ?_)
    have hI_I6 : TJ I6 := e53.symm ▸ tj_u hI_I1 (k := 38) (show (0 : Int) ≤ v5.toInt from (by omega)) (show v5.toInt ≤ (4000 : Int) from (by omega))
    have : (I6 38).toInt = v5.toInt := by rw [e53]; exact rfl
    obtain ⟨r7, h_r7, p_r7⟩ := ro (t_sign   hI_I6 hA )
    refine ok_clR h_r7 ?_
    dsimp only at p_r7
    refine ok_bnd (fun v8 e54 => ?_)
    have t_v8 : v8.toInt = r7.toInt - 49 := ti_sub e54 rfl (show (49 : Int32).toInt = 49 from rfl) (by omega) (by omega)
    refine ok_bnd (fun v9 e55 => ?_)
    have b_I6_38 := tI_38 hI_I6
    have t_v9 : v9.toInt = (I6 38).toInt + 1 := ti_add e55 rfl (show (1 : Int32).toInt = 1 from rfl) (by omega) (by omega)
    refine ok_bnd (fun I10 e56 => ?_)
    have hI_I10 : TJ I10 := e56.symm ▸ tj_u hI_I6 (k := 38) (show (0 : Int) ≤ v9.toInt from (by omega)) (show v9.toInt ≤ (4000 : Int) from (by omega))
    have : (I10 38).toInt = v9.toInt := by rw [e56]; exact rfl
    refine ok_if (fun c57 => ?_) (fun c57 => ?_)
    ·
      replace c57 := ti_ltP c57 rfl (show (0 : Int32).toInt = 0 from rfl)
      unfold f_readPassed_87
      unfold f_readPassed_88
      refine ok_bnd (fun I1 e58 => ?_)
      have hI_I1 : TJ I1 := e58.symm ▸ tj_w hI_I10 (k := 27) rfl
      have : (I1 38).toInt = (I10 38).toInt := by rw [e58]; rfl
      refine ok_if (fun c59 => ?_) (fun c59 => ?_)
      ·
        replace c59 := ti_ltP c59 rfl (show (0 : Int32).toInt = 0 from rfl)
        unfold f_readPassed_103
        refine ok_chk (by decide) ?_
        exact ok_ret ⟨hI_I1, hA, (show (0 : Int) ≤ (0 : Int32).toInt ∧ (0 : Int32).toInt ≤ (1 : Int) from (by decide)), (by show (I1 38).toInt ≤ (I 38).toInt + 2; have z : (0 : Int32).toInt = 0 := rfl; omega)⟩
      ·
        replace c59 := ti_ltN c59 rfl (show (0 : Int32).toInt = 0 from rfl)
        unfold f_readPassed_103
        refine ok_chk (by decide) ?_
        exact ok_ret ⟨hI_I1, hA, (show (0 : Int) ≤ (1 : Int32).toInt ∧ (1 : Int32).toInt ≤ (1 : Int) from (by decide)), (by show (I1 38).toInt ≤ (I 38).toInt + 2; have z : (1 : Int32).toInt = 1 := rfl; omega)⟩
    ·
      replace c57 := ti_ltN c57 rfl (show (0 : Int32).toInt = 0 from rfl)
      refine ok_if (fun c60 => ?_) (fun c60 => ?_)
      ·
        replace c60 := ti_leP c60 (show (8 : Int32).toInt = 8 from rfl) rfl
        unfold f_readPassed_87
        unfold f_readPassed_88
        refine ok_bnd (fun I1 e61 => ?_)
        have hI_I1 : TJ I1 := e61.symm ▸ tj_w hI_I10 (k := 27) rfl
        have : (I1 38).toInt = (I10 38).toInt := by rw [e61]; rfl
        refine ok_if (fun c62 => ?_) (fun c62 => ?_)
        ·
          replace c62 := ti_ltP c62 rfl (show (0 : Int32).toInt = 0 from rfl)
          unfold f_readPassed_103
          refine ok_chk (by decide) ?_
          exact ok_ret ⟨hI_I1, hA, (show (0 : Int) ≤ (0 : Int32).toInt ∧ (0 : Int32).toInt ≤ (1 : Int) from (by decide)), (by show (I1 38).toInt ≤ (I 38).toInt + 2; have z : (0 : Int32).toInt = 0 := rfl; omega)⟩
        ·
          replace c62 := ti_ltN c62 rfl (show (0 : Int32).toInt = 0 from rfl)
          unfold f_readPassed_103
          refine ok_chk (by decide) ?_
          exact ok_ret ⟨hI_I1, hA, (show (0 : Int) ≤ (1 : Int32).toInt ∧ (1 : Int32).toInt ≤ (1 : Int) from (by decide)), (by show (I1 38).toInt ≤ (I 38).toInt + 2; have z : (1 : Int32).toInt = 1 := rfl; omega)⟩
      ·
        replace c60 := ti_leN c60 (show (8 : Int32).toInt = 8 from rfl) rfl
        refine ok_if (fun c63 => ?_) (fun c63 => ?_)
        ·
          replace c63 := ti_ltP c63 rfl (show (0 : Int32).toInt = 0 from rfl)
          unfold f_readPassed_87
          unfold f_readPassed_88
          refine ok_bnd (fun I1 e64 => ?_)
          have hI_I1 : TJ I1 := e64.symm ▸ tj_w hI_I10 (k := 27) rfl
          have : (I1 38).toInt = (I10 38).toInt := by rw [e64]; rfl
          refine ok_if (fun c65 => ?_) (fun c65 => ?_)
          ·
            replace c65 := ti_ltP c65 rfl (show (0 : Int32).toInt = 0 from rfl)
            unfold f_readPassed_103
            refine ok_chk (by decide) ?_
            exact ok_ret ⟨hI_I1, hA, (show (0 : Int) ≤ (0 : Int32).toInt ∧ (0 : Int32).toInt ≤ (1 : Int) from (by decide)), (by show (I1 38).toInt ≤ (I 38).toInt + 2; have z : (0 : Int32).toInt = 0 := rfl; omega)⟩
          ·
            replace c65 := ti_ltN c65 rfl (show (0 : Int32).toInt = 0 from rfl)
            unfold f_readPassed_103
            refine ok_chk (by decide) ?_
            exact ok_ret ⟨hI_I1, hA, (show (0 : Int) ≤ (1 : Int32).toInt ∧ (1 : Int32).toInt ≤ (1 : Int) from (by decide)), (by show (I1 38).toInt ≤ (I 38).toInt + 2; have z : (1 : Int32).toInt = 1 := rfl; omega)⟩
        ·
          replace c63 := ti_ltN c63 rfl (show (0 : Int32).toInt = 0 from rfl)
          refine ok_if (fun c66 => ?_) (fun c66 => ?_)
          ·
            replace c66 := ti_leP c66 (show (8 : Int32).toInt = 8 from rfl) rfl
            unfold f_readPassed_87
            unfold f_readPassed_88
            refine ok_bnd (fun I1 e67 => ?_)
            have hI_I1 : TJ I1 := e67.symm ▸ tj_w hI_I10 (k := 27) rfl
            have : (I1 38).toInt = (I10 38).toInt := by rw [e67]; rfl
            refine ok_if (fun c68 => ?_) (fun c68 => ?_)
            ·
              replace c68 := ti_ltP c68 rfl (show (0 : Int32).toInt = 0 from rfl)
              unfold f_readPassed_103
              refine ok_chk (by decide) ?_
              exact ok_ret ⟨hI_I1, hA, (show (0 : Int) ≤ (0 : Int32).toInt ∧ (0 : Int32).toInt ≤ (1 : Int) from (by decide)), (by show (I1 38).toInt ≤ (I 38).toInt + 2; have z : (0 : Int32).toInt = 0 := rfl; omega)⟩
            ·
              replace c68 := ti_ltN c68 rfl (show (0 : Int32).toInt = 0 from rfl)
              unfold f_readPassed_103
              refine ok_chk (by decide) ?_
              exact ok_ret ⟨hI_I1, hA, (show (0 : Int) ≤ (1 : Int32).toInt ∧ (1 : Int32).toInt ≤ (1 : Int) from (by decide)), (by show (I1 38).toInt ≤ (I 38).toInt + 2; have z : (1 : Int32).toInt = 1 := rfl; omega)⟩
          ·
            replace c66 := ti_leN c66 (show (8 : Int32).toInt = 8 from rfl) rfl
            refine ok_bnd (fun v11 e69 => ?_)
            have t_v11 : v11.toInt = 8 * v8.toInt := ti_mul e69 (show (8 : Int32).toInt = 8 from rfl) rfl (by omega) (by omega)
            refine ok_bnd (fun v12 e70 => ?_)
            have t_v12 : v12.toInt = v11.toInt + v4.toInt := ti_add e70 rfl rfl (by omega) (by omega)
            unfold f_readPassed_88
            refine ok_bnd (fun I1 e71 => ?_)
            have hI_I1 : TJ I1 := e71.symm ▸ tj_w hI_I10 (k := 27) rfl
            have : (I1 38).toInt = (I10 38).toInt := by rw [e71]; rfl
            refine ok_if (fun c72 => ?_) (fun c72 => ?_)
            ·
              replace c72 := ti_ltP c72 rfl (show (0 : Int32).toInt = 0 from rfl)
              unfold f_readPassed_103
              refine ok_chk (by decide) ?_
              exact ok_ret ⟨hI_I1, hA, (show (0 : Int) ≤ (0 : Int32).toInt ∧ (0 : Int32).toInt ≤ (1 : Int) from (by decide)), (by show (I1 38).toInt ≤ (I 38).toInt + 2; have z : (0 : Int32).toInt = 0 := rfl; omega)⟩
            ·
              replace c72 := ti_ltN c72 rfl (show (0 : Int32).toInt = 0 from rfl)
              unfold f_readPassed_103
              refine ok_chk (by decide) ?_
              exact ok_ret ⟨hI_I1, hA, (show (0 : Int) ≤ (1 : Int32).toInt ∧ (1 : Int32).toInt ≤ (1 : Int) from (by decide)), (by show (I1 38).toInt ≤ (I 38).toInt + 2; have z : (1 : Int32).toInt = 1 := rfl; omega)⟩
theorem t_readPassed  {I : Nat → Int32} {A : Nat → Nat → Int32}  (hI : TJ I) (hA : TK A) (q0 : (I 38).toInt ≤ 3900) : Ok (f_readPassed  I A) (fun o => TJ o.2.1 ∧ TK o.2.2 ∧ ((0 : Int) ≤ o.1.toInt ∧ o.1.toInt ≤ (1 : Int)) ∧ ((o.2.1 38).toInt ≤ (I 38).toInt + 2)) := t_readPassed_0  hI hA q0
theorem t_countOf_27  {I : Nat → Int32} {A : Nat → Nat → Int32} {self4 : Int32 → Int32 → Int32 → (Nat → Int32) → (Nat → Nat → Int32) → Option (Int32 × MS)} {N4 : Nat} (hself4 : ∀ (x1 : Int32) (x2 : Int32) (x3 : Int32),  ((0 : Int) ≤ x2.toInt ∧ x2.toInt ≤ (64 : Int)) → ((0 : Int) ≤ x3.toInt ∧ x3.toInt ≤ (64 : Int)) → (x2.toInt ≤ x3.toInt) → (65 - x3.toInt) < (N4 : Int) → Ok (self4 x1 x2 x3 I A) (fun o => o.2 = (I, A) ∧ ((0 : Int) ≤ o.1.toInt ∧ o.1.toInt ≤ (64 : Int)))) {x1 : Int32} {x3 : Int32} {t0 : Int32} (hI : TJ I) (hA : TK A) (r_x3 : (0 : Int) ≤ x3.toInt ∧ x3.toInt ≤ (63 : Int)) (r_t0 : (0 : Int) ≤ t0.toInt ∧ t0.toInt ≤ (64 : Int)) (q0 : t0.toInt ≤ x3.toInt + 1) (m4 : (65 - x3.toInt) ≤ (N4 : Int)) : Ok (f_countOf_27 self4 x1 x3 t0 I A) (fun o => o.2 = (I, A) ∧ ((0 : Int) ≤ o.1.toInt ∧ o.1.toInt ≤ (64 : Int))) := by
  unfold f_countOf_27
  refine ok_bnd (fun v1 e73 => ?_)
  have t_v1 : v1.toInt = x3.toInt + 1 := ti_add e73 rfl (show (1 : Int32).toInt = 1 from rfl) (by omega) (by omega)
  exact hself4 x1 t0 v1 r_t0 (by omega) (by omega) (by omega)
theorem t_countOf_4s  {I : Nat → Int32} {A : Nat → Nat → Int32} {self4 : Int32 → Int32 → Int32 → (Nat → Int32) → (Nat → Nat → Int32) → Option (Int32 × MS)} {N4 : Nat} (hself4 : ∀ (x1 : Int32) (x2 : Int32) (x3 : Int32),  ((0 : Int) ≤ x2.toInt ∧ x2.toInt ≤ (64 : Int)) → ((0 : Int) ≤ x3.toInt ∧ x3.toInt ≤ (64 : Int)) → (x2.toInt ≤ x3.toInt) → (65 - x3.toInt) < (N4 : Int) → Ok (self4 x1 x2 x3 I A) (fun o => o.2 = (I, A) ∧ ((0 : Int) ≤ o.1.toInt ∧ o.1.toInt ≤ (64 : Int)))) {x1 : Int32} {x2 : Int32} {x3 : Int32} (hI : TJ I) (hA : TK A) (r_x2 : (0 : Int) ≤ x2.toInt ∧ x2.toInt ≤ (64 : Int)) (r_x3 : (0 : Int) ≤ x3.toInt ∧ x3.toInt ≤ (64 : Int)) (q0 : x2.toInt ≤ x3.toInt) (m4 : (65 - x3.toInt) ≤ (N4 : Int)) : Ok (f_countOf_4s self4 x1 x2 x3 I A) (fun o => o.2 = (I, A) ∧ ((0 : Int) ≤ o.1.toInt ∧ o.1.toInt ≤ (64 : Int))) := by
  unfold f_countOf_4s
  refine ok_if (fun c74 => ?_) (fun c74 => ?_)
  ·
    replace c74 := ti_leP c74 (show (64 : Int32).toInt = 64 from rfl) rfl
    exact ok_ret ⟨rfl, (show (0 : Int) ≤ x2.toInt ∧ x2.toInt ≤ (64 : Int) from (by omega))⟩
  ·
    replace c74 := ti_leN c74 (show (64 : Int32).toInt = 64 from rfl) rfl
    refine ok_chk (ti_in (by omega) (by omega)) ?_
    refine ok_bnd (fun v1 e75 => ?_)
    refine ok_if (fun c76 => ?_) (fun c76 => ?_)
    ·
      replace c76 := ti_eqP c76 rfl rfl
      refine ok_bnd (fun v2 e77 => ?_)
      have t_v2 : v2.toInt = x2.toInt + 1 := ti_add e77 rfl (show (1 : Int32).toInt = 1 from rfl) (by omega) (by omega)
      exact t_countOf_27   hself4 (x1 := x1) (x3 := x3) (t0 := v2) hI hA (by omega) (by omega) (by omega) m4
    ·
      replace c76 := ti_eqN c76 rfl rfl
      exact t_countOf_27   hself4 (x1 := x1) (x3 := x3) (t0 := x2) hI hA (by omega) r_x2 (by omega) m4
theorem t_countOf_4  {I : Nat → Int32} {A : Nat → Nat → Int32} (hI : TJ I) (hA : TK A) : ∀ (n : Nat) (x1 : Int32) (x2 : Int32) (x3 : Int32),  ((0 : Int) ≤ x2.toInt ∧ x2.toInt ≤ (64 : Int)) → ((0 : Int) ≤ x3.toInt ∧ x3.toInt ≤ (64 : Int)) → (x2.toInt ≤ x3.toInt) → (65 - x3.toInt) < (n : Int) → Ok (f_countOf_4  n x1 x2 x3 I A) (fun o => o.2 = (I, A) ∧ ((0 : Int) ≤ o.1.toInt ∧ o.1.toInt ≤ (64 : Int))) := by
  intro n
  induction n with
  | zero => intro x1 x2 x3 g0 g1 g2  hm; exfalso; omega
  | succ n ih =>
    intro x1 x2 x3 g0 g1 g2  hm
    exact t_countOf_4s   (N4 := n)  ih hI hA g0 g1 g2  (by omega)
theorem t_countOf_0  {I : Nat → Int32} {A : Nat → Nat → Int32} {x1 : Int32} (hI : TJ I) (hA : TK A) : Ok (f_countOf_0 x1 I A) (fun o => o.2 = (I, A) ∧ ((0 : Int) ≤ o.1.toInt ∧ o.1.toInt ≤ (64 : Int))) := by
  unfold f_countOf_0
  exact t_countOf_4    hI hA mFuel x1 (0 : Int32) (0 : Int32)  (by decide) (by decide) (by have z0 : (0 : Int32).toInt = 0 := rfl; have z1 : (0 : Int32).toInt = 0 := rfl; omega) (by show _ < ((200000 : Nat) : Int); have z0 : (0 : Int32).toInt = 0 := rfl; have z1 : (0 : Int32).toInt = 0 := rfl; omega)
theorem t_countOf  {I : Nat → Int32} {A : Nat → Nat → Int32} {x1 : Int32} (hI : TJ I) (hA : TK A) : Ok (f_countOf x1 I A) (fun o => o.2 = (I, A) ∧ ((0 : Int) ≤ o.1.toInt ∧ o.1.toInt ≤ (64 : Int))) := t_countOf_0  hI hA 
theorem t_mayStand_320  {I : Nat → Int32} {A : Nat → Nat → Int32} {x3 : Int32} {t0 : Int32} (hI : TJ I) (hA : TK A) (r_x3 : (0 : Int) ≤ x3.toInt ∧ x3.toInt ≤ (1 : Int)) (r_t0 : (-1 : Int) ≤ t0.toInt ∧ t0.toInt ≤ (1 : Int)) (q0 : x3.toInt = 1 → 0 ≤ (I 27).toInt ∧ (I 27).toInt ≤ 63) : Ok (f_mayStand_320 x3 t0 I A) (fun o => o.2 = (I, A) ∧ ((0 : Int) ≤ o.1.toInt ∧ o.1.toInt ≤ (1 : Int))) := by
  unfold f_mayStand_320
  refine ok_if (fun c78 => ?_) (fun c78 => ?_)
  ·
    replace c78 := ti_eqP c78 rfl (show (0 : Int32).toInt = 0 from rfl)
    unfold f_mayStand_382
    unfold f_mayStand_383
    refine ok_chk (by decide) ?_
    exact ok_ret ⟨rfl, (show (0 : Int) ≤ (0 : Int32).toInt ∧ (0 : Int32).toInt ≤ (1 : Int) from (by decide))⟩
  ·
    replace c78 := ti_eqN c78 rfl (show (0 : Int32).toInt = 0 from rfl)
    obtain ⟨r1, h_r1, p_r1⟩ := ro (t_step (x0 := (I 27)) (x1 := (-1 : Int32)) (x2 := t0)  hI hA (by omega) (by decide) (by omega))
    refine ok_clR h_r1 ?_
    dsimp only at p_r1
    refine ok_bnd (fun v2 e79 => ?_)
    have b_I_25 := tI_25 hI
    have t_v2 : v2.toInt = 8 * (I 25).toInt := ti_mul e79 (show (8 : Int32).toInt = 8 from rfl) rfl (by omega) (by omega)
    refine ok_bnd (fun v3 e80 => ?_)
    have t_v3 : v3.toInt = 1 + v2.toInt := ti_add e80 (show (1 : Int32).toInt = 1 from rfl) rfl (by omega) (by omega)
    obtain ⟨r4, h_r4, p_r4⟩ := ro (t_stands (x1 := r1) (x2 := v3)  hI hA (by omega))
    refine ok_clR h_r4 ?_
    dsimp only at p_r4
    refine ok_if (fun c81 => ?_) (fun c81 => ?_)
    ·
      replace c81 := ti_eqP c81 rfl (show (0 : Int32).toInt = 0 from rfl)
      obtain ⟨r5, h_r5, p_r5⟩ := ro (t_step (x0 := (I 27)) (x1 := (1 : Int32)) (x2 := t0)  hI hA (by omega) (by decide) (by omega))
      refine ok_clR h_r5 ?_
      dsimp only at p_r5
      refine ok_bnd (fun v6 e82 => ?_)
      have t_v6 : v6.toInt = 8 * (I 25).toInt := ti_mul e82 (show (8 : Int32).toInt = 8 from rfl) rfl (by omega) (by omega)
      refine ok_bnd (fun v7 e83 => ?_)
      have t_v7 : v7.toInt = 1 + v6.toInt := ti_add e83 (show (1 : Int32).toInt = 1 from rfl) rfl (by omega) (by omega)
      obtain ⟨r8, h_r8, p_r8⟩ := ro (t_stands (x1 := r5) (x2 := v7)  hI hA (by omega))
      refine ok_clR h_r8 ?_
      dsimp only at p_r8
      refine ok_if (fun c84 => ?_) (fun c84 => ?_)
      ·
        replace c84 := ti_eqP c84 rfl (show (0 : Int32).toInt = 0 from rfl)
        unfold f_mayStand_382
        unfold f_mayStand_383
        refine ok_chk (by decide) ?_
        exact ok_ret ⟨rfl, (show (0 : Int) ≤ (0 : Int32).toInt ∧ (0 : Int32).toInt ≤ (1 : Int) from (by decide))⟩
      ·
        replace c84 := ti_eqN c84 rfl (show (0 : Int32).toInt = 0 from rfl)
        unfold f_mayStand_378
        unfold f_mayStand_383
        refine ok_chk (by decide) ?_
        exact ok_ret ⟨rfl, (show (0 : Int) ≤ (1 : Int32).toInt ∧ (1 : Int32).toInt ≤ (1 : Int) from (by decide))⟩
    ·
      replace c81 := ti_eqN c81 rfl (show (0 : Int32).toInt = 0 from rfl)
      unfold f_mayStand_378
      unfold f_mayStand_383
      refine ok_chk (by decide) ?_
      exact ok_ret ⟨rfl, (show (0 : Int) ≤ (1 : Int32).toInt ∧ (1 : Int32).toInt ≤ (1 : Int) from (by decide))⟩
theorem t_mayStand_307  {I : Nat → Int32} {A : Nat → Nat → Int32} {t0 : Int32} (hI : TJ I) (hA : TK A) (r_t0 : (0 : Int) ≤ t0.toInt ∧ t0.toInt ≤ (1 : Int)) (q0 : t0.toInt = 1 → 0 ≤ (I 27).toInt ∧ (I 27).toInt ≤ 63) : Ok (f_mayStand_307 t0 I A) (fun o => o.2 = (I, A) ∧ ((0 : Int) ≤ o.1.toInt ∧ o.1.toInt ≤ (1 : Int))) := by
  unfold f_mayStand_307
  have b_I_25 := tI_25 hI
  refine ok_if (fun c85 => ?_) (fun c85 => ?_)
  ·
    replace c85 := ti_eqP c85 rfl (show (0 : Int32).toInt = 0 from rfl)
    exact t_mayStand_320    (x3 := t0) (t0 := (-1 : Int32)) hI hA r_t0 (by decide) q0
  ·
    replace c85 := ti_eqN c85 rfl (show (0 : Int32).toInt = 0 from rfl)
    exact t_mayStand_320    (x3 := t0) (t0 := (1 : Int32)) hI hA r_t0 (by decide) q0
theorem t_mayStand_258  {I : Nat → Int32} {A : Nat → Nat → Int32} {x2 : Int32} {t0 : Int32} (hI : TJ I) (hA : TK A) (r_x2 : (-8 : Int) ≤ x2.toInt ∧ x2.toInt ≤ (8 : Int)) (r_t0 : (0 : Int) ≤ t0.toInt ∧ t0.toInt ≤ (1 : Int)) (q0 : t0.toInt = 1 → 16 ≤ (I 27).toInt ∧ (I 27).toInt ≤ 47) : Ok (f_mayStand_258 x2 t0 I A) (fun o => o.2 = (I, A) ∧ ((0 : Int) ≤ o.1.toInt ∧ o.1.toInt ≤ (1 : Int))) := by
  unfold f_mayStand_258
  refine ok_if (fun c86 => ?_) (fun c86 => ?_)
  ·
    replace c86 := ti_eqP c86 rfl (show (0 : Int32).toInt = 0 from rfl)
    unfold f_mayStand_306
    exact t_mayStand_307    (t0 := (0 : Int32)) hI hA (by decide) (by have z0 : (0 : Int32).toInt = 0 := rfl; omega)
  ·
    replace c86 := ti_eqN c86 rfl (show (0 : Int32).toInt = 0 from rfl)
    refine ok_bnd (fun v1 e87 => ?_)
    have t_v1 : v1.toInt = (I 27).toInt + x2.toInt := ti_add e87 rfl rfl (by omega) (by omega)
    refine ok_chk (ti_in (by omega) (by omega)) ?_
    refine ok_bnd (fun v2 e88 => ?_)
    refine ok_if (fun c89 => ?_) (fun c89 => ?_)
    ·
      replace c89 := ti_eqP c89 rfl (show (0 : Int32).toInt = 0 from rfl)
      refine ok_bnd (fun v3 e90 => ?_)
      have t_v3 : v3.toInt = (I 27).toInt - x2.toInt := ti_sub e90 rfl rfl (by omega) (by omega)
      refine ok_chk (ti_in (by omega) (by omega)) ?_
      refine ok_bnd (fun v4 e91 => ?_)
      refine ok_bnd (fun v5 e92 => ?_)
      have b_I_25 := tI_25 hI
      have t_v5 : v5.toInt = 1 - (I 25).toInt := ti_sub e92 (show (1 : Int32).toInt = 1 from rfl) rfl (by omega) (by omega)
      refine ok_bnd (fun v6 e93 => ?_)
      have t_v6 : v6.toInt = 8 * v5.toInt := ti_mul e93 (show (8 : Int32).toInt = 8 from rfl) rfl (by omega) (by omega)
      refine ok_bnd (fun v7 e94 => ?_)
      have t_v7 : v7.toInt = 1 + v6.toInt := ti_add e94 (show (1 : Int32).toInt = 1 from rfl) rfl (by omega) (by omega)
      refine ok_if (fun c95 => ?_) (fun c95 => ?_)
      ·
        replace c95 := ti_eqP c95 rfl rfl
        exact t_mayStand_307    (t0 := (1 : Int32)) hI hA (by decide) (by have z0 : (1 : Int32).toInt = 1 := rfl; omega)
      ·
        replace c95 := ti_eqN c95 rfl rfl
        unfold f_mayStand_306
        exact t_mayStand_307    (t0 := (0 : Int32)) hI hA (by decide) (by have z0 : (0 : Int32).toInt = 0 := rfl; omega)
    ·
      replace c89 := ti_eqN c89 rfl (show (0 : Int32).toInt = 0 from rfl)
      unfold f_mayStand_306
      exact t_mayStand_307    (t0 := (0 : Int32)) hI hA (by decide) (by have z0 : (0 : Int32).toInt = 0 := rfl; omega)
theorem t_mayStand_238  {I : Nat → Int32} {A : Nat → Nat → Int32} {x2 : Int32} {t0 : Int32} {t1 : Int32} (hI : TJ I) (hA : TK A) (r_x2 : (-8 : Int) ≤ x2.toInt ∧ x2.toInt ≤ (8 : Int)) (r_t0 : (2 : Int) ≤ t0.toInt ∧ t0.toInt ≤ (5 : Int)) (q0 : t1.toInt = (I 27).toInt / 8 ∧ 0 ≤ (I 27).toInt) (q1 : t0.toInt = 5 ∨ t0.toInt = 2) : Ok (f_mayStand_238 x2 t0 t1 I A) (fun o => o.2 = (I, A) ∧ ((0 : Int) ≤ o.1.toInt ∧ o.1.toInt ≤ (1 : Int))) := by
  unfold f_mayStand_238
  refine ok_if (fun c96 => ?_) (fun c96 => ?_)
  ·
    replace c96 := ti_eqP c96 rfl rfl
    refine ok_chk (ti_in (by omega) (by omega)) ?_
    refine ok_bnd (fun v1 e97 => ?_)
    refine ok_if (fun c98 => ?_) (fun c98 => ?_)
    ·
      replace c98 := ti_eqP c98 rfl (show (0 : Int32).toInt = 0 from rfl)
      exact t_mayStand_258    (x2 := x2) (t0 := (1 : Int32)) hI hA r_x2 (by decide) (by have z0 : (1 : Int32).toInt = 1 := rfl; omega)
    ·
      replace c98 := ti_eqN c98 rfl (show (0 : Int32).toInt = 0 from rfl)
      unfold f_mayStand_257
      exact t_mayStand_258    (x2 := x2) (t0 := (0 : Int32)) hI hA r_x2 (by decide) (by have z0 : (0 : Int32).toInt = 0 := rfl; omega)
  ·
    replace c96 := ti_eqN c96 rfl rfl
    unfold f_mayStand_257
    exact t_mayStand_258    (x2 := x2) (t0 := (0 : Int32)) hI hA r_x2 (by decide) (by have z0 : (0 : Int32).toInt = 0 := rfl; omega)
theorem t_mayStand_218  {I : Nat → Int32} {A : Nat → Nat → Int32} {t0 : Int32} (hI : TJ I) (hA : TK A) (r_t0 : (-8 : Int) ≤ t0.toInt ∧ t0.toInt ≤ (8 : Int)) (q0 : 0 ≤ (I 27).toInt) : Ok (f_mayStand_218 t0 I A) (fun o => o.2 = (I, A) ∧ ((0 : Int) ≤ o.1.toInt ∧ o.1.toInt ≤ (1 : Int))) := by
  unfold f_mayStand_218
  refine ok_bnd (fun v1 e99 => ?_)
  have t_v1 : v1.toInt = (I 27).toInt / 8 := ti_div e99 rfl (show (8 : Int32).toInt = 8 from rfl) (by omega) (by decide)
  have b_I_25 := tI_25 hI
  refine ok_if (fun c100 => ?_) (fun c100 => ?_)
  ·
    replace c100 := ti_eqP c100 rfl (show (0 : Int32).toInt = 0 from rfl)
    exact t_mayStand_238    (x2 := t0) (t0 := (5 : Int32)) (t1 := v1) hI hA r_t0 (by decide) (by have z0 : (5 : Int32).toInt = 5 := rfl; omega) (by have z0 : (5 : Int32).toInt = 5 := rfl; omega)
  ·
    replace c100 := ti_eqN c100 rfl (show (0 : Int32).toInt = 0 from rfl)
    exact t_mayStand_238    (x2 := t0) (t0 := (2 : Int32)) (t1 := v1) hI hA r_t0 (by decide) (by have z0 : (2 : Int32).toInt = 2 := rfl; omega) (by have z0 : (2 : Int32).toInt = 2 := rfl; omega)
theorem t_mayStand_184  {I : Nat → Int32} {A : Nat → Nat → Int32} {self102 : Int32 → Int32 → (Nat → Int32) → (Nat → Nat → Int32) → Option (Int32 × MS)} {N102 : Nat} (hself102 : ∀ (x1 : Int32) (x2 : Int32),  ((0 : Int) ≤ x1.toInt ∧ x1.toInt ≤ (1 : Int)) → ((0 : Int) ≤ x2.toInt ∧ x2.toInt ≤ (4 : Int)) → (5 - x2.toInt) < (N102 : Int) → Ok (self102 x1 x2 I A) (fun o => o.2 = (I, A) ∧ ((0 : Int) ≤ o.1.toInt ∧ o.1.toInt ≤ (1 : Int)))) {x2 : Int32} {t0 : Int32} (hI : TJ I) (hA : TK A) (r_x2 : (0 : Int) ≤ x2.toInt ∧ x2.toInt ≤ (3 : Int)) (r_t0 : (0 : Int) ≤ t0.toInt ∧ t0.toInt ≤ (1 : Int)) (m102 : (5 - x2.toInt) ≤ (N102 : Int)) : Ok (f_mayStand_184 self102 x2 t0 I A) (fun o => o.2 = (I, A) ∧ ((0 : Int) ≤ o.1.toInt ∧ o.1.toInt ≤ (1 : Int))) := by
  unfold f_mayStand_184
  refine ok_bnd (fun v1 e101 => ?_)
  have t_v1 : v1.toInt = x2.toInt + 1 := ti_add e101 rfl (show (1 : Int32).toInt = 1 from rfl) (by omega) (by omega)
  exact hself102 t0 v1 r_t0 (by omega) (by omega)
theorem t_mayStand_170  {I : Nat → Int32} {A : Nat → Nat → Int32} {self102 : Int32 → Int32 → (Nat → Int32) → (Nat → Nat → Int32) → Option (Int32 × MS)} {N102 : Nat} (hself102 : ∀ (x1 : Int32) (x2 : Int32),  ((0 : Int) ≤ x1.toInt ∧ x1.toInt ≤ (1 : Int)) → ((0 : Int) ≤ x2.toInt ∧ x2.toInt ≤ (4 : Int)) → (5 - x2.toInt) < (N102 : Int) → Ok (self102 x1 x2 I A) (fun o => o.2 = (I, A) ∧ ((0 : Int) ≤ o.1.toInt ∧ o.1.toInt ≤ (1 : Int)))) {x2 : Int32} {x4 : Int32} {t0 : Int32} {t1 : Int32} (hI : TJ I) (hA : TK A) (r_x2 : (0 : Int) ≤ x2.toInt ∧ x2.toInt ≤ (3 : Int)) (r_x4 : (0 : Int) ≤ x4.toInt ∧ x4.toInt ≤ (8 : Int)) (r_t0 : (0 : Int) ≤ t0.toInt ∧ t0.toInt ≤ (7 : Int)) (r_t1 : (0 : Int) ≤ t1.toInt ∧ t1.toInt ≤ (56 : Int)) (m102 : (5 - x2.toInt) ≤ (N102 : Int)) : Ok (f_mayStand_170 self102 x2 x4 t0 t1 I A) (fun o => o.2 = (I, A) ∧ ((0 : Int) ≤ o.1.toInt ∧ o.1.toInt ≤ (1 : Int))) := by
  unfold f_mayStand_170
  refine ok_bnd (fun v1 e102 => ?_)
  have t_v1 : v1.toInt = t1.toInt + t0.toInt := ti_add e102 rfl rfl (by omega) (by omega)
  refine ok_chk (ti_in (by omega) (by omega)) ?_
  refine ok_bnd (fun v2 e103 => ?_)
  refine ok_bnd (fun v3 e104 => ?_)
  have t_v3 : v3.toInt = 4 + x4.toInt := ti_add e104 (show (4 : Int32).toInt = 4 from rfl) rfl (by omega) (by omega)
  refine ok_if (fun c105 => ?_) (fun c105 => ?_)
  ·
    replace c105 := ti_eqP c105 rfl rfl
    unfold f_mayStand_179
    exact t_mayStand_184   hself102 (x2 := x2) (t0 := (1 : Int32)) hI hA r_x2 (by decide) m102
  ·
    replace c105 := ti_eqN c105 rfl rfl
    unfold f_mayStand_183
    exact t_mayStand_184   hself102 (x2 := x2) (t0 := (0 : Int32)) hI hA r_x2 (by decide) m102
theorem t_mayStand_102s  {I : Nat → Int32} {A : Nat → Nat → Int32} {self102 : Int32 → Int32 → (Nat → Int32) → (Nat → Nat → Int32) → Option (Int32 × MS)} {N102 : Nat} (hself102 : ∀ (x1 : Int32) (x2 : Int32),  ((0 : Int) ≤ x1.toInt ∧ x1.toInt ≤ (1 : Int)) → ((0 : Int) ≤ x2.toInt ∧ x2.toInt ≤ (4 : Int)) → (5 - x2.toInt) < (N102 : Int) → Ok (self102 x1 x2 I A) (fun o => o.2 = (I, A) ∧ ((0 : Int) ≤ o.1.toInt ∧ o.1.toInt ≤ (1 : Int)))) {x1 : Int32} {x2 : Int32} (hI : TJ I) (hA : TK A) (r_x1 : (0 : Int) ≤ x1.toInt ∧ x1.toInt ≤ (1 : Int)) (r_x2 : (0 : Int) ≤ x2.toInt ∧ x2.toInt ≤ (4 : Int)) (m102 : (5 - x2.toInt) ≤ (N102 : Int)) : Ok (f_mayStand_102s self102 x1 x2 I A) (fun o => o.2 = (I, A) ∧ ((0 : Int) ≤ o.1.toInt ∧ o.1.toInt ≤ (1 : Int))) := by
  unfold f_mayStand_102s
  refine ok_if (fun c106 => ?_) (fun c106 => ?_)
  ·
    replace c106 := ti_leP c106 (show (4 : Int32).toInt = 4 from rfl) rfl
    refine ok_if (fun c107 => ?_) (fun c107 => ?_)
    ·
      replace c107 := ti_ltP c107 rfl (show (0 : Int32).toInt = 0 from rfl)
      unfold f_mayStand_202
      refine ok_chk (nar_b (by omega) (by omega)) ?_
      exact ok_ret ⟨rfl, (show (0 : Int) ≤ x1.toInt ∧ x1.toInt ≤ (1 : Int) from (by omega))⟩
    ·
      replace c107 := ti_ltN c107 rfl (show (0 : Int32).toInt = 0 from rfl)
      refine ok_if (fun c108 => ?_) (fun c108 => ?_)
      ·
        replace c108 := ti_eqP c108 rfl (show (0 : Int32).toInt = 0 from rfl)
        unfold f_mayStand_202
        refine ok_chk (nar_b (by omega) (by omega)) ?_
        exact ok_ret ⟨rfl, (show (0 : Int) ≤ x1.toInt ∧ x1.toInt ≤ (1 : Int) from (by omega))⟩
      ·
        replace c108 := ti_eqN c108 rfl (show (0 : Int32).toInt = 0 from rfl)
        have b_I_25 := tI_25 hI
        refine ok_if (fun c109 => ?_) (fun c109 => ?_)
        ·
          replace c109 := ti_eqP c109 rfl (show (0 : Int32).toInt = 0 from rfl)
          exact t_mayStand_218    (t0 := (8 : Int32)) hI hA (by decide) (by have z0 : (8 : Int32).toInt = 8 := rfl; omega)
        ·
          replace c109 := ti_eqN c109 rfl (show (0 : Int32).toInt = 0 from rfl)
          exact t_mayStand_218    (t0 := (-8 : Int32)) hI hA (by decide) (by have z0 : (-8 : Int32).toInt = -8 := rfl; omega)
  ·
    replace c106 := ti_leN c106 (show (4 : Int32).toInt = 4 from rfl) rfl
    refine ok_bnd (fun v1 e110 => ?_)
    have t_v1 : v1.toInt = x2.toInt / 2 := ti_div e110 rfl (show (2 : Int32).toInt = 2 from rfl) (by omega) (by decide)
    refine ok_bnd (fun v2 e111 => ?_)
    have t_v2 : v2.toInt = 56 * v1.toInt := ti_mul e111 (show (56 : Int32).toInt = 56 from rfl) rfl (by omega) (by omega)
    refine ok_bnd (fun v3 e112 => ?_)
    have t_v3 : v3.toInt = x2.toInt / 2 := ti_div e112 rfl (show (2 : Int32).toInt = 2 from rfl) (by omega) (by decide)
    refine ok_bnd (fun v4 e113 => ?_)
    have t_v4 : v4.toInt = 8 * v3.toInt := ti_mul e113 (show (8 : Int32).toInt = 8 from rfl) rfl (by omega) (by omega)
    refine ok_if (fun c114 => ?_) (fun c114 => ?_)
    ·
      replace c114 := ti_eqP c114 rfl (show (0 : Int32).toInt = 0 from rfl)
      unfold f_mayStand_183
      exact t_mayStand_184   hself102 (x2 := x2) (t0 := (0 : Int32)) hI hA (by omega) (by decide) m102
    ·
      replace c114 := ti_eqN c114 rfl (show (0 : Int32).toInt = 0 from rfl)
      refine ok_bnd (fun v5 e115 => ?_)
      refine ok_bnd (fun v6 e116 => ?_)
      have t_v6 := ti_and e116 (show (1 : Int32).toBitVec.toNat = 1 from rfl) (by decide)
      refine ok_if (fun c117 => ?_) (fun c117 => ?_)
      ·
        replace c117 := ti_eqP c117 rfl (show (0 : Int32).toInt = 0 from rfl)
        unfold f_mayStand_179
        exact t_mayStand_184   hself102 (x2 := x2) (t0 := (1 : Int32)) hI hA (by omega) (by decide) m102
      ·
        replace c117 := ti_eqN c117 rfl (show (0 : Int32).toInt = 0 from rfl)
        refine ok_bnd (fun v7 e118 => ?_)
        have t_v7 : v7.toInt = v2.toInt + 4 := ti_add e118 rfl (show (4 : Int32).toInt = 4 from rfl) (by omega) (by omega)
        refine ok_chk (ti_in (by omega) (by omega)) ?_
        refine ok_bnd (fun v8 e119 => ?_)
        refine ok_bnd (fun v9 e120 => ?_)
        have t_v9 : v9.toInt = 6 + v4.toInt := ti_add e120 (show (6 : Int32).toInt = 6 from rfl) rfl (by omega) (by omega)
        refine ok_if (fun c121 => ?_) (fun c121 => ?_)
        ·
          replace c121 := ti_eqP c121 rfl rfl
          refine ok_bnd (fun v10 e122 => ?_)
          have t_v10 : v10.toInt = x2.toInt % 2 := ti_rem e122 rfl (show (2 : Int32).toInt = 2 from rfl) (by omega) (by decide)
          refine ok_if (fun c123 => ?_) (fun c123 => ?_)
          ·
            replace c123 := ti_eqP c123 rfl (show (0 : Int32).toInt = 0 from rfl)
            exact t_mayStand_170   hself102 (x2 := x2) (x4 := v4) (t0 := (7 : Int32)) (t1 := v2) hI hA (by omega) (by omega) (by decide) (by omega) m102
          ·
            replace c123 := ti_eqN c123 rfl (show (0 : Int32).toInt = 0 from rfl)
            exact t_mayStand_170   hself102 (x2 := x2) (x4 := v4) (t0 := (0 : Int32)) (t1 := v2) hI hA (by omega) (by omega) (by decide) (by omega) m102
        ·
          replace c121 := ti_eqN c121 rfl rfl
          unfold f_mayStand_183
          exact t_mayStand_184   hself102 (x2 := x2) (t0 := (0 : Int32)) hI hA (by omega) (by decide) m102
theorem t_mayStand_102  {I : Nat → Int32} {A : Nat → Nat → Int32} (hI : TJ I) (hA : TK A) : ∀ (n : Nat) (x1 : Int32) (x2 : Int32),  ((0 : Int) ≤ x1.toInt ∧ x1.toInt ≤ (1 : Int)) → ((0 : Int) ≤ x2.toInt ∧ x2.toInt ≤ (4 : Int)) → (5 - x2.toInt) < (n : Int) → Ok (f_mayStand_102  n x1 x2 I A) (fun o => o.2 = (I, A) ∧ ((0 : Int) ≤ o.1.toInt ∧ o.1.toInt ≤ (1 : Int))) := by
  intro n
  induction n with
  | zero => intro x1 x2 g0 g1  hm; exfalso; omega
  | succ n ih =>
    intro x1 x2 g0 g1  hm
    exact t_mayStand_102s   (N102 := n)  ih hI hA g0 g1  (by omega)
theorem t_mayStand_99  {I : Nat → Int32} {A : Nat → Nat → Int32} {t0 : Int32} (hI : TJ I) (hA : TK A) (r_t0 : (0 : Int) ≤ t0.toInt ∧ t0.toInt ≤ (1 : Int)) : Ok (f_mayStand_99 t0 I A) (fun o => o.2 = (I, A) ∧ ((0 : Int) ≤ o.1.toInt ∧ o.1.toInt ≤ (1 : Int))) := by
  unfold f_mayStand_99
  exact t_mayStand_102    hI hA mFuel t0 (0 : Int32)  r_t0 (by decide) (by show _ < ((200000 : Nat) : Int); have z0 : (0 : Int32).toInt = 0 := rfl; omega)
theorem t_mayStand_70  {I : Nat → Int32} {A : Nat → Nat → Int32} {self26 : Int32 → Int32 → (Nat → Int32) → (Nat → Nat → Int32) → Option (Int32 × MS)} {N26 : Nat} (hself26 : ∀ (x1 : Int32) (x2 : Int32),  ((0 : Int) ≤ x1.toInt ∧ x1.toInt ≤ (1 : Int)) → ((0 : Int) ≤ x2.toInt ∧ x2.toInt ≤ (8 : Int)) → (9 - x2.toInt) < (N26 : Int) → Ok (self26 x1 x2 I A) (fun o => o.2 = (I, A) ∧ ((0 : Int) ≤ o.1.toInt ∧ o.1.toInt ≤ (1 : Int)))) {x2 : Int32} {t0 : Int32} (hI : TJ I) (hA : TK A) (r_x2 : (0 : Int) ≤ x2.toInt ∧ x2.toInt ≤ (7 : Int)) (r_t0 : (0 : Int) ≤ t0.toInt ∧ t0.toInt ≤ (1 : Int)) (m26 : (9 - x2.toInt) ≤ (N26 : Int)) : Ok (f_mayStand_70 self26 x2 t0 I A) (fun o => o.2 = (I, A) ∧ ((0 : Int) ≤ o.1.toInt ∧ o.1.toInt ≤ (1 : Int))) := by
  unfold f_mayStand_70
  refine ok_bnd (fun v1 e124 => ?_)
  have t_v1 : v1.toInt = x2.toInt + 1 := ti_add e124 rfl (show (1 : Int32).toInt = 1 from rfl) (by omega) (by omega)
  exact hself26 t0 v1 r_t0 (by omega) (by omega)
theorem t_mayStand_26s  {I : Nat → Int32} {A : Nat → Nat → Int32} {self26 : Int32 → Int32 → (Nat → Int32) → (Nat → Nat → Int32) → Option (Int32 × MS)} {N26 : Nat} (hself26 : ∀ (x1 : Int32) (x2 : Int32),  ((0 : Int) ≤ x1.toInt ∧ x1.toInt ≤ (1 : Int)) → ((0 : Int) ≤ x2.toInt ∧ x2.toInt ≤ (8 : Int)) → (9 - x2.toInt) < (N26 : Int) → Ok (self26 x1 x2 I A) (fun o => o.2 = (I, A) ∧ ((0 : Int) ≤ o.1.toInt ∧ o.1.toInt ≤ (1 : Int)))) {x1 : Int32} {x2 : Int32} (hI : TJ I) (hA : TK A) (r_x1 : (0 : Int) ≤ x1.toInt ∧ x1.toInt ≤ (1 : Int)) (r_x2 : (0 : Int) ≤ x2.toInt ∧ x2.toInt ≤ (8 : Int)) (m26 : (9 - x2.toInt) ≤ (N26 : Int)) : Ok (f_mayStand_26s self26 x1 x2 I A) (fun o => o.2 = (I, A) ∧ ((0 : Int) ≤ o.1.toInt ∧ o.1.toInt ≤ (1 : Int))) := by
  unfold f_mayStand_26s
  refine ok_if (fun c125 => ?_) (fun c125 => ?_)
  ·
    replace c125 := ti_leP c125 (show (8 : Int32).toInt = 8 from rfl) rfl
    refine ok_if (fun c126 => ?_) (fun c126 => ?_)
    ·
      replace c126 := ti_eqP c126 rfl (show (0 : Int32).toInt = 0 from rfl)
      unfold f_mayStand_98
      exact t_mayStand_99    (t0 := (0 : Int32)) hI hA (by decide)
    ·
      replace c126 := ti_eqN c126 rfl (show (0 : Int32).toInt = 0 from rfl)
      refine ok_bnd (fun v1 e127 => ?_)
      have b_I_25 := tI_25 hI
      have t_v1 : v1.toInt = 1 - (I 25).toInt := ti_sub e127 (show (1 : Int32).toInt = 1 from rfl) rfl (by omega) (by omega)
      obtain ⟨r2, h_r2, p_r2⟩ := ro (t_isInCheck (x1 := v1)  hI hA (by omega))
      refine ok_clR h_r2 ?_
      dsimp only at p_r2
      refine ok_if (fun c128 => ?_) (fun c128 => ?_)
      ·
        replace c128 := ti_eqP c128 rfl (show (0 : Int32).toInt = 0 from rfl)
        exact t_mayStand_99    (t0 := (1 : Int32)) hI hA (by decide)
      ·
        replace c128 := ti_eqN c128 rfl (show (0 : Int32).toInt = 0 from rfl)
        unfold f_mayStand_98
        exact t_mayStand_99    (t0 := (0 : Int32)) hI hA (by decide)
  ·
    replace c125 := ti_leN c125 (show (8 : Int32).toInt = 8 from rfl) rfl
    refine ok_if (fun c129 => ?_) (fun c129 => ?_)
    ·
      replace c129 := ti_eqP c129 rfl (show (0 : Int32).toInt = 0 from rfl)
      unfold f_mayStand_69
      exact t_mayStand_70   hself26 (x2 := x2) (t0 := (0 : Int32)) hI hA (by omega) (by decide) m26
    ·
      replace c129 := ti_eqN c129 rfl (show (0 : Int32).toInt = 0 from rfl)
      refine ok_chk (ti_in (by omega) (by omega)) ?_
      refine ok_bnd (fun v3 e130 => ?_)
      obtain ⟨r4, h_r4, p_r4⟩ := ro (t_kind (x0 := v3)  hI hA )
      refine ok_clR h_r4 ?_
      dsimp only at p_r4
      refine ok_if (fun c131 => ?_) (fun c131 => ?_)
      ·
        replace c131 := ti_eqP c131 rfl (show (1 : Int32).toInt = 1 from rfl)
        unfold f_mayStand_69
        exact t_mayStand_70   hself26 (x2 := x2) (t0 := (0 : Int32)) hI hA (by omega) (by decide) m26
      ·
        replace c131 := ti_eqN c131 rfl (show (1 : Int32).toInt = 1 from rfl)
        refine ok_bnd (fun v5 e132 => ?_)
        have t_v5 : v5.toInt = 56 + x2.toInt := ti_add e132 (show (56 : Int32).toInt = 56 from rfl) rfl (by omega) (by omega)
        refine ok_chk (ti_in (by omega) (by omega)) ?_
        refine ok_bnd (fun v6 e133 => ?_)
        obtain ⟨r7, h_r7, p_r7⟩ := ro (t_kind (x0 := v6)  hI hA )
        refine ok_clR h_r7 ?_
        dsimp only at p_r7
        refine ok_if (fun c134 => ?_) (fun c134 => ?_)
        ·
          replace c134 := ti_eqP c134 rfl (show (1 : Int32).toInt = 1 from rfl)
          unfold f_mayStand_69
          exact t_mayStand_70   hself26 (x2 := x2) (t0 := (0 : Int32)) hI hA (by omega) (by decide) m26
        ·
          replace c134 := ti_eqN c134 rfl (show (1 : Int32).toInt = 1 from rfl)
          exact t_mayStand_70   hself26 (x2 := x2) (t0 := (1 : Int32)) hI hA (by omega) (by decide) m26
theorem t_mayStand_26  {I : Nat → Int32} {A : Nat → Nat → Int32} (hI : TJ I) (hA : TK A) : ∀ (n : Nat) (x1 : Int32) (x2 : Int32),  ((0 : Int) ≤ x1.toInt ∧ x1.toInt ≤ (1 : Int)) → ((0 : Int) ≤ x2.toInt ∧ x2.toInt ≤ (8 : Int)) → (9 - x2.toInt) < (n : Int) → Ok (f_mayStand_26  n x1 x2 I A) (fun o => o.2 = (I, A) ∧ ((0 : Int) ≤ o.1.toInt ∧ o.1.toInt ≤ (1 : Int))) := by
  intro n
  induction n with
  | zero => intro x1 x2 g0 g1  hm; exfalso; omega
  | succ n ih =>
    intro x1 x2 g0 g1  hm
    exact t_mayStand_26s   (N26 := n)  ih hI hA g0 g1  (by omega)
theorem t_mayStand_0  {I : Nat → Int32} {A : Nat → Nat → Int32} (hI : TJ I) (hA : TK A) : Ok (f_mayStand_0 I A) (fun o => o.2 = (I, A) ∧ ((0 : Int) ≤ o.1.toInt ∧ o.1.toInt ≤ (1 : Int))) := by
  unfold f_mayStand_0
  obtain ⟨r1, h_r1, p_r1⟩ := ro (t_countOf (x1 := (6 : Int32))  hI hA )
  refine ok_clR h_r1 ?_
  dsimp only at p_r1
  refine ok_if (fun c135 => ?_) (fun c135 => ?_)
  ·
    replace c135 := ti_eqP c135 rfl (show (1 : Int32).toInt = 1 from rfl)
    obtain ⟨r2, h_r2, p_r2⟩ := ro (t_countOf (x1 := (14 : Int32))  hI hA )
    refine ok_clR h_r2 ?_
    dsimp only at p_r2
    refine ok_if (fun c136 => ?_) (fun c136 => ?_)
    ·
      replace c136 := ti_eqP c136 rfl (show (1 : Int32).toInt = 1 from rfl)
      exact t_mayStand_26    hI hA mFuel (1 : Int32) (0 : Int32)  (by decide) (by decide) (by show _ < ((200000 : Nat) : Int); have z0 : (1 : Int32).toInt = 1 := rfl; have z1 : (0 : Int32).toInt = 0 := rfl; omega)
    ·
      replace c136 := ti_eqN c136 rfl (show (1 : Int32).toInt = 1 from rfl)
      unfold f_mayStand_20
      refine ok_chk (by decide) ?_
      exact ok_ret ⟨rfl, (show (0 : Int) ≤ (0 : Int32).toInt ∧ (0 : Int32).toInt ≤ (1 : Int) from (by decide))⟩
  ·
    replace c135 := ti_eqN c135 rfl (show (1 : Int32).toInt = 1 from rfl)
    unfold f_mayStand_20
    refine ok_chk (by decide) ?_
    exact ok_ret ⟨rfl, (show (0 : Int) ≤ (0 : Int32).toInt ∧ (0 : Int32).toInt ≤ (1 : Int) from (by decide))⟩
theorem t_mayStand  {I : Nat → Int32} {A : Nat → Nat → Int32}  (hI : TJ I) (hA : TK A) : Ok (f_mayStand  I A) (fun o => o.2 = (I, A) ∧ ((0 : Int) ≤ o.1.toInt ∧ o.1.toInt ≤ (1 : Int))) := t_mayStand_0  hI hA 
theorem t_readPosition_252  {I : Nat → Int32} {A : Nat → Nat → Int32} {x3 : Int32} {t0 : Int32} (hI : TJ I) (hA : TK A) (r_x3 : (0 : Int) ≤ x3.toInt ∧ x3.toInt ≤ (1 : Int)) (r_t0 : (-1 : Int) ≤ t0.toInt ∧ t0.toInt ≤ (999 : Int)) (q0 : (I 29).toInt ≤ 1999) : Ok (f_readPosition_252 x3 t0 I A) (fun o => TJ o.2.1 ∧ TK o.2.2 ∧ ((0 : Int) ≤ o.1.toInt ∧ o.1.toInt ≤ (1 : Int)) ∧ ((o.2.1 29).toInt ≤ 1999) ∧ ((o.1.toInt = 1 → 0 ≤ (o.2.1 29).toInt ∧ (o.2.1 29).toInt ≤ 999))) := by
  unfold f_readPosition_252
  have b_I_29 := tI_29 hI
  have b_I_38 := tI_38 hI
  have b_I_39 := tI_39 hI
  refine ok_bnd (fun I1 e137 => ?_)
  have hI_I1 : TJ I1 := e137.symm ▸ tj_u hI (k := 29) (show (-1 : Int) ≤ t0.toInt from (by omega)) (show t0.toInt ≤ (2000 : Int) from (by omega))
  have : (I1 29).toInt = t0.toInt := by rw [e137]; exact rfl
  have : (I1 38).toInt = (I 38).toInt := by rw [e137]; rfl
  have : (I1 39).toInt = (I 39).toInt := by rw [e137]; rfl
  refine ok_if (fun c138 => ?_) (fun c138 => ?_)
  ·
    replace c138 := ti_eqP c138 rfl (show (0 : Int32).toInt = 0 from rfl)
    unfold f_readPosition_288
    unfold f_readPosition_289
    refine ok_chk (by decide) ?_
    exact ok_ret ⟨hI_I1, hA, (show (0 : Int) ≤ (0 : Int32).toInt ∧ (0 : Int32).toInt ≤ (1 : Int) from (by decide)), (by show (I1 29).toInt ≤ 1999; have z : (0 : Int32).toInt = 0 := rfl; omega), (by show ((0 : Int32).toInt = 1 → 0 ≤ (I1 29).toInt ∧ (I1 29).toInt ≤ 999); exact fun h => absurd h (by decide))⟩
  ·
    replace c138 := ti_eqN c138 rfl (show (0 : Int32).toInt = 0 from rfl)
    have b_I1_29 := tI_29 hI_I1
    refine ok_if (fun c139 => ?_) (fun c139 => ?_)
    ·
      replace c139 := ti_leP c139 rfl (show (0 : Int32).toInt = 0 from rfl)
      unfold f_readPosition_288
      unfold f_readPosition_289
      refine ok_chk (by decide) ?_
      exact ok_ret ⟨hI_I1, hA, (show (0 : Int) ≤ (0 : Int32).toInt ∧ (0 : Int32).toInt ≤ (1 : Int) from (by decide)), (by show (I1 29).toInt ≤ 1999; have z : (0 : Int32).toInt = 0 := rfl; omega), (by show ((0 : Int32).toInt = 1 → 0 ≤ (I1 29).toInt ∧ (I1 29).toInt ≤ 999); exact fun h => absurd h (by decide))⟩
    ·
      replace c139 := ti_leN c139 rfl (show (0 : Int32).toInt = 0 from rfl)
      have b_I1_38 := tI_38 hI_I1
      have b_I1_39 := tI_39 hI_I1
      refine ok_if (fun c140 => ?_) (fun c140 => ?_)
      ·
        replace c140 := ti_eqP c140 rfl rfl
        obtain ⟨r2, h_r2, p_r2⟩ := ro (t_mayStand   hI_I1 hA )
        refine ok_clR h_r2 ?_
        dsimp only at p_r2
        refine ok_if (fun c141 => ?_) (fun c141 => ?_)
        ·
          replace c141 := ti_eqP c141 rfl (show (0 : Int32).toInt = 0 from rfl)
          unfold f_readPosition_288
          unfold f_readPosition_289
          refine ok_chk (by decide) ?_
          exact ok_ret ⟨hI_I1, hA, (show (0 : Int) ≤ (0 : Int32).toInt ∧ (0 : Int32).toInt ≤ (1 : Int) from (by decide)), (by show (I1 29).toInt ≤ 1999; have z : (0 : Int32).toInt = 0 := rfl; omega), (by show ((0 : Int32).toInt = 1 → 0 ≤ (I1 29).toInt ∧ (I1 29).toInt ≤ 999); exact fun h => absurd h (by decide))⟩
        ·
          replace c141 := ti_eqN c141 rfl (show (0 : Int32).toInt = 0 from rfl)
          unfold f_readPosition_289
          refine ok_chk (by decide) ?_
          exact ok_ret ⟨hI_I1, hA, (show (0 : Int) ≤ (1 : Int32).toInt ∧ (1 : Int32).toInt ≤ (1 : Int) from (by decide)), (by show (I1 29).toInt ≤ 1999; have z : (1 : Int32).toInt = 1 := rfl; omega), (by show ((1 : Int32).toInt = 1 → 0 ≤ (I1 29).toInt ∧ (I1 29).toInt ≤ 999); omega)⟩
      ·
        replace c140 := ti_eqN c140 rfl rfl
        unfold f_readPosition_288
        unfold f_readPosition_289
        refine ok_chk (by decide) ?_
        exact ok_ret ⟨hI_I1, hA, (show (0 : Int) ≤ (0 : Int32).toInt ∧ (0 : Int32).toInt ≤ (1 : Int) from (by decide)), (by show (I1 29).toInt ≤ 1999; have z : (0 : Int32).toInt = 0 := rfl; omega), (by show ((0 : Int32).toInt = 1 → 0 ≤ (I1 29).toInt ∧ (I1 29).toInt ≤ 999); exact fun h => absurd h (by decide))⟩
theorem t_readPosition_238  {I : Nat → Int32} {A : Nat → Nat → Int32} {t0 : Int32} (hI : TJ I) (hA : TK A) (r_t0 : (0 : Int) ≤ t0.toInt ∧ t0.toInt ≤ (1 : Int)) (q0 : (I 29).toInt ≤ 1999) (q1 : (I 38).toInt ≤ 1660) : Ok (f_readPosition_238 t0 I A) (fun o => TJ o.2.1 ∧ TK o.2.2 ∧ ((0 : Int) ≤ o.1.toInt ∧ o.1.toInt ≤ (1 : Int)) ∧ ((o.2.1 29).toInt ≤ 1999) ∧ ((o.1.toInt = 1 → 0 ≤ (o.2.1 29).toInt ∧ (o.2.1 29).toInt ≤ 999))) := by
  unfold f_readPosition_238
  have b_I_29 := tI_29 hI
  have b_I_38 := tI_38 hI
  have b_I_39 := tI_39 hI
  refine ok_if (fun c142 => ?_) (fun c142 => ?_)
  ·
    replace c142 := ti_eqP c142 rfl (show (0 : Int32).toInt = 0 from rfl)
    exact t_readPosition_252    (x3 := t0) (t0 := (-1 : Int32)) hI hA r_t0 (by decide) q0
  ·
    replace c142 := ti_eqN c142 rfl (show (0 : Int32).toInt = 0 from rfl)
    obtain ⟨⟨r1, Ic1, Ac1⟩, h_r1, hI_Ic1, hA_Ac1, p_r1, p_r1_0⟩ := t_readNumber   hI hA (show (I 38).toInt ≤ (I 38).toInt ∧ (I 38).toInt ≤ 3900 from ⟨Int.le_refl _, by omega⟩)
    replace hI_Ic1 : TJ Ic1 := hI_Ic1
    replace hA_Ac1 : TK Ac1 := hA_Ac1
    dsimp only at p_r1 p_r1_0
    refine ok_clR h_r1 ?_
    have f_r1 := fw_readNumber h_r1
    have : (Ic1 29).toInt = (I 29).toInt := congrArg Int32.toInt (f_r1.1 29 (by decide))
    have : (Ic1 39).toInt = (I 39).toInt := congrArg Int32.toInt (f_r1.1 39 (by decide))
    have b_Ic1_29 := tI_29 hI_Ic1
    exact t_readPosition_252    (x3 := t0) (t0 := r1) hI_Ic1 hA_Ac1 r_t0 (by omega) (by omega)
theorem t_readPosition_210  {I : Nat → Int32} {A : Nat → Nat → Int32} {x3 : Int32} {t0 : Int32} (hI : TJ I) (hA : TK A) (r_x3 : (0 : Int) ≤ x3.toInt ∧ x3.toInt ≤ (1 : Int)) (q0 : (I 29).toInt ≤ 1999) (q1 : (I 38).toInt ≤ 1650) : Ok (f_readPosition_210 x3 t0 I A) (fun o => TJ o.2.1 ∧ TK o.2.2 ∧ ((0 : Int) ≤ o.1.toInt ∧ o.1.toInt ≤ (1 : Int)) ∧ ((o.2.1 29).toInt ≤ 1999) ∧ ((o.1.toInt = 1 → 0 ≤ (o.2.1 29).toInt ∧ (o.2.1 29).toInt ≤ 999))) := by
  unfold f_readPosition_210
  have b_I_29 := tI_29 hI
  have b_I_38 := tI_38 hI
  have b_I_39 := tI_39 hI
  refine ok_bnd (fun I1 e143 => ?_)
  have hI_I1 : TJ I1 := e143.symm ▸ tj_w hI (k := 28) rfl
  have : (I1 29).toInt = (I 29).toInt := by rw [e143]; rfl
  have : (I1 38).toInt = (I 38).toInt := by rw [e143]; rfl
  have : (I1 39).toInt = (I 39).toInt := by rw [e143]; rfl
  refine ok_if (fun c144 => ?_) (fun c144 => ?_)
  ·
    replace c144 := ti_eqP c144 rfl (show (0 : Int32).toInt = 0 from rfl)
    unfold f_readPosition_237
    have b_I1_29 := tI_29 hI_I1
    have b_I1_38 := tI_38 hI_I1
    exact t_readPosition_238    (t0 := (0 : Int32)) hI_I1 hA (by decide) (by have z0 : (0 : Int32).toInt = 0 := rfl; omega) (by have z0 : (0 : Int32).toInt = 0 := rfl; omega)
  ·
    replace c144 := ti_eqN c144 rfl (show (0 : Int32).toInt = 0 from rfl)
    refine ok_if (fun c145 => ?_) (fun c145 => ?_)
    ·
      replace c145 := ti_ltP c145 rfl (show (0 : Int32).toInt = 0 from rfl)
      unfold f_readPosition_237
      have b_I1_29 := tI_29 hI_I1
      have b_I1_38 := tI_38 hI_I1
      exact t_readPosition_238    (t0 := (0 : Int32)) hI_I1 hA (by decide) (by have z0 : (0 : Int32).toInt = 0 := rfl; omega) (by have z0 : (0 : Int32).toInt = 0 := rfl; omega)
    ·
      replace c145 := ti_ltN c145 rfl (show (0 : Int32).toInt = 0 from rfl)
      have b_I1_38 := tI_38 hI_I1
      obtain ⟨⟨r2, Ic2, Ac2⟩, h_r2, hI_Ic2, hA_Ac2, p_r2, p_r2_0⟩ := t_pass (x1 := (32 : Int32))  hI_I1 hA (by have z0 : (32 : Int32).toInt = 32 := rfl; omega)
      replace hI_Ic2 : TJ Ic2 := hI_Ic2
      replace hA_Ac2 : TK Ac2 := hA_Ac2
      dsimp only at p_r2 p_r2_0
      refine ok_clR h_r2 ?_
      have f_r2 := fw_pass h_r2
      have : (Ic2 29).toInt = (I1 29).toInt := congrArg Int32.toInt (f_r2.1 29 (by decide))
      have : (Ic2 39).toInt = (I1 39).toInt := congrArg Int32.toInt (f_r2.1 39 (by decide))
      refine ok_if (fun c146 => ?_) (fun c146 => ?_)
      ·
        replace c146 := ti_eqP c146 rfl (show (0 : Int32).toInt = 0 from rfl)
        unfold f_readPosition_237
        have b_Ic2_29 := tI_29 hI_Ic2
        have b_Ic2_38 := tI_38 hI_Ic2
        exact t_readPosition_238    (t0 := (0 : Int32)) hI_Ic2 hA_Ac2 (by decide) (by have z0 : (0 : Int32).toInt = 0 := rfl; omega) (by have z0 : (0 : Int32).toInt = 0 := rfl; omega)
      ·
        replace c146 := ti_eqN c146 rfl (show (0 : Int32).toInt = 0 from rfl)
        have b_Ic2_29 := tI_29 hI_Ic2
        have b_Ic2_38 := tI_38 hI_Ic2
        exact t_readPosition_238    (t0 := (1 : Int32)) hI_Ic2 hA_Ac2 (by decide) (by have z0 : (1 : Int32).toInt = 1 := rfl; omega) (by have z0 : (1 : Int32).toInt = 1 := rfl; omega)
theorem t_readPosition_196  {I : Nat → Int32} {A : Nat → Nat → Int32} {t0 : Int32} (hI : TJ I) (hA : TK A) (r_t0 : (0 : Int) ≤ t0.toInt ∧ t0.toInt ≤ (1 : Int)) (q0 : (I 29).toInt ≤ 1999) (q1 : (I 38).toInt ≤ 1640) : Ok (f_readPosition_196 t0 I A) (fun o => TJ o.2.1 ∧ TK o.2.2 ∧ ((0 : Int) ≤ o.1.toInt ∧ o.1.toInt ≤ (1 : Int)) ∧ ((o.2.1 29).toInt ≤ 1999) ∧ ((o.1.toInt = 1 → 0 ≤ (o.2.1 29).toInt ∧ (o.2.1 29).toInt ≤ 999))) := by
  unfold f_readPosition_196
  have b_I_29 := tI_29 hI
  have b_I_38 := tI_38 hI
  have b_I_39 := tI_39 hI
  refine ok_if (fun c147 => ?_) (fun c147 => ?_)
  ·
    replace c147 := ti_eqP c147 rfl (show (0 : Int32).toInt = 0 from rfl)
    exact t_readPosition_210    (x3 := t0) (t0 := (-1 : Int32)) hI hA r_t0 q0 (by have z0 : (-1 : Int32).toInt = -1 := rfl; omega)
  ·
    replace c147 := ti_eqN c147 rfl (show (0 : Int32).toInt = 0 from rfl)
    obtain ⟨⟨r1, Ic1, Ac1⟩, h_r1, hI_Ic1, hA_Ac1, p_r1, p_r1_0⟩ := t_readNumber   hI hA (show (I 38).toInt ≤ (I 38).toInt ∧ (I 38).toInt ≤ 3900 from ⟨Int.le_refl _, by omega⟩)
    replace hI_Ic1 : TJ Ic1 := hI_Ic1
    replace hA_Ac1 : TK Ac1 := hA_Ac1
    dsimp only at p_r1 p_r1_0
    refine ok_clR h_r1 ?_
    have f_r1 := fw_readNumber h_r1
    have : (Ic1 29).toInt = (I 29).toInt := congrArg Int32.toInt (f_r1.1 29 (by decide))
    have : (Ic1 39).toInt = (I 39).toInt := congrArg Int32.toInt (f_r1.1 39 (by decide))
    have b_Ic1_29 := tI_29 hI_Ic1
    have b_Ic1_38 := tI_38 hI_Ic1
    exact t_readPosition_210    (x3 := t0) (t0 := r1) hI_Ic1 hA_Ac1 r_t0 (by omega) (by omega)
theorem t_readPosition_135  {I : Nat → Int32} {A : Nat → Nat → Int32} {t0 : Int32} (hI : TJ I) (hA : TK A) (r_t0 : (0 : Int) ≤ t0.toInt ∧ t0.toInt ≤ (1 : Int)) (q0 : (I 29).toInt ≤ 1999) (q1 : (I 38).toInt ≤ 1600) : Ok (f_readPosition_135 t0 I A) (fun o => TJ o.2.1 ∧ TK o.2.2 ∧ ((0 : Int) ≤ o.1.toInt ∧ o.1.toInt ≤ (1 : Int)) ∧ ((o.2.1 29).toInt ≤ 1999) ∧ ((o.1.toInt = 1 → 0 ≤ (o.2.1 29).toInt ∧ (o.2.1 29).toInt ≤ 999))) := by
  unfold f_readPosition_135
  have b_I_29 := tI_29 hI
  have b_I_38 := tI_38 hI
  have b_I_39 := tI_39 hI
  refine ok_bnd (fun v1 e148 => ?_)
  have t_v1 : v1.toInt = (I 38).toInt + 1 := ti_add e148 rfl (show (1 : Int32).toInt = 1 from rfl) (by omega) (by omega)
  refine ok_bnd (fun I2 e149 => ?_)
  have hI_I2 : TJ I2 := e149.symm ▸ tj_u hI (k := 38) (show (0 : Int) ≤ v1.toInt from (by omega)) (show v1.toInt ≤ (4000 : Int) from (by omega))
  have : (I2 29).toInt = (I 29).toInt := by rw [e149]; rfl
  have : (I2 38).toInt = v1.toInt := by rw [e149]; exact rfl
  have : (I2 39).toInt = (I 39).toInt := by rw [e149]; rfl
  refine ok_if (fun c150 => ?_) (fun c150 => ?_)
  ·
    replace c150 := ti_eqP c150 rfl (show (0 : Int32).toInt = 0 from rfl)
    unfold f_readPosition_195
    have b_I2_29 := tI_29 hI_I2
    have b_I2_38 := tI_38 hI_I2
    exact t_readPosition_196    (t0 := (0 : Int32)) hI_I2 hA (by decide) (by have z0 : (0 : Int32).toInt = 0 := rfl; omega) (by have z0 : (0 : Int32).toInt = 0 := rfl; omega)
  ·
    replace c150 := ti_eqN c150 rfl (show (0 : Int32).toInt = 0 from rfl)
    have b_I2_38 := tI_38 hI_I2
    obtain ⟨⟨r3, Ic3, Ac3⟩, h_r3, hI_Ic3, hA_Ac3, p_r3, p_r3_0⟩ := t_pass (x1 := (32 : Int32))  hI_I2 hA (by have z0 : (32 : Int32).toInt = 32 := rfl; omega)
    replace hI_Ic3 : TJ Ic3 := hI_Ic3
    replace hA_Ac3 : TK Ac3 := hA_Ac3
    dsimp only at p_r3 p_r3_0
    refine ok_clR h_r3 ?_
    have f_r3 := fw_pass h_r3
    have : (Ic3 29).toInt = (I2 29).toInt := congrArg Int32.toInt (f_r3.1 29 (by decide))
    have : (Ic3 39).toInt = (I2 39).toInt := congrArg Int32.toInt (f_r3.1 39 (by decide))
    refine ok_if (fun c151 => ?_) (fun c151 => ?_)
    ·
      replace c151 := ti_eqP c151 rfl (show (0 : Int32).toInt = 0 from rfl)
      unfold f_readPosition_195
      have b_Ic3_29 := tI_29 hI_Ic3
      have b_Ic3_38 := tI_38 hI_Ic3
      exact t_readPosition_196    (t0 := (0 : Int32)) hI_Ic3 hA_Ac3 (by decide) (by have z0 : (0 : Int32).toInt = 0 := rfl; omega) (by have z0 : (0 : Int32).toInt = 0 := rfl; omega)
    ·
      replace c151 := ti_eqN c151 rfl (show (0 : Int32).toInt = 0 from rfl)
      have b_Ic3_38 := tI_38 hI_Ic3
      obtain ⟨⟨r4, Ic4, Ac4⟩, h_r4, hI_Ic4, hA_Ac4, p_r4, p_r4_0⟩ := t_readRights   hI_Ic3 hA_Ac3 (show (Ic3 38).toInt ≤ (Ic3 38).toInt ∧ (Ic3 38).toInt ≤ 3900 from ⟨Int.le_refl _, by omega⟩)
      replace hI_Ic4 : TJ Ic4 := hI_Ic4
      replace hA_Ac4 : TK Ac4 := hA_Ac4
      dsimp only at p_r4 p_r4_0
      refine ok_clR h_r4 ?_
      have f_r4 := fw_readRights h_r4
      have : (Ic4 29).toInt = (Ic3 29).toInt := congrArg Int32.toInt (f_r4.1 29 (by decide))
      have : (Ic4 39).toInt = (Ic3 39).toInt := congrArg Int32.toInt (f_r4.1 39 (by decide))
      refine ok_if (fun c152 => ?_) (fun c152 => ?_)
      ·
        replace c152 := ti_eqP c152 rfl (show (0 : Int32).toInt = 0 from rfl)
        unfold f_readPosition_195
        have b_Ic4_29 := tI_29 hI_Ic4
        have b_Ic4_38 := tI_38 hI_Ic4
        exact t_readPosition_196    (t0 := (0 : Int32)) hI_Ic4 hA_Ac4 (by decide) (by have z0 : (0 : Int32).toInt = 0 := rfl; omega) (by have z0 : (0 : Int32).toInt = 0 := rfl; omega)
      ·
        replace c152 := ti_eqN c152 rfl (show (0 : Int32).toInt = 0 from rfl)
        have b_Ic4_38 := tI_38 hI_Ic4
        obtain ⟨⟨r5, Ic5, Ac5⟩, h_r5, hI_Ic5, hA_Ac5, p_r5, p_r5_0⟩ := t_pass (x1 := (32 : Int32))  hI_Ic4 hA_Ac4 (by have z0 : (32 : Int32).toInt = 32 := rfl; omega)
        replace hI_Ic5 : TJ Ic5 := hI_Ic5
        replace hA_Ac5 : TK Ac5 := hA_Ac5
        dsimp only at p_r5 p_r5_0
        refine ok_clR h_r5 ?_
        have f_r5 := fw_pass h_r5
        have : (Ic5 29).toInt = (Ic4 29).toInt := congrArg Int32.toInt (f_r5.1 29 (by decide))
        have : (Ic5 39).toInt = (Ic4 39).toInt := congrArg Int32.toInt (f_r5.1 39 (by decide))
        refine ok_if (fun c153 => ?_) (fun c153 => ?_)
        ·
          replace c153 := ti_eqP c153 rfl (show (0 : Int32).toInt = 0 from rfl)
          unfold f_readPosition_195
          have b_Ic5_29 := tI_29 hI_Ic5
          have b_Ic5_38 := tI_38 hI_Ic5
          exact t_readPosition_196    (t0 := (0 : Int32)) hI_Ic5 hA_Ac5 (by decide) (by have z0 : (0 : Int32).toInt = 0 := rfl; omega) (by have z0 : (0 : Int32).toInt = 0 := rfl; omega)
        ·
          replace c153 := ti_eqN c153 rfl (show (0 : Int32).toInt = 0 from rfl)
          have b_Ic5_38 := tI_38 hI_Ic5
          obtain ⟨⟨r6, Ic6, Ac6⟩, h_r6, hI_Ic6, hA_Ac6, p_r6, p_r6_0⟩ := t_readPassed   hI_Ic5 hA_Ac5 (by omega)
          replace hI_Ic6 : TJ Ic6 := hI_Ic6
          replace hA_Ac6 : TK Ac6 := hA_Ac6
          dsimp only at p_r6 p_r6_0
          refine ok_clR h_r6 ?_
          have f_r6 := fw_readPassed h_r6
          have : (Ic6 29).toInt = (Ic5 29).toInt := congrArg Int32.toInt (f_r6.1 29 (by decide))
          have : (Ic6 39).toInt = (Ic5 39).toInt := congrArg Int32.toInt (f_r6.1 39 (by decide))
          refine ok_if (fun c154 => ?_) (fun c154 => ?_)
          ·
            replace c154 := ti_eqP c154 rfl (show (0 : Int32).toInt = 0 from rfl)
            unfold f_readPosition_195
            have b_Ic6_29 := tI_29 hI_Ic6
            have b_Ic6_38 := tI_38 hI_Ic6
            exact t_readPosition_196    (t0 := (0 : Int32)) hI_Ic6 hA_Ac6 (by decide) (by have z0 : (0 : Int32).toInt = 0 := rfl; omega) (by have z0 : (0 : Int32).toInt = 0 := rfl; omega)
          ·
            replace c154 := ti_eqN c154 rfl (show (0 : Int32).toInt = 0 from rfl)
            have b_Ic6_38 := tI_38 hI_Ic6
            obtain ⟨⟨r7, Ic7, Ac7⟩, h_r7, hI_Ic7, hA_Ac7, p_r7, p_r7_0⟩ := t_pass (x1 := (32 : Int32))  hI_Ic6 hA_Ac6 (by have z0 : (32 : Int32).toInt = 32 := rfl; omega)
            replace hI_Ic7 : TJ Ic7 := hI_Ic7
            replace hA_Ac7 : TK Ac7 := hA_Ac7
            dsimp only at p_r7 p_r7_0
            refine ok_clR h_r7 ?_
            have f_r7 := fw_pass h_r7
            have : (Ic7 29).toInt = (Ic6 29).toInt := congrArg Int32.toInt (f_r7.1 29 (by decide))
            have : (Ic7 39).toInt = (Ic6 39).toInt := congrArg Int32.toInt (f_r7.1 39 (by decide))
            refine ok_if (fun c155 => ?_) (fun c155 => ?_)
            ·
              replace c155 := ti_eqP c155 rfl (show (0 : Int32).toInt = 0 from rfl)
              unfold f_readPosition_195
              have b_Ic7_29 := tI_29 hI_Ic7
              have b_Ic7_38 := tI_38 hI_Ic7
              exact t_readPosition_196    (t0 := (0 : Int32)) hI_Ic7 hA_Ac7 (by decide) (by have z0 : (0 : Int32).toInt = 0 := rfl; omega) (by have z0 : (0 : Int32).toInt = 0 := rfl; omega)
            ·
              replace c155 := ti_eqN c155 rfl (show (0 : Int32).toInt = 0 from rfl)
              have b_Ic7_29 := tI_29 hI_Ic7
              have b_Ic7_38 := tI_38 hI_Ic7
              exact t_readPosition_196    (t0 := (1 : Int32)) hI_Ic7 hA_Ac7 (by decide) (by have z0 : (1 : Int32).toInt = 1 := rfl; omega) (by have z0 : (1 : Int32).toInt = 1 := rfl; omega)
theorem t_readPosition_109  {I : Nat → Int32} {A : Nat → Nat → Int32} {t0 : Int32} (hI : TJ I) (hA : TK A) (r_t0 : (0 : Int) ≤ t0.toInt ∧ t0.toInt ≤ (1 : Int)) (q0 : (I 29).toInt ≤ 1999) (q1 : (I 38).toInt ≤ 1600) : Ok (f_readPosition_109 t0 I A) (fun o => TJ o.2.1 ∧ TK o.2.2 ∧ ((0 : Int) ≤ o.1.toInt ∧ o.1.toInt ≤ (1 : Int)) ∧ ((o.2.1 29).toInt ≤ 1999) ∧ ((o.1.toInt = 1 → 0 ≤ (o.2.1 29).toInt ∧ (o.2.1 29).toInt ≤ 999))) := by
  unfold f_readPosition_109
  have b_I_29 := tI_29 hI
  have b_I_38 := tI_38 hI
  have b_I_39 := tI_39 hI
  refine ok_bnd (fun I1 e156 => ?_)
  have hI_I1 : TJ I1 := e156.symm ▸ tj_u hI (k := 25) (show (0 : Int) ≤ t0.toInt from (by omega)) (show t0.toInt ≤ (1 : Int) from (by omega))
  have : (I1 29).toInt = (I 29).toInt := by rw [e156]; rfl
  have : (I1 38).toInt = (I 38).toInt := by rw [e156]; rfl
  have : (I1 39).toInt = (I 39).toInt := by rw [e156]; rfl
  obtain ⟨r2, h_r2, p_r2⟩ := ro (t_sign   hI_I1 hA )
  refine ok_clR h_r2 ?_
  dsimp only at p_r2
  refine ok_if (fun c157 => ?_) (fun c157 => ?_)
  ·
    replace c157 := ti_eqP c157 rfl (show (119 : Int32).toInt = 119 from rfl)
    unfold f_readPosition_130
    have b_I1_29 := tI_29 hI_I1
    have b_I1_38 := tI_38 hI_I1
    exact t_readPosition_135    (t0 := (1 : Int32)) hI_I1 hA (by decide) (by have z0 : (1 : Int32).toInt = 1 := rfl; omega) (by have z0 : (1 : Int32).toInt = 1 := rfl; omega)
  ·
    replace c157 := ti_eqN c157 rfl (show (119 : Int32).toInt = 119 from rfl)
    obtain ⟨r3, h_r3, p_r3⟩ := ro (t_sign   hI_I1 hA )
    refine ok_clR h_r3 ?_
    dsimp only at p_r3
    refine ok_if (fun c158 => ?_) (fun c158 => ?_)
    ·
      replace c158 := ti_eqP c158 rfl (show (98 : Int32).toInt = 98 from rfl)
      unfold f_readPosition_130
      have b_I1_29 := tI_29 hI_I1
      have b_I1_38 := tI_38 hI_I1
      exact t_readPosition_135    (t0 := (1 : Int32)) hI_I1 hA (by decide) (by have z0 : (1 : Int32).toInt = 1 := rfl; omega) (by have z0 : (1 : Int32).toInt = 1 := rfl; omega)
    ·
      replace c158 := ti_eqN c158 rfl (show (98 : Int32).toInt = 98 from rfl)
      have b_I1_29 := tI_29 hI_I1
      have b_I1_38 := tI_38 hI_I1
      exact t_readPosition_135    (t0 := (0 : Int32)) hI_I1 hA (by decide) (by have z0 : (0 : Int32).toInt = 0 := rfl; omega) (by have z0 : (0 : Int32).toInt = 0 := rfl; omega)
theorem t_readPosition_81  {I : Nat → Int32} {A : Nat → Nat → Int32} {self39 : Int32 → Int32 → (Nat → Int32) → (Nat → Nat → Int32) → Option (Int32 × MS)} {N39 : Nat} (hself39 : ∀ (x3 : Int32) (x4 : Int32) (I : Nat → Int32) (A : Nat → Nat → Int32), TJ I → TK A → ((0 : Int) ≤ x3.toInt ∧ x3.toInt ≤ (1 : Int)) → ((-1 : Int) ≤ x4.toInt ∧ x4.toInt ≤ (7 : Int)) → ((I 29).toInt ≤ 1999) → ((I 38).toInt ≤ 1440 + 17 * (7 - x4.toInt)) → (x4.toInt + 1) < (N39 : Int) → Ok (self39 x3 x4 I A) (fun o => TJ o.2.1 ∧ TK o.2.2 ∧ ((0 : Int) ≤ o.1.toInt ∧ o.1.toInt ≤ (1 : Int)) ∧ ((o.2.1 29).toInt ≤ 1999) ∧ ((o.1.toInt = 1 → 0 ≤ (o.2.1 29).toInt ∧ (o.2.1 29).toInt ≤ 999)))) {x4 : Int32} {t0 : Int32} (hI : TJ I) (hA : TK A) (r_x4 : (0 : Int) ≤ x4.toInt ∧ x4.toInt ≤ (7 : Int)) (r_t0 : (0 : Int) ≤ t0.toInt ∧ t0.toInt ≤ (1 : Int)) (q0 : (I 29).toInt ≤ 1999) (q1 : (I 38).toInt ≤ 1440 + 17 * (8 - x4.toInt)) (m39 : (x4.toInt + 1) ≤ (N39 : Int)) : Ok (f_readPosition_81 self39 x4 t0 I A) (fun o => TJ o.2.1 ∧ TK o.2.2 ∧ ((0 : Int) ≤ o.1.toInt ∧ o.1.toInt ≤ (1 : Int)) ∧ ((o.2.1 29).toInt ≤ 1999) ∧ ((o.1.toInt = 1 → 0 ≤ (o.2.1 29).toInt ∧ (o.2.1 29).toInt ≤ 999))) := by
  unfold f_readPosition_81
  have b_I_29 := tI_29 hI
  have b_I_38 := tI_38 hI
  have b_I_39 := tI_39 hI
  refine ok_bnd (fun v1 e159 => ?_)
  have t_v1 : v1.toInt = x4.toInt + (-1) := ti_add e159 rfl (show (-1 : Int32).toInt = -1 from rfl) (by omega) (by omega)
  exact hself39 t0 v1 I A hI hA r_t0 (by omega) q0 (by omega) (by omega)
theorem t_readPosition_70  {I : Nat → Int32} {A : Nat → Nat → Int32} {self39 : Int32 → Int32 → (Nat → Int32) → (Nat → Nat → Int32) → Option (Int32 × MS)} {N39 : Nat} (hself39 : ∀ (x3 : Int32) (x4 : Int32) (I : Nat → Int32) (A : Nat → Nat → Int32), TJ I → TK A → ((0 : Int) ≤ x3.toInt ∧ x3.toInt ≤ (1 : Int)) → ((-1 : Int) ≤ x4.toInt ∧ x4.toInt ≤ (7 : Int)) → ((I 29).toInt ≤ 1999) → ((I 38).toInt ≤ 1440 + 17 * (7 - x4.toInt)) → (x4.toInt + 1) < (N39 : Int) → Ok (self39 x3 x4 I A) (fun o => TJ o.2.1 ∧ TK o.2.2 ∧ ((0 : Int) ≤ o.1.toInt ∧ o.1.toInt ≤ (1 : Int)) ∧ ((o.2.1 29).toInt ≤ 1999) ∧ ((o.1.toInt = 1 → 0 ≤ (o.2.1 29).toInt ∧ (o.2.1 29).toInt ≤ 999)))) {x4 : Int32} {t0 : Int32} (hI : TJ I) (hA : TK A) (r_x4 : (0 : Int) ≤ x4.toInt ∧ x4.toInt ≤ (7 : Int)) (q0 : (I 29).toInt ≤ 1999) (q1 : (I 38).toInt ≤ 1440 + 17 * (7 - x4.toInt) + 16) (m39 : (x4.toInt + 1) ≤ (N39 : Int)) : Ok (f_readPosition_70 self39 x4 t0 I A) (fun o => TJ o.2.1 ∧ TK o.2.2 ∧ ((0 : Int) ≤ o.1.toInt ∧ o.1.toInt ≤ (1 : Int)) ∧ ((o.2.1 29).toInt ≤ 1999) ∧ ((o.1.toInt = 1 → 0 ≤ (o.2.1 29).toInt ∧ (o.2.1 29).toInt ≤ 999))) := by
  unfold f_readPosition_70
  have b_I_29 := tI_29 hI
  have b_I_38 := tI_38 hI
  have b_I_39 := tI_39 hI
  obtain ⟨⟨r1, Ic1, Ac1⟩, h_r1, hI_Ic1, hA_Ac1, p_r1, p_r1_0⟩ := t_pass (x1 := t0)  hI hA (by omega)
  replace hI_Ic1 : TJ Ic1 := hI_Ic1
  replace hA_Ac1 : TK Ac1 := hA_Ac1
  dsimp only at p_r1 p_r1_0
  refine ok_clR h_r1 ?_
  have f_r1 := fw_pass h_r1
  have : (Ic1 29).toInt = (I 29).toInt := congrArg Int32.toInt (f_r1.1 29 (by decide))
  have : (Ic1 39).toInt = (I 39).toInt := congrArg Int32.toInt (f_r1.1 39 (by decide))
  refine ok_if (fun c160 => ?_) (fun c160 => ?_)
  ·
    replace c160 := ti_eqP c160 rfl (show (0 : Int32).toInt = 0 from rfl)
    unfold f_readPosition_80
    have b_Ic1_29 := tI_29 hI_Ic1
    have b_Ic1_38 := tI_38 hI_Ic1
    exact t_readPosition_81   hself39 (x4 := x4) (t0 := (0 : Int32)) hI_Ic1 hA_Ac1 r_x4 (by decide) (by have z0 : (0 : Int32).toInt = 0 := rfl; omega) (by have z0 : (0 : Int32).toInt = 0 := rfl; omega) m39
  ·
    replace c160 := ti_eqN c160 rfl (show (0 : Int32).toInt = 0 from rfl)
    have b_Ic1_29 := tI_29 hI_Ic1
    have b_Ic1_38 := tI_38 hI_Ic1
    exact t_readPosition_81   hself39 (x4 := x4) (t0 := (1 : Int32)) hI_Ic1 hA_Ac1 r_x4 (by decide) (by have z0 : (1 : Int32).toInt = 1 := rfl; omega) (by have z0 : (1 : Int32).toInt = 1 := rfl; omega) m39
theorem t_readPosition_39s  {I : Nat → Int32} {A : Nat → Nat → Int32} {self39 : Int32 → Int32 → (Nat → Int32) → (Nat → Nat → Int32) → Option (Int32 × MS)} {N39 : Nat} (hself39 : ∀ (x3 : Int32) (x4 : Int32) (I : Nat → Int32) (A : Nat → Nat → Int32), TJ I → TK A → ((0 : Int) ≤ x3.toInt ∧ x3.toInt ≤ (1 : Int)) → ((-1 : Int) ≤ x4.toInt ∧ x4.toInt ≤ (7 : Int)) → ((I 29).toInt ≤ 1999) → ((I 38).toInt ≤ 1440 + 17 * (7 - x4.toInt)) → (x4.toInt + 1) < (N39 : Int) → Ok (self39 x3 x4 I A) (fun o => TJ o.2.1 ∧ TK o.2.2 ∧ ((0 : Int) ≤ o.1.toInt ∧ o.1.toInt ≤ (1 : Int)) ∧ ((o.2.1 29).toInt ≤ 1999) ∧ ((o.1.toInt = 1 → 0 ≤ (o.2.1 29).toInt ∧ (o.2.1 29).toInt ≤ 999)))) {x3 : Int32} {x4 : Int32} (hI : TJ I) (hA : TK A) (r_x3 : (0 : Int) ≤ x3.toInt ∧ x3.toInt ≤ (1 : Int)) (r_x4 : (-1 : Int) ≤ x4.toInt ∧ x4.toInt ≤ (7 : Int)) (q0 : (I 29).toInt ≤ 1999) (q1 : (I 38).toInt ≤ 1440 + 17 * (7 - x4.toInt)) (m39 : (x4.toInt + 1) ≤ (N39 : Int)) : Ok (f_readPosition_39s self39 x3 x4 I A) (fun o => TJ o.2.1 ∧ TK o.2.2 ∧ ((0 : Int) ≤ o.1.toInt ∧ o.1.toInt ≤ (1 : Int)) ∧ ((o.2.1 29).toInt ≤ 1999) ∧ ((o.1.toInt = 1 → 0 ≤ (o.2.1 29).toInt ∧ (o.2.1 29).toInt ≤ 999))) := by
  unfold f_readPosition_39s
  have b_I_29 := tI_29 hI
  have b_I_38 := tI_38 hI
  have b_I_39 := tI_39 hI
  refine ok_if (fun c161 => ?_) (fun c161 => ?_)
  ·
    replace c161 := ti_ltP c161 rfl (show (0 : Int32).toInt = 0 from rfl)
    refine ok_if (fun c162 => ?_) (fun c162 => ?_)
    ·
      replace c162 := ti_eqP c162 rfl (show (0 : Int32).toInt = 0 from rfl)
      refine ok_chk (by decide) ?_
      exact ok_ret ⟨hI, hA, (show (0 : Int) ≤ (0 : Int32).toInt ∧ (0 : Int32).toInt ≤ (1 : Int) from (by decide)), q0, (by show ((0 : Int32).toInt = 1 → 0 ≤ (I 29).toInt ∧ (I 29).toInt ≤ 999); exact fun h => absurd h (by decide))⟩
    ·
      replace c162 := ti_eqN c162 rfl (show (0 : Int32).toInt = 0 from rfl)
      obtain ⟨r1, h_r1, p_r1⟩ := ro (t_sign   hI hA )
      refine ok_clR h_r1 ?_
      dsimp only at p_r1
      refine ok_if (fun c163 => ?_) (fun c163 => ?_)
      ·
        replace c163 := ti_eqP c163 rfl (show (119 : Int32).toInt = 119 from rfl)
        exact t_readPosition_109    (t0 := (0 : Int32)) hI hA (by decide) q0 (by have z0 : (0 : Int32).toInt = 0 := rfl; omega)
      ·
        replace c163 := ti_eqN c163 rfl (show (119 : Int32).toInt = 119 from rfl)
        exact t_readPosition_109    (t0 := (1 : Int32)) hI hA (by decide) q0 (by have z0 : (1 : Int32).toInt = 1 := rfl; omega)
  ·
    replace c161 := ti_ltN c161 rfl (show (0 : Int32).toInt = 0 from rfl)
    refine ok_if (fun c164 => ?_) (fun c164 => ?_)
    ·
      replace c164 := ti_eqP c164 rfl (show (0 : Int32).toInt = 0 from rfl)
      unfold f_readPosition_80
      exact t_readPosition_81   hself39 (x4 := x4) (t0 := (0 : Int32)) hI hA (by omega) (by decide) q0 (by have z0 : (0 : Int32).toInt = 0 := rfl; omega) m39
    ·
      replace c164 := ti_eqN c164 rfl (show (0 : Int32).toInt = 0 from rfl)
      obtain ⟨⟨r2, Ic2, Ac2⟩, h_r2, hI_Ic2, hA_Ac2, p_r2, p_r2_0⟩ := t_readRank (x1 := x4)  hI hA (by omega) (show (I 38).toInt ≤ (I 38).toInt ∧ (I 38).toInt ≤ 3900 from ⟨Int.le_refl _, by omega⟩)
      replace hI_Ic2 : TJ Ic2 := hI_Ic2
      replace hA_Ac2 : TK Ac2 := hA_Ac2
      dsimp only at p_r2 p_r2_0
      refine ok_clR h_r2 ?_
      have f_r2 := fw_readRank h_r2
      have : (Ic2 29).toInt = (I 29).toInt := congrArg Int32.toInt (f_r2.1 29 (by decide))
      have : (Ic2 39).toInt = (I 39).toInt := congrArg Int32.toInt (f_r2.1 39 (by decide))
      refine ok_if (fun c165 => ?_) (fun c165 => ?_)
      ·
        replace c165 := ti_eqP c165 rfl (show (0 : Int32).toInt = 0 from rfl)
        unfold f_readPosition_80
        have b_Ic2_29 := tI_29 hI_Ic2
        have b_Ic2_38 := tI_38 hI_Ic2
        exact t_readPosition_81   hself39 (x4 := x4) (t0 := (0 : Int32)) hI_Ic2 hA_Ac2 (by omega) (by decide) (by have z0 : (0 : Int32).toInt = 0 := rfl; omega) (by have z0 : (0 : Int32).toInt = 0 := rfl; omega) m39
      ·
        replace c165 := ti_eqN c165 rfl (show (0 : Int32).toInt = 0 from rfl)
        refine ok_if (fun c166 => ?_) (fun c166 => ?_)
        ·
          replace c166 := ti_leP c166 rfl (show (0 : Int32).toInt = 0 from rfl)
          have b_Ic2_29 := tI_29 hI_Ic2
          have b_Ic2_38 := tI_38 hI_Ic2
          exact t_readPosition_70   hself39 (x4 := x4) (t0 := (32 : Int32)) hI_Ic2 hA_Ac2 (by omega) (by have z0 : (32 : Int32).toInt = 32 := rfl; omega) (by have z0 : (32 : Int32).toInt = 32 := rfl; omega) m39
        ·
          replace c166 := ti_leN c166 rfl (show (0 : Int32).toInt = 0 from rfl)
          have b_Ic2_29 := tI_29 hI_Ic2
          have b_Ic2_38 := tI_38 hI_Ic2
          exact t_readPosition_70   hself39 (x4 := x4) (t0 := (47 : Int32)) hI_Ic2 hA_Ac2 (by omega) (by have z0 : (47 : Int32).toInt = 47 := rfl; omega) (by have z0 : (47 : Int32).toInt = 47 := rfl; omega) m39
theorem t_readPosition_39   : ∀ (n : Nat) (x3 : Int32) (x4 : Int32) (I : Nat → Int32) (A : Nat → Nat → Int32), TJ I → TK A → ((0 : Int) ≤ x3.toInt ∧ x3.toInt ≤ (1 : Int)) → ((-1 : Int) ≤ x4.toInt ∧ x4.toInt ≤ (7 : Int)) → ((I 29).toInt ≤ 1999) → ((I 38).toInt ≤ 1440 + 17 * (7 - x4.toInt)) → (x4.toInt + 1) < (n : Int) → Ok (f_readPosition_39  n x3 x4 I A) (fun o => TJ o.2.1 ∧ TK o.2.2 ∧ ((0 : Int) ≤ o.1.toInt ∧ o.1.toInt ≤ (1 : Int)) ∧ ((o.2.1 29).toInt ≤ 1999) ∧ ((o.1.toInt = 1 → 0 ≤ (o.2.1 29).toInt ∧ (o.2.1 29).toInt ≤ 999))) := by
  intro n
  induction n with
  | zero => intro x3 x4 I A hI hA g0 g1 g2 g3  hm; exfalso; omega
  | succ n ih =>
    intro x3 x4 I A hI hA g0 g1 g2 g3  hm
    exact t_readPosition_39s   (N39 := n)  ih hI hA g0 g1 g2 g3  (by omega)
theorem t_readPosition_14s  {I : Nat → Int32} {A : Nat → Nat → Int32} {self14 : Int32 → (Nat → Int32) → (Nat → Nat → Int32) → Option (Int32 × MS)} {N14 : Nat} (hself14 : ∀ (x3 : Int32) (I : Nat → Int32) (A : Nat → Nat → Int32), TJ I → TK A → ((0 : Int) ≤ x3.toInt ∧ x3.toInt ≤ (64 : Int)) → ((I 29).toInt ≤ 1999) → ((I 38).toInt ≤ 1440) → (65 - x3.toInt) < (N14 : Int) → Ok (self14 x3 I A) (fun o => TJ o.2.1 ∧ TK o.2.2 ∧ ((0 : Int) ≤ o.1.toInt ∧ o.1.toInt ≤ (1 : Int)) ∧ ((o.2.1 29).toInt ≤ 1999) ∧ ((o.1.toInt = 1 → 0 ≤ (o.2.1 29).toInt ∧ (o.2.1 29).toInt ≤ 999)))) {x3 : Int32} (hI : TJ I) (hA : TK A) (r_x3 : (0 : Int) ≤ x3.toInt ∧ x3.toInt ≤ (64 : Int)) (q0 : (I 29).toInt ≤ 1999) (q1 : (I 38).toInt ≤ 1440) (m14 : (65 - x3.toInt) ≤ (N14 : Int)) : Ok (f_readPosition_14s self14 x3 I A) (fun o => TJ o.2.1 ∧ TK o.2.2 ∧ ((0 : Int) ≤ o.1.toInt ∧ o.1.toInt ≤ (1 : Int)) ∧ ((o.2.1 29).toInt ≤ 1999) ∧ ((o.1.toInt = 1 → 0 ≤ (o.2.1 29).toInt ∧ (o.2.1 29).toInt ≤ 999))) := by
  unfold f_readPosition_14s
  have b_I_29 := tI_29 hI
  have b_I_38 := tI_38 hI
  have b_I_39 := tI_39 hI
  refine ok_if (fun c167 => ?_) (fun c167 => ?_)
  ·
    replace c167 := ti_leP c167 (show (64 : Int32).toInt = 64 from rfl) rfl
    exact t_readPosition_39     mFuel (1 : Int32) (7 : Int32) I A hI hA (by decide) (by decide) q0 (by have z0 : (1 : Int32).toInt = 1 := rfl; have z1 : (7 : Int32).toInt = 7 := rfl; omega) (by show _ < ((200000 : Nat) : Int); have z0 : (1 : Int32).toInt = 1 := rfl; have z1 : (7 : Int32).toInt = 7 := rfl; omega)
  ·
    replace c167 := ti_leN c167 (show (64 : Int32).toInt = 64 from rfl) rfl
    refine ok_chk (ti_in (by omega) (by omega)) ?_
    refine ok_bnd (fun A1 e168 => ?_)
    have hA_A1 : TK A1 := e168.symm ▸ tk_w hA (j := 24) rfl
    refine ok_bnd (fun v2 e169 => ?_)
    have t_v2 : v2.toInt = x3.toInt + 1 := ti_add e169 rfl (show (1 : Int32).toInt = 1 from rfl) (by omega) (by omega)
    exact hself14 v2 I A1 hI hA_A1 (by omega) q0 q1 (by omega)
theorem t_readPosition_14   : ∀ (n : Nat) (x3 : Int32) (I : Nat → Int32) (A : Nat → Nat → Int32), TJ I → TK A → ((0 : Int) ≤ x3.toInt ∧ x3.toInt ≤ (64 : Int)) → ((I 29).toInt ≤ 1999) → ((I 38).toInt ≤ 1440) → (65 - x3.toInt) < (n : Int) → Ok (f_readPosition_14  n x3 I A) (fun o => TJ o.2.1 ∧ TK o.2.2 ∧ ((0 : Int) ≤ o.1.toInt ∧ o.1.toInt ≤ (1 : Int)) ∧ ((o.2.1 29).toInt ≤ 1999) ∧ ((o.1.toInt = 1 → 0 ≤ (o.2.1 29).toInt ∧ (o.2.1 29).toInt ≤ 999))) := by
  intro n
  induction n with
  | zero => intro x3 I A hI hA g0 g1 g2  hm; exfalso; omega
  | succ n ih =>
    intro x3 I A hI hA g0 g1 g2  hm
    exact t_readPosition_14s   (N14 := n)  ih hI hA g0 g1 g2  (by omega)
theorem t_readPosition_0  {I : Nat → Int32} {A : Nat → Nat → Int32} {x1 : Int32} {x2 : Int32} (hI : TJ I) (hA : TK A) (r_x1 : (0 : Int) ≤ x1.toInt ∧ x1.toInt ≤ (1440 : Int)) (r_x2 : (0 : Int) ≤ x2.toInt ∧ x2.toInt ≤ (96 : Int)) (q0 : x1.toInt + x2.toInt ≤ 1536) (q1 : (I 29).toInt ≤ 1999) : Ok (f_readPosition_0 x1 x2 I A) (fun o => TJ o.2.1 ∧ TK o.2.2 ∧ ((0 : Int) ≤ o.1.toInt ∧ o.1.toInt ≤ (1 : Int)) ∧ ((o.2.1 29).toInt ≤ 1999) ∧ ((o.1.toInt = 1 → 0 ≤ (o.2.1 29).toInt ∧ (o.2.1 29).toInt ≤ 999))) := by
  unfold f_readPosition_0
  have b_I_29 := tI_29 hI
  have b_I_38 := tI_38 hI
  have b_I_39 := tI_39 hI
  refine ok_bnd (fun I1 e170 => ?_)
  have hI_I1 : TJ I1 := e170.symm ▸ tj_u hI (k := 38) (show (0 : Int) ≤ x1.toInt from (by omega)) (show x1.toInt ≤ (4000 : Int) from (by omega))
  have : (I1 29).toInt = (I 29).toInt := by rw [e170]; rfl
  have : (I1 38).toInt = x1.toInt := by rw [e170]; exact rfl
  have : (I1 39).toInt = (I 39).toInt := by rw [e170]; rfl
  refine ok_bnd (fun v2 e171 => ?_)
  have t_v2 : v2.toInt = x1.toInt + x2.toInt := ti_add e171 rfl rfl (by omega) (by omega)
  refine ok_bnd (fun I3 e172 => ?_)
  have hI_I3 : TJ I3 := e172.symm ▸ tj_u hI_I1 (k := 39) (show (0 : Int) ≤ v2.toInt from (by omega)) (show v2.toInt ≤ (1536 : Int) from (by omega))
  have : (I3 29).toInt = (I1 29).toInt := by rw [e172]; rfl
  have : (I3 38).toInt = (I1 38).toInt := by rw [e172]; rfl
  have : (I3 39).toInt = v2.toInt := by rw [e172]; exact rfl
  have b_I3_29 := tI_29 hI_I3
  have b_I3_38 := tI_38 hI_I3
  exact t_readPosition_14     mFuel (0 : Int32) I3 A hI_I3 hA (by decide) (by have z0 : (0 : Int32).toInt = 0 := rfl; omega) (by have z0 : (0 : Int32).toInt = 0 := rfl; omega) (by show _ < ((200000 : Nat) : Int); have z0 : (0 : Int32).toInt = 0 := rfl; omega)
theorem t_readPosition  {I : Nat → Int32} {A : Nat → Nat → Int32} {x1 : Int32} {x2 : Int32} (hI : TJ I) (hA : TK A) (r_x1 : (0 : Int) ≤ x1.toInt ∧ x1.toInt ≤ (1440 : Int)) (r_x2 : (0 : Int) ≤ x2.toInt ∧ x2.toInt ≤ (96 : Int)) (q0 : x1.toInt + x2.toInt ≤ 1536) (q1 : (I 29).toInt ≤ 1999) : Ok (f_readPosition x1 x2 I A) (fun o => TJ o.2.1 ∧ TK o.2.2 ∧ ((0 : Int) ≤ o.1.toInt ∧ o.1.toInt ≤ (1 : Int)) ∧ ((o.2.1 29).toInt ≤ 1999) ∧ ((o.1.toInt = 1 → 0 ≤ (o.2.1 29).toInt ∧ (o.2.1 29).toInt ≤ 999))) := t_readPosition_0  hI hA r_x1 r_x2 q0 q1
end
