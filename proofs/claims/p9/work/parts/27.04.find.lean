def wI (a b : Int) : Int := (if ((b % 8 - a % 8 = 0 ∨ b / 8 - a / 8 = 0 ∨ b % 8 - a % 8 = b / 8 - a / 8 ∨ b % 8 - a % 8 = a / 8 - b / 8) ∨ ((b % 8 - a % 8 = 1 ∨ b % 8 - a % 8 = -1) ∧ (b / 8 - a / 8 = 2 ∨ b / 8 - a / 8 = -2)) ∨ ((b % 8 - a % 8 = 2 ∨ b % 8 - a % 8 = -2) ∧ (b / 8 - a / 8 = 1 ∨ b / 8 - a / 8 = -1))) then 1 else 0) + (if ((b = a + 8) ∨ (b = a - 8) ∨ (b = a + 16 ∧ a / 8 = 1) ∨ (b = a - 16 ∧ a / 8 = 6) ∨ ((b / 8 = a / 8 + 1 ∨ b / 8 = a / 8 - 1) ∧ (b % 8 - a % 8 = 1 ∨ b % 8 - a % 8 = -1))) ∧ (b < 8 ∨ 55 < b) then 3 else 0)
theorem wI_0 (a b : Int) : 0 ≤ wI a b := by unfold wI; split <;> split <;> decide
theorem wI_1 {a b : Int} (h : pGE a b) : 1 ≤ wI a b := by
  unfold wI
  rw [if_pos (show ((b % 8 - a % 8 = 0 ∨ b / 8 - a / 8 = 0 ∨ b % 8 - a % 8 = b / 8 - a / 8 ∨ b % 8 - a % 8 = a / 8 - b / 8) ∨ ((b % 8 - a % 8 = 1 ∨ b % 8 - a % 8 = -1) ∧ (b / 8 - a / 8 = 2 ∨ b / 8 - a / 8 = -2)) ∨ ((b % 8 - a % 8 = 2 ∨ b % 8 - a % 8 = -2) ∧ (b / 8 - a / 8 = 1 ∨ b / 8 - a / 8 = -1))) from h)]
  split <;> decide
theorem wI_4 {a b : Int} (h : pGE a b) (h2 : pPG a b) (h3 : b < 8 ∨ 55 < b) : 4 ≤ wI a b := by
  unfold wI
  rw [if_pos (show ((b % 8 - a % 8 = 0 ∨ b / 8 - a / 8 = 0 ∨ b % 8 - a % 8 = b / 8 - a / 8 ∨ b % 8 - a % 8 = a / 8 - b / 8) ∨ ((b % 8 - a % 8 = 1 ∨ b % 8 - a % 8 = -1) ∧ (b / 8 - a / 8 = 2 ∨ b / 8 - a / 8 = -2)) ∨ ((b % 8 - a % 8 = 2 ∨ b % 8 - a % 8 = -2) ∧ (b / 8 - a / 8 = 1 ∨ b / 8 - a / 8 = -1))) from h), if_pos (show ((b = a + 8) ∨ (b = a - 8) ∨ (b = a + 16 ∧ a / 8 = 1) ∨ (b = a - 16 ∧ a / 8 = 6) ∨ ((b / 8 = a / 8 + 1 ∨ b / 8 = a / 8 - 1) ∧ (b % 8 - a % 8 = 1 ∨ b % 8 - a % 8 = -1))) ∧ (b < 8 ∨ 55 < b) from ⟨h2, h3⟩)]
  decide
def cW (a : Int) : Nat → Int
  | 0 => 0
  | n + 1 => cW a n + wI a n
def cF : Nat → Int
  | 0 => 0
  | n + 1 => cF n + cW n 64
def cI (a b : Int) : Int := cF a.toNat + cW a b.toNat
theorem cI_00 : cI 0 0 = 0 := rfl
theorem cW_mono (a : Int) (n k : Nat) : cW a n ≤ cW a (n + k) := by
  induction k with
  | zero => exact Int.le_refl _
  | succ k ih =>
    have h1 : cW a (n + (k + 1)) = cW a (n + k) + wI a (n + k : Nat) := rfl
    have h2 := wI_0 a (n + k : Nat)
    omega
theorem cF_mono (n k : Nat) : cF n ≤ cF (n + k) := by
  induction k with
  | zero => exact Int.le_refl _
  | succ k ih =>
    have h1 : cF (n + (k + 1)) = cF (n + k) + cW (n + k : Nat) 64 := rfl
    have h2 := cW_mono (n + k : Nat) 0 64
    have h3 : cW (n + k : Nat) 0 = 0 := rfl
    rw [h3, Nat.zero_add] at h2
    omega
theorem cF_64 : cF 64 ≤ 2048 := by decide +kernel
theorem cI_step {a b : Int} (h1 : 0 ≤ a ∧ a ≤ 63) (h2 : 0 ≤ b ∧ b ≤ 63) : cI a (b + 1) = cI a b + wI a b := by
  unfold cI
  have e : (b + 1).toNat = b.toNat + 1 := by omega
  have h3 : cW a (b.toNat + 1) = cW a b.toNat + wI a (b.toNat : Nat) := rfl
  have h4 : ((b.toNat : Nat) : Int) = b := by omega
  rw [e, h3, h4, Int.add_assoc]
theorem cI_row {a b : Int} (h1 : 0 ≤ a ∧ a ≤ 63) (h2 : 0 ≤ b ∧ b ≤ 64) : cI a b ≤ cI (a + 1) 0 := by
  have e : (a + 1).toNat = a.toNat + 1 := by omega
  have h4 : ((a.toNat : Nat) : Int) = a := by omega
  have h3 : cI (a + 1) 0 = cF a.toNat + cW a 64 := by
    have h5 : cF (a.toNat + 1) = cF a.toNat + cW (a.toNat : Nat) 64 := rfl
    rw [h4] at h5
    show cF (a + 1).toNat + cW (a + 1) 0 = _
    have h6 : cW (a + 1) 0 = 0 := rfl
    rw [e, h5, h6, Int.add_zero]
  rw [h3]
  unfold cI
  have h7 := cW_mono a b.toNat (64 - b.toNat)
  have h8 : b.toNat + (64 - b.toNat) = 64 := by omega
  rw [h8] at h7
  omega
theorem cI_max {a b : Int} (h1 : 0 ≤ a ∧ a ≤ 63) (h2 : 0 ≤ b ∧ b ≤ 64) : cI a b ≤ 2048 := by
  have h3 := cI_row h1 h2
  have h4 : cI (a + 1) 0 = cF (a + 1).toNat := by
    show cF (a + 1).toNat + 0 = _
    rw [Int.add_zero]
  have h5 := cF_mono (a + 1).toNat (64 - (a + 1).toNat)
  have h6 : (a + 1).toNat + (64 - (a + 1).toNat) = 64 := by omega
  rw [h6] at h5
  have h7 := cF_64
  omega
theorem t_findMoves_163  {I : Nat → Int32} {A : Nat → Nat → Int32} {self7 : Int32 → (Nat → Int32) → (Nat → Nat → Int32) → Option (Int32 × MS)} {N7 : Nat} (hself7 : ∀ (x1 : Int32) (I : Nat → Int32) (A : Nat → Nat → Int32), TJ I → TK A → ((0 : Int) ≤ x1.toInt ∧ x1.toInt ≤ (64 : Int)) → ((I 29).toInt ≤ 1999) → ((I 33).toInt ≤ cI x1.toInt 0) → (64 - x1.toInt) < (N7 : Int) → Ok (self7 x1 I A) (fun o => TJ o.2.1 ∧ TK o.2.2 ∧ True)) {x1 : Int32} (hI : TJ I) (hA : TK A) (r_x1 : (0 : Int) ≤ x1.toInt ∧ x1.toInt ≤ (63 : Int)) (q0 : (I 29).toInt ≤ 1999) (q1 : (I 33).toInt ≤ cI (x1.toInt + 1) 0) (m7 : (64 - x1.toInt) ≤ (N7 : Int)) : Ok (f_findMoves_163 self7 x1 I A) (fun o => TJ o.2.1 ∧ TK o.2.2 ∧ True) := by
  unfold f_findMoves_163
  have b_I_29 := tI_29 hI
  have b_I_33 := tI_33 hI
  refine ok_bnd (fun v1 e1 => ?_)
  have t_v1 : v1.toInt = x1.toInt + 1 := ti_add e1 rfl (show (1 : Int32).toInt = 1 from rfl) (by omega) (by omega)
  exact hself7 v1 I A hI hA (by omega) q0 (by rw [t_v1]; exact q1) (by omega)
theorem t_findMoves_157  {I : Nat → Int32} {A : Nat → Nat → Int32} {self7 : Int32 → (Nat → Int32) → (Nat → Nat → Int32) → Option (Int32 × MS)} {N7 : Nat} (hself7 : ∀ (x1 : Int32) (I : Nat → Int32) (A : Nat → Nat → Int32), TJ I → TK A → ((0 : Int) ≤ x1.toInt ∧ x1.toInt ≤ (64 : Int)) → ((I 29).toInt ≤ 1999) → ((I 33).toInt ≤ cI x1.toInt 0) → (64 - x1.toInt) < (N7 : Int) → Ok (self7 x1 I A) (fun o => TJ o.2.1 ∧ TK o.2.2 ∧ True)) {self15 : Int32 → Int32 → (Nat → Int32) → (Nat → Nat → Int32) → Option (Int32 × MS)} {N15 : Nat} (hself15 : ∀ (x1 : Int32) (x2 : Int32) (I : Nat → Int32) (A : Nat → Nat → Int32), TJ I → TK A → ((0 : Int) ≤ x1.toInt ∧ x1.toInt ≤ (63 : Int)) → ((0 : Int) ≤ x2.toInt ∧ x2.toInt ≤ (64 : Int)) → ((I 29).toInt ≤ 1999) → ((I 33).toInt ≤ cI x1.toInt x2.toInt) → ((64 - x1.toInt) ≤ (N7 : Int)) → (64 - x2.toInt) < (N15 : Int) → Ok (self15 x1 x2 I A) (fun o => TJ o.2.1 ∧ TK o.2.2 ∧ True)) {x1 : Int32} {x2 : Int32} (hI : TJ I) (hA : TK A) (r_x1 : (0 : Int) ≤ x1.toInt ∧ x1.toInt ≤ (63 : Int)) (r_x2 : (0 : Int) ≤ x2.toInt ∧ x2.toInt ≤ (63 : Int)) (q0 : (I 29).toInt ≤ 1999) (q1 : (I 33).toInt ≤ cI x1.toInt (x2.toInt + 1)) (m7 : (64 - x1.toInt) ≤ (N7 : Int)) (m15 : (64 - x2.toInt) ≤ (N15 : Int)) : Ok (f_findMoves_157 self7 self15 x1 x2 I A) (fun o => TJ o.2.1 ∧ TK o.2.2 ∧ True) := by
  unfold f_findMoves_157
  have b_I_29 := tI_29 hI
  have b_I_33 := tI_33 hI
  refine ok_bnd (fun v1 e2 => ?_)
  have t_v1 : v1.toInt = x2.toInt + 1 := ti_add e2 rfl (show (1 : Int32).toInt = 1 from rfl) (by omega) (by omega)
  exact hself15 x1 v1 I A hI hA r_x1 (by omega) q0 (by rw [t_v1]; exact q1) m7 (by omega)
theorem t_findMoves_116  {I : Nat → Int32} {A : Nat → Nat → Int32} {self7 : Int32 → (Nat → Int32) → (Nat → Nat → Int32) → Option (Int32 × MS)} {N7 : Nat} (hself7 : ∀ (x1 : Int32) (I : Nat → Int32) (A : Nat → Nat → Int32), TJ I → TK A → ((0 : Int) ≤ x1.toInt ∧ x1.toInt ≤ (64 : Int)) → ((I 29).toInt ≤ 1999) → ((I 33).toInt ≤ cI x1.toInt 0) → (64 - x1.toInt) < (N7 : Int) → Ok (self7 x1 I A) (fun o => TJ o.2.1 ∧ TK o.2.2 ∧ True)) {self15 : Int32 → Int32 → (Nat → Int32) → (Nat → Nat → Int32) → Option (Int32 × MS)} {N15 : Nat} (hself15 : ∀ (x1 : Int32) (x2 : Int32) (I : Nat → Int32) (A : Nat → Nat → Int32), TJ I → TK A → ((0 : Int) ≤ x1.toInt ∧ x1.toInt ≤ (63 : Int)) → ((0 : Int) ≤ x2.toInt ∧ x2.toInt ≤ (64 : Int)) → ((I 29).toInt ≤ 1999) → ((I 33).toInt ≤ cI x1.toInt x2.toInt) → ((64 - x1.toInt) ≤ (N7 : Int)) → (64 - x2.toInt) < (N15 : Int) → Ok (self15 x1 x2 I A) (fun o => TJ o.2.1 ∧ TK o.2.2 ∧ True)) {self100 : Int32 → Int32 → Int32 → Int32 → Int32 → (Nat → Int32) → (Nat → Nat → Int32) → Option (Int32 × MS)} {N100 : Nat} (hself100 : ∀ (x1 : Int32) (x2 : Int32) (x3 : Int32) (x4 : Int32) (x5 : Int32) (I : Nat → Int32) (A : Nat → Nat → Int32), TJ I → TK A → ((0 : Int) ≤ x1.toInt ∧ x1.toInt ≤ (63 : Int)) → ((0 : Int) ≤ x2.toInt ∧ x2.toInt ≤ (63 : Int)) → ((0 : Int) ≤ x3.toInt ∧ x3.toInt ≤ (1 : Int)) → ((0 : Int) ≤ x4.toInt ∧ x4.toInt ≤ (1 : Int)) → ((0 : Int) ≤ x5.toInt ∧ x5.toInt ≤ (6 : Int)) → ((I 29).toInt ≤ 1999) → ((x3.toInt = 1 → 2 ≤ x5.toInt ∧ (I 33).toInt + (6 - x5.toInt) ≤ cI x1.toInt (x2.toInt + 1)) ∧ (x3.toInt = 0 → x5.toInt ≤ 1 ∧ (I 33).toInt + (1 - x5.toInt) ≤ cI x1.toInt (x2.toInt + 1))) → ((64 - x1.toInt) ≤ (N7 : Int)) → ((64 - x2.toInt) ≤ (N15 : Int)) → (7 - x5.toInt) < (N100 : Int) → Ok (self100 x1 x2 x3 x4 x5 I A) (fun o => TJ o.2.1 ∧ TK o.2.2 ∧ True)) {x1 : Int32} {x2 : Int32} {x3 : Int32} {x4 : Int32} {x5 : Int32} {t0 : Int32} {t1 : Int32} (hI : TJ I) (hA : TK A) (r_x1 : (0 : Int) ≤ x1.toInt ∧ x1.toInt ≤ (63 : Int)) (r_x2 : (0 : Int) ≤ x2.toInt ∧ x2.toInt ≤ (63 : Int)) (r_x3 : (0 : Int) ≤ x3.toInt ∧ x3.toInt ≤ (1 : Int)) (r_x4 : (0 : Int) ≤ x4.toInt ∧ x4.toInt ≤ (1 : Int)) (r_x5 : (0 : Int) ≤ x5.toInt ∧ x5.toInt ≤ (6 : Int)) (r_t0 : (0 : Int) ≤ t0.toInt ∧ t0.toInt ≤ (5 : Int)) (r_t1 : (0 : Int) ≤ t1.toInt ∧ t1.toInt ≤ (6 : Int)) (q0 : (I 29).toInt ≤ 1999) (q1 : (x3.toInt = 1 → 2 ≤ x5.toInt ∧ (I 33).toInt + (6 - x5.toInt) ≤ cI x1.toInt (x2.toInt + 1)) ∧ (x3.toInt = 0 → x5.toInt ≤ 1 ∧ (I 33).toInt + (1 - x5.toInt) ≤ cI x1.toInt (x2.toInt + 1))) (q2 : t1.toInt = x5.toInt ∧ (x3.toInt = 1 → t0.toInt = 5) ∧ (x3.toInt = 0 → t0.toInt = 0)) (m7 : (64 - x1.toInt) ≤ (N7 : Int)) (m15 : (64 - x2.toInt) ≤ (N15 : Int)) (m100 : (7 - x5.toInt) ≤ (N100 : Int)) : Ok (f_findMoves_116 self7 self15 self100 x1 x2 x3 x4 x5 t0 t1 I A) (fun o => TJ o.2.1 ∧ TK o.2.2 ∧ True) := by
  unfold f_findMoves_116
  have b_I_29 := tI_29 hI
  have b_I_33 := tI_33 hI
  have hC := cI_max (a := x1.toInt) (b := x2.toInt + 1) r_x1 (by omega)
  refine ok_if (fun c3 => ?_) (fun c3 => ?_)
  ·
    replace c3 := ti_ltP c3 rfl rfl
    exact t_findMoves_157   hself7 hself15 (x1 := x1) (x2 := x2) hI hA r_x1 r_x2 q0 (by omega) m7 m15
  ·
    replace c3 := ti_ltN c3 rfl rfl
    refine ok_bnd (fun v1 e4 => ?_)
    have t_v1 : v1.toInt = 64 * x2.toInt := ti_mul e4 (show (64 : Int32).toInt = 64 from rfl) rfl (by omega) (by omega)
    refine ok_bnd (fun v2 e5 => ?_)
    have t_v2 : v2.toInt = x1.toInt + v1.toInt := ti_add e5 rfl rfl (by omega) (by omega)
    refine ok_bnd (fun v3 e6 => ?_)
    have t_v3 : v3.toInt = 4096 * x5.toInt := ti_mul e6 (show (4096 : Int32).toInt = 4096 from rfl) rfl (by omega) (by omega)
    refine ok_bnd (fun v4 e7 => ?_)
    have t_v4 : v4.toInt = v2.toInt + v3.toInt := ti_add e7 rfl rfl (by omega) (by omega)
    refine ok_chk (ti_in (by omega) (by omega)) ?_
    refine ok_bnd (fun A5 e8 => ?_)
    have hA_A5 : TK A5 := e8.symm ▸ tk_u hA (j := 32) (show (0 : Int) ≤ v4.toInt from (by omega)) (show v4.toInt ≤ (24575 : Int) from (by omega))
    refine ok_bnd (fun v6 e9 => ?_)
    have t_v6 : v6.toInt = (I 33).toInt + 1 := ti_add e9 rfl (show (1 : Int32).toInt = 1 from rfl) (by omega) (by omega)
    refine ok_bnd (fun I7 e10 => ?_)
    have hI_I7 : TJ I7 := e10.symm ▸ tj_u hI (k := 33) (show (0 : Int) ≤ v6.toInt from (by omega)) (show v6.toInt ≤ (2048 : Int) from (by omega))
    have : (I7 29).toInt = (I 29).toInt := by rw [e10]; rfl
    have : (I7 33).toInt = v6.toInt := by rw [e10]; exact rfl
    refine ok_bnd (fun v8 e11 => ?_)
    have t_v8 : v8.toInt = x5.toInt + 1 := ti_add e11 rfl (show (1 : Int32).toInt = 1 from rfl) (by omega) (by omega)
    have b_I7_29 := tI_29 hI_I7
    have b_I7_33 := tI_33 hI_I7
    exact hself100 x1 x2 x3 x4 v8 I7 A5 hI_I7 hA_A5 r_x1 r_x2 r_x3 r_x4 (by omega) (by omega) (by omega) m7 m15 (by omega)
theorem t_findMoves_100s  {I : Nat → Int32} {A : Nat → Nat → Int32} {self7 : Int32 → (Nat → Int32) → (Nat → Nat → Int32) → Option (Int32 × MS)} {N7 : Nat} (hself7 : ∀ (x1 : Int32) (I : Nat → Int32) (A : Nat → Nat → Int32), TJ I → TK A → ((0 : Int) ≤ x1.toInt ∧ x1.toInt ≤ (64 : Int)) → ((I 29).toInt ≤ 1999) → ((I 33).toInt ≤ cI x1.toInt 0) → (64 - x1.toInt) < (N7 : Int) → Ok (self7 x1 I A) (fun o => TJ o.2.1 ∧ TK o.2.2 ∧ True)) {self15 : Int32 → Int32 → (Nat → Int32) → (Nat → Nat → Int32) → Option (Int32 × MS)} {N15 : Nat} (hself15 : ∀ (x1 : Int32) (x2 : Int32) (I : Nat → Int32) (A : Nat → Nat → Int32), TJ I → TK A → ((0 : Int) ≤ x1.toInt ∧ x1.toInt ≤ (63 : Int)) → ((0 : Int) ≤ x2.toInt ∧ x2.toInt ≤ (64 : Int)) → ((I 29).toInt ≤ 1999) → ((I 33).toInt ≤ cI x1.toInt x2.toInt) → ((64 - x1.toInt) ≤ (N7 : Int)) → (64 - x2.toInt) < (N15 : Int) → Ok (self15 x1 x2 I A) (fun o => TJ o.2.1 ∧ TK o.2.2 ∧ True)) {self100 : Int32 → Int32 → Int32 → Int32 → Int32 → (Nat → Int32) → (Nat → Nat → Int32) → Option (Int32 × MS)} {N100 : Nat} (hself100 : ∀ (x1 : Int32) (x2 : Int32) (x3 : Int32) (x4 : Int32) (x5 : Int32) (I : Nat → Int32) (A : Nat → Nat → Int32), TJ I → TK A → ((0 : Int) ≤ x1.toInt ∧ x1.toInt ≤ (63 : Int)) → ((0 : Int) ≤ x2.toInt ∧ x2.toInt ≤ (63 : Int)) → ((0 : Int) ≤ x3.toInt ∧ x3.toInt ≤ (1 : Int)) → ((0 : Int) ≤ x4.toInt ∧ x4.toInt ≤ (1 : Int)) → ((0 : Int) ≤ x5.toInt ∧ x5.toInt ≤ (6 : Int)) → ((I 29).toInt ≤ 1999) → ((x3.toInt = 1 → 2 ≤ x5.toInt ∧ (I 33).toInt + (6 - x5.toInt) ≤ cI x1.toInt (x2.toInt + 1)) ∧ (x3.toInt = 0 → x5.toInt ≤ 1 ∧ (I 33).toInt + (1 - x5.toInt) ≤ cI x1.toInt (x2.toInt + 1))) → ((64 - x1.toInt) ≤ (N7 : Int)) → ((64 - x2.toInt) ≤ (N15 : Int)) → (7 - x5.toInt) < (N100 : Int) → Ok (self100 x1 x2 x3 x4 x5 I A) (fun o => TJ o.2.1 ∧ TK o.2.2 ∧ True)) {x1 : Int32} {x2 : Int32} {x3 : Int32} {x4 : Int32} {x5 : Int32} (hI : TJ I) (hA : TK A) (r_x1 : (0 : Int) ≤ x1.toInt ∧ x1.toInt ≤ (63 : Int)) (r_x2 : (0 : Int) ≤ x2.toInt ∧ x2.toInt ≤ (63 : Int)) (r_x3 : (0 : Int) ≤ x3.toInt ∧ x3.toInt ≤ (1 : Int)) (r_x4 : (0 : Int) ≤ x4.toInt ∧ x4.toInt ≤ (1 : Int)) (r_x5 : (0 : Int) ≤ x5.toInt ∧ x5.toInt ≤ (6 : Int)) (q0 : (I 29).toInt ≤ 1999) (q1 : (x3.toInt = 1 → 2 ≤ x5.toInt ∧ (I 33).toInt + (6 - x5.toInt) ≤ cI x1.toInt (x2.toInt + 1)) ∧ (x3.toInt = 0 → x5.toInt ≤ 1 ∧ (I 33).toInt + (1 - x5.toInt) ≤ cI x1.toInt (x2.toInt + 1))) (m7 : (64 - x1.toInt) ≤ (N7 : Int)) (m15 : (64 - x2.toInt) ≤ (N15 : Int)) (m100 : (7 - x5.toInt) ≤ (N100 : Int)) : Ok (f_findMoves_100s self7 self15 self100 x1 x2 x3 x4 x5 I A) (fun o => TJ o.2.1 ∧ TK o.2.2 ∧ True) := by
  unfold f_findMoves_100s
  have b_I_29 := tI_29 hI
  have b_I_33 := tI_33 hI
  refine ok_if (fun c12 => ?_) (fun c12 => ?_)
  ·
    replace c12 := ti_eqP c12 rfl (show (0 : Int32).toInt = 0 from rfl)
    exact t_findMoves_157   hself7 hself15 (x1 := x1) (x2 := x2) hI hA r_x1 r_x2 q0 (by omega) m7 m15
  ·
    replace c12 := ti_eqN c12 rfl (show (0 : Int32).toInt = 0 from rfl)
    refine ok_if (fun c13 => ?_) (fun c13 => ?_)
    ·
      replace c13 := ti_eqP c13 rfl (show (0 : Int32).toInt = 0 from rfl)
      exact t_findMoves_116   hself7 hself15 hself100 (x1 := x1) (x2 := x2) (x3 := x3) (x4 := x4) (x5 := x5) (t0 := (0 : Int32)) (t1 := x5) hI hA r_x1 r_x2 r_x3 r_x4 r_x5 (by decide) r_x5 q0 q1 (by have z0 : (0 : Int32).toInt = 0 := rfl; omega) m7 m15 m100
    ·
      replace c13 := ti_eqN c13 rfl (show (0 : Int32).toInt = 0 from rfl)
      exact t_findMoves_116   hself7 hself15 hself100 (x1 := x1) (x2 := x2) (x3 := x3) (x4 := x4) (x5 := x5) (t0 := (5 : Int32)) (t1 := x5) hI hA r_x1 r_x2 r_x3 r_x4 r_x5 (by decide) r_x5 q0 q1 (by have z0 : (5 : Int32).toInt = 5 := rfl; omega) m7 m15 m100
theorem t_findMoves_100  {self7 : Int32 → (Nat → Int32) → (Nat → Nat → Int32) → Option (Int32 × MS)} {N7 : Nat} (hself7 : ∀ (x1 : Int32) (I : Nat → Int32) (A : Nat → Nat → Int32), TJ I → TK A → ((0 : Int) ≤ x1.toInt ∧ x1.toInt ≤ (64 : Int)) → ((I 29).toInt ≤ 1999) → ((I 33).toInt ≤ cI x1.toInt 0) → (64 - x1.toInt) < (N7 : Int) → Ok (self7 x1 I A) (fun o => TJ o.2.1 ∧ TK o.2.2 ∧ True)) {self15 : Int32 → Int32 → (Nat → Int32) → (Nat → Nat → Int32) → Option (Int32 × MS)} {N15 : Nat} (hself15 : ∀ (x1 : Int32) (x2 : Int32) (I : Nat → Int32) (A : Nat → Nat → Int32), TJ I → TK A → ((0 : Int) ≤ x1.toInt ∧ x1.toInt ≤ (63 : Int)) → ((0 : Int) ≤ x2.toInt ∧ x2.toInt ≤ (64 : Int)) → ((I 29).toInt ≤ 1999) → ((I 33).toInt ≤ cI x1.toInt x2.toInt) → ((64 - x1.toInt) ≤ (N7 : Int)) → (64 - x2.toInt) < (N15 : Int) → Ok (self15 x1 x2 I A) (fun o => TJ o.2.1 ∧ TK o.2.2 ∧ True)) : ∀ (n : Nat) (x1 : Int32) (x2 : Int32) (x3 : Int32) (x4 : Int32) (x5 : Int32) (I : Nat → Int32) (A : Nat → Nat → Int32), TJ I → TK A → ((0 : Int) ≤ x1.toInt ∧ x1.toInt ≤ (63 : Int)) → ((0 : Int) ≤ x2.toInt ∧ x2.toInt ≤ (63 : Int)) → ((0 : Int) ≤ x3.toInt ∧ x3.toInt ≤ (1 : Int)) → ((0 : Int) ≤ x4.toInt ∧ x4.toInt ≤ (1 : Int)) → ((0 : Int) ≤ x5.toInt ∧ x5.toInt ≤ (6 : Int)) → ((I 29).toInt ≤ 1999) → ((x3.toInt = 1 → 2 ≤ x5.toInt ∧ (I 33).toInt + (6 - x5.toInt) ≤ cI x1.toInt (x2.toInt + 1)) ∧ (x3.toInt = 0 → x5.toInt ≤ 1 ∧ (I 33).toInt + (1 - x5.toInt) ≤ cI x1.toInt (x2.toInt + 1))) → ((64 - x1.toInt) ≤ (N7 : Int)) → ((64 - x2.toInt) ≤ (N15 : Int)) → (7 - x5.toInt) < (n : Int) → Ok (f_findMoves_100 self7 self15 n x1 x2 x3 x4 x5 I A) (fun o => TJ o.2.1 ∧ TK o.2.2 ∧ True) := by
  intro n
  induction n with
  | zero => intro x1 x2 x3 x4 x5 I A hI hA g0 g1 g2 g3 g4 g5 g6 w0 w1 hm; exfalso; omega
  | succ n ih =>
    intro x1 x2 x3 x4 x5 I A hI hA g0 g1 g2 g3 g4 g5 g6 w0 w1 hm
    exact t_findMoves_100s   (N100 := n) hself7 hself15 ih hI hA g0 g1 g2 g3 g4 g5 g6 w0 w1 (by omega)
theorem t_findMoves_76  {I : Nat → Int32} {A : Nat → Nat → Int32} {self7 : Int32 → (Nat → Int32) → (Nat → Nat → Int32) → Option (Int32 × MS)} {N7 : Nat} (hself7 : ∀ (x1 : Int32) (I : Nat → Int32) (A : Nat → Nat → Int32), TJ I → TK A → ((0 : Int) ≤ x1.toInt ∧ x1.toInt ≤ (64 : Int)) → ((I 29).toInt ≤ 1999) → ((I 33).toInt ≤ cI x1.toInt 0) → (64 - x1.toInt) < (N7 : Int) → Ok (self7 x1 I A) (fun o => TJ o.2.1 ∧ TK o.2.2 ∧ True)) {self15 : Int32 → Int32 → (Nat → Int32) → (Nat → Nat → Int32) → Option (Int32 × MS)} {N15 : Nat} (hself15 : ∀ (x1 : Int32) (x2 : Int32) (I : Nat → Int32) (A : Nat → Nat → Int32), TJ I → TK A → ((0 : Int) ≤ x1.toInt ∧ x1.toInt ≤ (63 : Int)) → ((0 : Int) ≤ x2.toInt ∧ x2.toInt ≤ (64 : Int)) → ((I 29).toInt ≤ 1999) → ((I 33).toInt ≤ cI x1.toInt x2.toInt) → ((64 - x1.toInt) ≤ (N7 : Int)) → (64 - x2.toInt) < (N15 : Int) → Ok (self15 x1 x2 I A) (fun o => TJ o.2.1 ∧ TK o.2.2 ∧ True)) {x1 : Int32} {x2 : Int32} {t0 : Int32} (hI : TJ I) (hA : TK A) (r_x1 : (0 : Int) ≤ x1.toInt ∧ x1.toInt ≤ (63 : Int)) (r_x2 : (0 : Int) ≤ x2.toInt ∧ x2.toInt ≤ (63 : Int)) (r_t0 : (0 : Int) ≤ t0.toInt ∧ t0.toInt ≤ (1 : Int)) (q0 : (I 29).toInt ≤ 1999) (q1 : pGE x1.toInt x2.toInt) (q2 : (t0.toInt = 1 → pPG x1.toInt x2.toInt ∧ (x2.toInt < 8 ∨ 55 < x2.toInt))) (q3 : (I 33).toInt ≤ cI x1.toInt x2.toInt) (m7 : (64 - x1.toInt) ≤ (N7 : Int)) (m15 : (64 - x2.toInt) ≤ (N15 : Int)) : Ok (f_findMoves_76 self7 self15 x1 x2 t0 I A) (fun o => TJ o.2.1 ∧ TK o.2.2 ∧ True) := by
  unfold f_findMoves_76
  have b_I_29 := tI_29 hI
  have b_I_33 := tI_33 hI
  have s1 := cI_step r_x1 r_x2
  have s2 := wI_1 q1
  have s3 : t0.toInt = 1 → 4 ≤ wI x1.toInt x2.toInt := fun h => wI_4 q1 (q2 h).1 (q2 h).2
  refine ok_bnd (fun v1 e14 => ?_)
  have t_v1 : v1.toInt = 64 * x2.toInt := ti_mul e14 (show (64 : Int32).toInt = 64 from rfl) rfl (by omega) (by omega)
  refine ok_bnd (fun v2 e15 => ?_)
  have t_v2 : v2.toInt = x1.toInt + v1.toInt := ti_add e15 rfl rfl (by omega) (by omega)
  obtain ⟨r3, h_r3, p_r3⟩ := t_isSafe (x1 := v2) hI hA (by omega) q0
  refine ok_clR h_r3 ?_
  clear h_r3
  have hA_Ac3 := tk_nA hI hA
  have fA_Ac3 : ∀ j, j ≠ 30 → j ≠ 31 → nA I A j = A j := fun j a b => nA_o a b
  generalize nA I A = Ac3 at hA_Ac3 fA_Ac3 ⊢
  refine ok_if (fun c16 => ?_) (fun c16 => ?_)
  ·
    replace c16 := ti_eqP c16 rfl (show (0 : Int32).toInt = 0 from rfl)
    unfold f_findMoves_98
    exact t_findMoves_100   hself7 hself15  mFuel x1 x2 t0 r3 (0 : Int32) I Ac3 hI hA_Ac3 r_x1 r_x2 r_t0 (by omega) (by decide) q0 (by have z0 : (0 : Int32).toInt = 0 := rfl; omega) m7 m15 (by show _ < ((200000 : Nat) : Int); have z0 : (0 : Int32).toInt = 0 := rfl; omega)
  ·
    replace c16 := ti_eqN c16 rfl (show (0 : Int32).toInt = 0 from rfl)
    unfold f_findMoves_98
    exact t_findMoves_100   hself7 hself15  mFuel x1 x2 t0 r3 (2 : Int32) I Ac3 hI hA_Ac3 r_x1 r_x2 r_t0 (by omega) (by decide) q0 (by have z0 : (2 : Int32).toInt = 2 := rfl; omega) m7 m15 (by show _ < ((200000 : Nat) : Int); have z0 : (2 : Int32).toInt = 2 := rfl; omega)
theorem t_findMoves_15s  {I : Nat → Int32} {A : Nat → Nat → Int32} {self7 : Int32 → (Nat → Int32) → (Nat → Nat → Int32) → Option (Int32 × MS)} {N7 : Nat} (hself7 : ∀ (x1 : Int32) (I : Nat → Int32) (A : Nat → Nat → Int32), TJ I → TK A → ((0 : Int) ≤ x1.toInt ∧ x1.toInt ≤ (64 : Int)) → ((I 29).toInt ≤ 1999) → ((I 33).toInt ≤ cI x1.toInt 0) → (64 - x1.toInt) < (N7 : Int) → Ok (self7 x1 I A) (fun o => TJ o.2.1 ∧ TK o.2.2 ∧ True)) {self15 : Int32 → Int32 → (Nat → Int32) → (Nat → Nat → Int32) → Option (Int32 × MS)} {N15 : Nat} (hself15 : ∀ (x1 : Int32) (x2 : Int32) (I : Nat → Int32) (A : Nat → Nat → Int32), TJ I → TK A → ((0 : Int) ≤ x1.toInt ∧ x1.toInt ≤ (63 : Int)) → ((0 : Int) ≤ x2.toInt ∧ x2.toInt ≤ (64 : Int)) → ((I 29).toInt ≤ 1999) → ((I 33).toInt ≤ cI x1.toInt x2.toInt) → ((64 - x1.toInt) ≤ (N7 : Int)) → (64 - x2.toInt) < (N15 : Int) → Ok (self15 x1 x2 I A) (fun o => TJ o.2.1 ∧ TK o.2.2 ∧ True)) {x1 : Int32} {x2 : Int32} (hI : TJ I) (hA : TK A) (r_x1 : (0 : Int) ≤ x1.toInt ∧ x1.toInt ≤ (63 : Int)) (r_x2 : (0 : Int) ≤ x2.toInt ∧ x2.toInt ≤ (64 : Int)) (q0 : (I 29).toInt ≤ 1999) (q1 : (I 33).toInt ≤ cI x1.toInt x2.toInt) (m7 : (64 - x1.toInt) ≤ (N7 : Int)) (m15 : (64 - x2.toInt) ≤ (N15 : Int)) : Ok (f_findMoves_15s self7 self15 x1 x2 I A) (fun o => TJ o.2.1 ∧ TK o.2.2 ∧ True) := by
  unfold f_findMoves_15s
  have b_I_29 := tI_29 hI
  have b_I_33 := tI_33 hI
  have s1 := cI_row (a := x1.toInt) (b := x2.toInt) r_x1 r_x2
  refine ok_if (fun c17 => ?_) (fun c17 => ?_)
  ·
    replace c17 := ti_leP c17 (show (64 : Int32).toInt = 64 from rfl) rfl
    exact t_findMoves_163   hself7 (x1 := x1) hI hA r_x1 q0 (by omega) m7
  ·
    replace c17 := ti_leN c17 (show (64 : Int32).toInt = 64 from rfl) rfl
    refine ok_chk (ti_in (by omega) (by omega)) ?_
    refine ok_bnd (fun v1 e18 => ?_)
    obtain ⟨r2, h_r2, p_r2⟩ := ro (t_sideOf (x0 := v1)  hI hA )
    refine ok_clR h_r2 ?_
    have b_I_25 := tI_25 hI
    refine ok_if (fun c19 => ?_) (fun c19 => ?_)
    ·
      replace c19 := ti_eqP c19 rfl rfl
      obtain ⟨r3, h_r3, p_r3⟩ := ro (t_goes (x1 := x1) (x2 := x2)  hI hA r_x1 (by omega) ⟨rfl, rfl⟩ rfl)
      refine ok_clR h_r3 ?_
      dsimp only at p_r3
      have s2 : x2.toInt ≤ 63 → cI x1.toInt (x2.toInt + 1) = cI x1.toInt x2.toInt + wI x1.toInt x2.toInt := fun h => cI_step r_x1 (by omega)
      have s3 := wI_0 x1.toInt x2.toInt
      refine ok_if (fun c20 => ?_) (fun c20 => ?_)
      ·
        replace c20 := ti_eqP c20 rfl (show (0 : Int32).toInt = 0 from rfl)
        exact t_findMoves_157   hself7 hself15 (x1 := x1) (x2 := x2) hI hA r_x1 (by omega) q0 (by omega) m7 m15
      ·
        replace c20 := ti_eqN c20 rfl (show (0 : Int32).toInt = 0 from rfl)
        refine ok_chk (ti_in (by omega) (by omega)) ?_
        refine ok_bnd (fun v4 e21 => ?_)
        obtain ⟨r5, h_r5, p_r5⟩ := ro (t_kind (x0 := v4)  hI hA )
        refine ok_clR h_r5 ?_
        dsimp only at p_r5
        have k5 : ((A 24 (x1).toNatClampNeg) &&& (7 : Int32)).toInt = r5.toInt := by rw [p_r5.2, e21]
        refine ok_if (fun c22 => ?_) (fun c22 => ?_)
        ·
          replace c22 := ti_eqP c22 rfl (show (1 : Int32).toInt = 1 from rfl)
          refine ok_if (fun c23 => ?_) (fun c23 => ?_)
          ·
            replace c23 := ti_ltP c23 rfl (show (8 : Int32).toInt = 8 from rfl)
            unfold f_findMoves_71
            exact t_findMoves_76   hself7 hself15 (x1 := x1) (x2 := x2) (t0 := (1 : Int32)) hI hA r_x1 (by omega) (by decide) q0 (p_r3.2.1 (by omega)) (fun _ => ⟨p_r3.2.2 (by omega) (by omega), by omega⟩) q1 m7 m15
          ·
            replace c23 := ti_ltN c23 rfl (show (8 : Int32).toInt = 8 from rfl)
            refine ok_if (fun c24 => ?_) (fun c24 => ?_)
            ·
              replace c24 := ti_leP c24 rfl (show (55 : Int32).toInt = 55 from rfl)
              unfold f_findMoves_75
              exact t_findMoves_76   hself7 hself15 (x1 := x1) (x2 := x2) (t0 := (0 : Int32)) hI hA r_x1 (by omega) (by decide) q0 (p_r3.2.1 (by omega)) (fun h => absurd h (by decide)) q1 m7 m15
            ·
              replace c24 := ti_leN c24 rfl (show (55 : Int32).toInt = 55 from rfl)
              unfold f_findMoves_71
              exact t_findMoves_76   hself7 hself15 (x1 := x1) (x2 := x2) (t0 := (1 : Int32)) hI hA r_x1 (by omega) (by decide) q0 (p_r3.2.1 (by omega)) (fun _ => ⟨p_r3.2.2 (by omega) (by omega), by omega⟩) q1 m7 m15
        ·
          replace c22 := ti_eqN c22 rfl (show (1 : Int32).toInt = 1 from rfl)
          unfold f_findMoves_75
          exact t_findMoves_76   hself7 hself15 (x1 := x1) (x2 := x2) (t0 := (0 : Int32)) hI hA r_x1 (by omega) (by decide) q0 (p_r3.2.1 (by omega)) (fun h => absurd h (by decide)) q1 m7 m15
    ·
      replace c19 := ti_eqN c19 rfl rfl
      exact t_findMoves_163   hself7 (x1 := x1) hI hA r_x1 q0 (by omega) m7
theorem t_findMoves_15  {self7 : Int32 → (Nat → Int32) → (Nat → Nat → Int32) → Option (Int32 × MS)} {N7 : Nat} (hself7 : ∀ (x1 : Int32) (I : Nat → Int32) (A : Nat → Nat → Int32), TJ I → TK A → ((0 : Int) ≤ x1.toInt ∧ x1.toInt ≤ (64 : Int)) → ((I 29).toInt ≤ 1999) → ((I 33).toInt ≤ cI x1.toInt 0) → (64 - x1.toInt) < (N7 : Int) → Ok (self7 x1 I A) (fun o => TJ o.2.1 ∧ TK o.2.2 ∧ True)) : ∀ (n : Nat) (x1 : Int32) (x2 : Int32) (I : Nat → Int32) (A : Nat → Nat → Int32), TJ I → TK A → ((0 : Int) ≤ x1.toInt ∧ x1.toInt ≤ (63 : Int)) → ((0 : Int) ≤ x2.toInt ∧ x2.toInt ≤ (64 : Int)) → ((I 29).toInt ≤ 1999) → ((I 33).toInt ≤ cI x1.toInt x2.toInt) → ((64 - x1.toInt) ≤ (N7 : Int)) → (64 - x2.toInt) < (n : Int) → Ok (f_findMoves_15 self7 n x1 x2 I A) (fun o => TJ o.2.1 ∧ TK o.2.2 ∧ True) := by
  intro n
  induction n with
  | zero => intro x1 x2 I A hI hA g0 g1 g2 g3 w0 hm; exfalso; omega
  | succ n ih =>
    intro x1 x2 I A hI hA g0 g1 g2 g3 w0 hm
    exact t_findMoves_15s   (N15 := n) hself7 ih hI hA g0 g1 g2 g3 w0 (by omega)
theorem t_findMoves_7s  {I : Nat → Int32} {A : Nat → Nat → Int32} {self7 : Int32 → (Nat → Int32) → (Nat → Nat → Int32) → Option (Int32 × MS)} {N7 : Nat} (hself7 : ∀ (x1 : Int32) (I : Nat → Int32) (A : Nat → Nat → Int32), TJ I → TK A → ((0 : Int) ≤ x1.toInt ∧ x1.toInt ≤ (64 : Int)) → ((I 29).toInt ≤ 1999) → ((I 33).toInt ≤ cI x1.toInt 0) → (64 - x1.toInt) < (N7 : Int) → Ok (self7 x1 I A) (fun o => TJ o.2.1 ∧ TK o.2.2 ∧ True)) {x1 : Int32} (hI : TJ I) (hA : TK A) (r_x1 : (0 : Int) ≤ x1.toInt ∧ x1.toInt ≤ (64 : Int)) (q0 : (I 29).toInt ≤ 1999) (q1 : (I 33).toInt ≤ cI x1.toInt 0) (m7 : (64 - x1.toInt) ≤ (N7 : Int)) : Ok (f_findMoves_7s self7 x1 I A) (fun o => TJ o.2.1 ∧ TK o.2.2 ∧ True) := by
  unfold f_findMoves_7s
  have b_I_29 := tI_29 hI
  have b_I_33 := tI_33 hI
  refine ok_if (fun c25 => ?_) (fun c25 => ?_)
  ·
    replace c25 := ti_leP c25 (show (64 : Int32).toInt = 64 from rfl) rfl
    exact ok_ret ⟨hI, hA, trivial⟩
  ·
    replace c25 := ti_leN c25 (show (64 : Int32).toInt = 64 from rfl) rfl
    exact t_findMoves_15   hself7  mFuel x1 (0 : Int32) I A hI hA (by omega) (by decide) q0 (by have z0 : (0 : Int32).toInt = 0 := rfl; rw [z0]; omega) m7 (by show _ < ((200000 : Nat) : Int); have z0 : (0 : Int32).toInt = 0 := rfl; omega)
theorem t_findMoves_7   : ∀ (n : Nat) (x1 : Int32) (I : Nat → Int32) (A : Nat → Nat → Int32), TJ I → TK A → ((0 : Int) ≤ x1.toInt ∧ x1.toInt ≤ (64 : Int)) → ((I 29).toInt ≤ 1999) → ((I 33).toInt ≤ cI x1.toInt 0) → (64 - x1.toInt) < (n : Int) → Ok (f_findMoves_7  n x1 I A) (fun o => TJ o.2.1 ∧ TK o.2.2 ∧ True) := by
  intro n
  induction n with
  | zero => intro x1 I A hI hA g0 g1 g2  hm; exfalso; omega
  | succ n ih =>
    intro x1 I A hI hA g0 g1 g2  hm
    exact t_findMoves_7s   (N7 := n)  ih hI hA g0 g1 g2  (by omega)
theorem t_findMoves_0  {I : Nat → Int32} {A : Nat → Nat → Int32} (hI : TJ I) (hA : TK A) (q0 : (I 29).toInt ≤ 1999) : Ok (f_findMoves_0 I A) (fun o => TJ o.2.1 ∧ TK o.2.2 ∧ True) := by
  unfold f_findMoves_0
  have b_I_29 := tI_29 hI
  have b_I_33 := tI_33 hI
  refine ok_bnd (fun I1 e26 => ?_)
  have hI_I1 : TJ I1 := e26.symm ▸ tj_u hI (k := 33) (show (0 : Int) ≤ (0 : Int32).toInt from (by decide)) (show (0 : Int32).toInt ≤ (2048 : Int) from (by decide))
  have : (I1 29).toInt = (I 29).toInt := by rw [e26]; rfl
  have : (I1 33).toInt = 0 := by rw [e26]; exact (show (0 : Int32).toInt = 0 from rfl)
  have b_I1_29 := tI_29 hI_I1
  have b_I1_33 := tI_33 hI_I1
  exact t_findMoves_7     mFuel (0 : Int32) I1 A hI_I1 hA (by decide) (by have z0 : (0 : Int32).toInt = 0 := rfl; omega) (by have z0 : (0 : Int32).toInt = 0 := rfl; rw [z0, cI_00]; omega) (by show _ < ((200000 : Nat) : Int); have z0 : (0 : Int32).toInt = 0 := rfl; omega)
theorem t_findMoves  {I : Nat → Int32} {A : Nat → Nat → Int32}  (hI : TJ I) (hA : TK A) (q0 : (I 29).toInt ≤ 1999) : Ok (f_findMoves  I A) (fun o => TJ o.2.1 ∧ TK o.2.2 ∧ True) := t_findMoves_0  hI hA q0
