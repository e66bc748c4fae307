theorem mB_at {S : ZS} {b c : Nat} {x v : Int32} (p : zP S 0 b = some c) (e : v = zA S c (x).toNatClampNeg) (h1 : 0 ≤ x.toInt) (h2 : x.toInt < 64) : v.toInt = mCb S b x.toInt := by
  unfold mCb
  rw [if_pos ⟨h1, h2⟩, p, e]
  rfl
section ATC
variable {P : Prop} {m : Int → Int}
theorem ac_0 (h : P ↔ P) : True := trivial
theorem ac_54 {a b k : Int} (h : P ↔ attk m a b) (hk : m a = k) (h1 : k % 8 = 1) : P ↔ paw k (b % 8 - a % 8) (b / 8 - a / 8) := by
  rw [h]
  unfold attk
  rw [hk, h1]
  constructor
  · rintro (g | g | g | g)
    · exact g.2
    · exact absurd g.1 (by decide)
    · exact absurd g.1 (by decide)
    · have := g.1
      unfold lin at this
      omega
  · intro g
    exact Or.inl ⟨rfl, g⟩
theorem ac_94 {a b k : Int} (h : P ↔ attk m a b) (hk : m a % 8 = k) (h1 : k = 2) : P ↔ kni (b % 8 - a % 8) (b / 8 - a / 8) := by
  rw [h]
  unfold attk
  rw [hk, h1]
  constructor
  · rintro (g | g | g | g)
    · exact absurd g.1 (by decide)
    · exact g.2
    · exact absurd g.1 (by decide)
    · have := g.1
      unfold lin at this
      omega
  · intro g
    exact Or.inr (Or.inl ⟨rfl, g⟩)
theorem ac_105 {a b k x y : Int} (h : P ↔ attk m a b) (hk : m a % 8 = k) (h1 : k ≠ 1) (h2 : k ≠ 2) (hx : x = b % 8 - a % 8) (hy : y = b / 8 - a / 8) : P ↔ (k = 6 ∧ kin x y) ∨ (lin k x y ∧ clr m a x y) := by
  rw [h]
  unfold attk
  rw [hk, ← hx, ← hy]
  constructor
  · rintro (g | g | g | g)
    · exact absurd g.1 h1
    · exact absurd g.1 h2
    · exact Or.inl g
    · exact Or.inr g
  · rintro (g | g)
    · exact Or.inr (Or.inr (Or.inl g))
    · exact Or.inr (Or.inr (Or.inr g))
theorem ac_172 {a k x y : Int} (h : P ↔ (k = 6 ∧ kin x y) ∨ (lin k x y ∧ clr m a x y)) (h1 : k ≠ 6) : P ↔ lin k x y ∧ clr m a x y := by
  rw [h]
  exact ⟨fun g => g.elim (fun z => absurd z.1 h1) id, Or.inr⟩
theorem ac_king {a k x y n : Int} (h : P ↔ (k = 6 ∧ kin x y) ∨ (lin k x y ∧ clr m a x y)) (h1 : k = 6) (hn : n = 1 ↔ kin x y) : n = 1 ↔ P := by
  rw [h, hn, h1]
  refine ⟨fun g => Or.inl ⟨rfl, g⟩, fun g => g.elim (fun z => z.2) (fun z => ?_)⟩
  have := z.1
  unfold lin at this
  omega
theorem ac_223 {a k x y t : Int} (h : P ↔ lin k x y ∧ clr m a x y) (ht : t = 1 ∧ (x ≠ 0 ∨ y ≠ 0) ↔ lin k x y) : P ↔ (t = 1 ∧ (x ≠ 0 ∨ y ≠ 0)) ∧ clr m a x y := by
  rw [h, ht]
theorem ac_254 {a x y t n u : Int} (h : P ↔ (t = 1 ∧ (x ≠ 0 ∨ y ≠ 0)) ∧ clr m a x y) (ht : t = 1 ∧ (x ≠ 0 ∨ y ≠ 0)) (hn : n = nst x y) (hu : u = sg x) : P ↔ ∀ j : Int, 1 ≤ j → j < n → m (a + j * (u + 8 * sg y)) = 0 := by
  rw [h, hn, hu]
  exact ⟨fun g => g.2, fun g => ⟨ht, g⟩⟩
theorem ac_275 {a n u y s : Int} (h : P ↔ ∀ j : Int, 1 ≤ j → j < n → m (a + j * (u + 8 * sg y)) = 0) (hs : s = 8 * sg y) : P ↔ ∀ j : Int, 1 ≤ j → j < n → m (a + j * (u + s)) = 0 := by
  rw [h, hs]
theorem ac_self {a n s i k v : Int} (h : P ↔ ∀ j : Int, i ≤ j → j < n → m (a + j * s) = 0) (hi : k = i + 1) (hv : m (a + i * s) = v) (h0 : v = 0) : P ↔ ∀ j : Int, k ≤ j → j < n → m (a + j * s) = 0 := by
  rw [h, hi]
  constructor
  · intro g j j1 j2
    exact g j (by omega) j2
  · intro g j j1 j2
    by_cases e : j = i
    · rw [e, hv, h0]
    · exact g j (by omega) j2
theorem ac_end {a n s i : Int} (h : P ↔ ∀ j : Int, i ≤ j → j < n → m (a + j * s) = 0) (hi : n ≤ i) : (1 : Int32).toInt = 1 ↔ P := by
  rw [h]
  exact ⟨fun _ j j1 j2 => by omega, fun _ => rfl⟩
theorem ac_no {a n s i v : Int} (h : P ↔ ∀ j : Int, i ≤ j → j < n → m (a + j * s) = 0) (hi : i < n) (hv : m (a + i * s) = v) (h0 : v ≠ 0) : (0 : Int32).toInt = 1 ↔ P := by
  rw [h]
  exact ⟨fun g => absurd g (by decide), fun g => absurd (hv.symm.trans (g i (Int.le_refl _) hi)) h0⟩
end ATC
theorem x_f_X0_kindAt_0 {S : ZS} {x0 : Nat} {x1 : Int32} (hT : ZT S) (r_x0 : zK S x0 = 0) (r_x1 : (0 : Int) ≤ x1.toInt ∧ x1.toInt ≤ (63 : Int)) (q0 : MBd (mCb S x0)) : Ok (f_X0_kindAt_0 x0 x1 S) (fun o => o.2 = S ∧ ((0 : Int) ≤ o.1.toInt ∧ o.1.toInt ≤ (7 : Int)) ∧ (o.1.toInt = mCb S x0 x1.toInt % 8)) := by
  unfold f_X0_kindAt_0
  refine ok_chk r_x0 ?_
  obtain ⟨b1, p_b1, k_b1, n_b1⟩ := T_0_0 hT r_x0
  refine ok_calR p_b1 ?_
  refine ok_chk k_b1 ?_
  refine ok_chk (ti_inN (v := x1) (n := 64) n_b1 (by omega) (by omega)) ?_
  refine ok_bnd (fun v2 e1 => ?_)
  have u_v2 : v2.toInt = mCb S x0 x1.toInt := mB_at (x := x1) p_b1 e1 (by omega) (by omega)
  have w_v2 := q0 (x1.toInt)
  refine ok_bnd (fun v3 e2 => ?_)
  have t_v3 : v3.toInt = v2.toInt % 8 := b_and7 e2 (by omega)
  exact ok_ret ⟨rfl, (show (0 : Int) ≤ v3.toInt ∧ v3.toInt ≤ (7 : Int) from (by omega)), (by show v3.toInt = mCb S x0 x1.toInt % 8; omega)⟩
theorem x_f_X0_kindAt {S : ZS} {x0 : Nat} {x1 : Int32} (hT : ZT S) (r_x0 : zK S x0 = 0) (r_x1 : (0 : Int) ≤ x1.toInt ∧ x1.toInt ≤ (63 : Int)) (q0 : MBd (mCb S x0)) : Ok (f_X0_kindAt x0 x1 S) (fun o => o.2 = S ∧ ((0 : Int) ≤ o.1.toInt ∧ o.1.toInt ≤ (7 : Int)) ∧ (o.1.toInt = mCb S x0 x1.toInt % 8)) := x_f_X0_kindAt_0 hT r_x0 r_x1 q0
theorem x_f_X0_attacks_281s {P : Prop} {S : ZS} {self281 : Nat → Int32 → Int32 → Int32 → Int32 → ZS → Option (Int32 × ZS)} {N281 : Nat} (hself281 : ∀ (x0 : Nat) (x1 : Int32) (x8 : Int32) (x11 : Int32) (x12 : Int32),  (zK S x0 = 0) → ((0 : Int) ≤ x1.toInt ∧ x1.toInt ≤ (63 : Int)) → ((0 : Int) ≤ x8.toInt ∧ x8.toInt ≤ (7 : Int)) → ((-9 : Int) ≤ x11.toInt ∧ x11.toInt ≤ (9 : Int)) → ((1 : Int) ≤ x12.toInt ∧ x12.toInt ≤ (8 : Int)) → (wayk x1.toInt x11.toInt x8.toInt) → (P ↔ ∀ j : Int, x12.toInt ≤ j → j < x8.toInt → mCb S x0 (x1.toInt + j * x11.toInt) = 0) → (9 - x12.toInt) < (N281 : Int) → Ok (self281 x0 x1 x8 x11 x12 S) (fun o => o.2 = S ∧ ((0 : Int) ≤ o.1.toInt ∧ o.1.toInt ≤ (1 : Int)) ∧ ((o.1.toInt = 1 ↔ P)))) {x0 : Nat} {x1 : Int32} {x8 : Int32} {x11 : Int32} {x12 : Int32} (hT : ZT S) (r_x0 : zK S x0 = 0) (r_x1 : (0 : Int) ≤ x1.toInt ∧ x1.toInt ≤ (63 : Int)) (r_x8 : (0 : Int) ≤ x8.toInt ∧ x8.toInt ≤ (7 : Int)) (r_x11 : (-9 : Int) ≤ x11.toInt ∧ x11.toInt ≤ (9 : Int)) (r_x12 : (1 : Int) ≤ x12.toInt ∧ x12.toInt ≤ (8 : Int)) (q0 : wayk x1.toInt x11.toInt x8.toInt) (q1 : P ↔ ∀ j : Int, x12.toInt ≤ j → j < x8.toInt → mCb S x0 (x1.toInt + j * x11.toInt) = 0) (m281 : (9 - x12.toInt) ≤ (N281 : Int)) : Ok (f_X0_attacks_281s self281 x0 x1 x8 x11 x12 S) (fun o => o.2 = S ∧ ((0 : Int) ≤ o.1.toInt ∧ o.1.toInt ≤ (1 : Int)) ∧ ((o.1.toInt = 1 ↔ P))) := by
  unfold f_X0_attacks_281s
  refine ok_if (fun c3 => ?_) (fun c3 => ?_)
  ·
    replace c3 := ti_leP (a := x8) (b := x12) c3 rfl rfl
    refine ok_chk (by decide) ?_
    exact ok_ret ⟨rfl, (show (0 : Int) ≤ (1 : Int32).toInt ∧ (1 : Int32).toInt ≤ (1 : Int) from (by decide)), (by show ((1 : Int32).toInt = 1 ↔ P); first | exact ac_end q1 (by omega) | exact ac_no q1 (by omega) (show _ = v4.toInt by rw [u_v4, t_v3, t_v2]) (by omega))⟩
  ·
    replace c3 := ti_leN (a := x8) (b := x12) c3 rfl rfl
    refine ok_chk r_x0 ?_
    obtain ⟨b1, p_b1, k_b1, n_b1⟩ := T_0_0 hT r_x0
    refine ok_calR p_b1 ?_
    refine ok_bnd (fun v2 e4 => ?_)
    have w2 := q0 x12.toInt (by omega) (by omega)
    have t_v2 : v2.toInt = x12.toInt * x11.toInt := ti_mul e4 rfl rfl (by omega) (by omega)
    refine ok_bnd (fun v3 e5 => ?_)
    have t_v3 : v3.toInt = x1.toInt + v2.toInt := ti_add e5 rfl rfl (by omega) (by omega)
    refine ok_chk k_b1 ?_
    refine ok_chk (ti_inN (v := v3) (n := 64) n_b1 (by omega) (by omega)) ?_
    refine ok_bnd (fun v4 e6 => ?_)
    have u_v4 : v4.toInt = mCb S x0 v3.toInt := mB_at (x := v3) p_b1 e6 (by omega) (by omega)
    refine ok_if (fun c7 => ?_) (fun c7 => ?_)
    ·
      replace c7 := ti_eqP (a := v4) (b := (0 : Int32)) c7 rfl (show (0 : Int32).toInt = 0 from rfl)
      refine ok_bnd (fun v5 e8 => ?_)
      have t_v5 : v5.toInt = x12.toInt + 1 := ti_add e8 rfl (show (1 : Int32).toInt = 1 from rfl) (by omega) (by omega)
      exact hself281 x0 x1 x8 x11 v5  r_x0 r_x1 r_x8 r_x11 (by omega) q0 (ac_self q1 (by omega) (show _ = v4.toInt by rw [u_v4, t_v3, t_v2]) (by omega)) (by omega)
    ·
      replace c7 := ti_eqN (a := v4) (b := (0 : Int32)) c7 rfl (show (0 : Int32).toInt = 0 from rfl)
      refine ok_chk (by decide) ?_
      exact ok_ret ⟨rfl, (show (0 : Int) ≤ (0 : Int32).toInt ∧ (0 : Int32).toInt ≤ (1 : Int) from (by decide)), (by show ((0 : Int32).toInt = 1 ↔ P); first | exact ac_end q1 (by omega) | exact ac_no q1 (by omega) (show _ = v4.toInt by rw [u_v4, t_v3, t_v2]) (by omega))⟩
theorem x_f_X0_attacks_281 {P : Prop} {S : ZS} (hT : ZT S) : ∀ (n : Nat) (x0 : Nat) (x1 : Int32) (x8 : Int32) (x11 : Int32) (x12 : Int32),  (zK S x0 = 0) → ((0 : Int) ≤ x1.toInt ∧ x1.toInt ≤ (63 : Int)) → ((0 : Int) ≤ x8.toInt ∧ x8.toInt ≤ (7 : Int)) → ((-9 : Int) ≤ x11.toInt ∧ x11.toInt ≤ (9 : Int)) → ((1 : Int) ≤ x12.toInt ∧ x12.toInt ≤ (8 : Int)) → (wayk x1.toInt x11.toInt x8.toInt) → (P ↔ ∀ j : Int, x12.toInt ≤ j → j < x8.toInt → mCb S x0 (x1.toInt + j * x11.toInt) = 0) → (9 - x12.toInt) < (n : Int) → Ok (f_X0_attacks_281  n x0 x1 x8 x11 x12 S) (fun o => o.2 = S ∧ ((0 : Int) ≤ o.1.toInt ∧ o.1.toInt ≤ (1 : Int)) ∧ ((o.1.toInt = 1 ↔ P))) := by
  intro n
  induction n with
  | zero => intro x0 x1 x8 x11 x12 g0 g1 g2 g3 g4 g5 g6  hm; exfalso; omega
  | succ n ih =>
    intro x0 x1 x8 x11 x12 g0 g1 g2 g3 g4 g5 g6  hm
    exact x_f_X0_attacks_281s (P := P) (N281 := n)  ih hT g0 g1 g2 g3 g4 g5 g6  (by omega)
theorem x_f_X0_attacks_275 {P : Prop} {S : ZS} {x0 : Nat} {x1 : Int32} {x8 : Int32} {t0 : Int32} {t1 : Int32} (hT : ZT S) (r_x0 : zK S x0 = 0) (r_x1 : (0 : Int) ≤ x1.toInt ∧ x1.toInt ≤ (63 : Int)) (r_x8 : (0 : Int) ≤ x8.toInt ∧ x8.toInt ≤ (7 : Int)) (r_t0 : (-8 : Int) ≤ t0.toInt ∧ t0.toInt ≤ (8 : Int)) (r_t1 : (-1 : Int) ≤ t1.toInt ∧ t1.toInt ≤ (1 : Int)) (q0 : wayk x1.toInt (t1.toInt + t0.toInt) x8.toInt) (q1 : P ↔ ∀ j : Int, 1 ≤ j → j < x8.toInt → mCb S x0 (x1.toInt + j * (t1.toInt + t0.toInt)) = 0) : Ok (f_X0_attacks_275 x0 x1 x8 t0 t1 S) (fun o => o.2 = S ∧ ((0 : Int) ≤ o.1.toInt ∧ o.1.toInt ≤ (1 : Int)) ∧ ((o.1.toInt = 1 ↔ P))) := by
  unfold f_X0_attacks_275
  refine ok_bnd (fun v1 e9 => ?_)
  have t_v1 : v1.toInt = t1.toInt + t0.toInt := ti_add e9 rfl rfl (by omega) (by omega)
  exact x_f_X0_attacks_281 (P := P)  hT mFuel x0 x1 x8 v1 (1 : Int32)  r_x0 r_x1 r_x8 (by omega) (by decide) (by rw [t_v1]; exact q0) (by rw [t_v1]; exact q1) (by show _ < ((200000 : Nat) : Int); have z0 : (1 : Int32).toInt = 1 := rfl; omega)
theorem x_f_X0_attacks_254 {P : Prop} {S : ZS} {x0 : Nat} {x1 : Int32} {x4 : Int32} {x8 : Int32} {t0 : Int32} (hT : ZT S) (r_x0 : zK S x0 = 0) (r_x1 : (0 : Int) ≤ x1.toInt ∧ x1.toInt ≤ (63 : Int)) (r_x4 : (-7 : Int) ≤ x4.toInt ∧ x4.toInt ≤ (7 : Int)) (r_x8 : (0 : Int) ≤ x8.toInt ∧ x8.toInt ≤ (7 : Int)) (r_t0 : (-1 : Int) ≤ t0.toInt ∧ t0.toInt ≤ (1 : Int)) (q0 : way3 x1.toInt t0.toInt x4.toInt x8.toInt) (q1 : P ↔ ∀ j : Int, 1 ≤ j → j < x8.toInt → mCb S x0 (x1.toInt + j * (t0.toInt + 8 * sg x4.toInt)) = 0) : Ok (f_X0_attacks_254 x0 x1 x4 x8 t0 S) (fun o => o.2 = S ∧ ((0 : Int) ≤ o.1.toInt ∧ o.1.toInt ≤ (1 : Int)) ∧ ((o.1.toInt = 1 ↔ P))) := by
  unfold f_X0_attacks_254
  refine ok_if (fun c10 => ?_) (fun c10 => ?_)
  ·
    replace c10 := ti_leP (a := x4) (b := (0 : Int32)) c10 rfl (show (0 : Int32).toInt = 0 from rfl)
    refine ok_if (fun c11 => ?_) (fun c11 => ?_)
    ·
      replace c11 := ti_leP (a := (0 : Int32)) (b := x4) c11 (show (0 : Int32).toInt = 0 from rfl) rfl
      exact x_f_X0_attacks_275 (P := P) (S := S)  (x0 := x0) (x1 := x1) (x8 := x8) (t0 := (0 : Int32)) (t1 := t0) hT r_x0 r_x1 r_x8 (by decide) r_t0 (way3_0 r_t0 r_x1 q0 (by omega)) (ac_275 q1 (by have z0 : (0 : Int32).toInt = 0 := rfl; have z1 : (1 : Int32).toInt = 1 := rfl; have z2 : (-1 : Int32).toInt = -1 := rfl; have z3 : (8 : Int32).toInt = 8 := rfl; have z4 : (-8 : Int32).toInt = -8 := rfl; unfold sg; omega))
    ·
      replace c11 := ti_leN (a := (0 : Int32)) (b := x4) c11 (show (0 : Int32).toInt = 0 from rfl) rfl
      exact x_f_X0_attacks_275 (P := P) (S := S)  (x0 := x0) (x1 := x1) (x8 := x8) (t0 := (-8 : Int32)) (t1 := t0) hT r_x0 r_x1 r_x8 (by decide) r_t0 (way3_m r_t0 r_x1 q0 (by omega)) (ac_275 q1 (by have z0 : (0 : Int32).toInt = 0 := rfl; have z1 : (1 : Int32).toInt = 1 := rfl; have z2 : (-1 : Int32).toInt = -1 := rfl; have z3 : (8 : Int32).toInt = 8 := rfl; have z4 : (-8 : Int32).toInt = -8 := rfl; unfold sg; omega))
  ·
    replace c10 := ti_leN (a := x4) (b := (0 : Int32)) c10 rfl (show (0 : Int32).toInt = 0 from rfl)
    exact x_f_X0_attacks_275 (P := P) (S := S)  (x0 := x0) (x1 := x1) (x8 := x8) (t0 := (8 : Int32)) (t1 := t0) hT r_x0 r_x1 r_x8 (by decide) r_t0 (way3_p r_t0 r_x1 q0 (by omega)) (ac_275 q1 (by have z0 : (0 : Int32).toInt = 0 := rfl; have z1 : (1 : Int32).toInt = 1 := rfl; have z2 : (-1 : Int32).toInt = -1 := rfl; have z3 : (8 : Int32).toInt = 8 := rfl; have z4 : (-8 : Int32).toInt = -8 := rfl; unfold sg; omega))
theorem x_f_X0_attacks_223 {P : Prop} {S : ZS} {x0 : Nat} {x1 : Int32} {x3 : Int32} {x4 : Int32} {x8 : Int32} {t0 : Int32} (hT : ZT S) (r_x0 : zK S x0 = 0) (r_x1 : (0 : Int) ≤ x1.toInt ∧ x1.toInt ≤ (63 : Int)) (r_x3 : (-7 : Int) ≤ x3.toInt ∧ x3.toInt ≤ (7 : Int)) (r_x4 : (-7 : Int) ≤ x4.toInt ∧ x4.toInt ≤ (7 : Int)) (r_x8 : (0 : Int) ≤ x8.toInt ∧ x8.toInt ≤ (7 : Int)) (r_t0 : (0 : Int) ≤ t0.toInt ∧ t0.toInt ≤ (1 : Int)) (q0 : 0 ≤ x1.toInt % 8 + x3.toInt ∧ x1.toInt % 8 + x3.toInt ≤ 7 ∧ 0 ≤ x1.toInt / 8 + x4.toInt ∧ x1.toInt / 8 + x4.toInt ≤ 7) (q1 : x3.toInt ≤ x8.toInt ∧ -x3.toInt ≤ x8.toInt ∧ x4.toInt ≤ x8.toInt ∧ -x4.toInt ≤ x8.toInt ∧ (x8.toInt = x3.toInt ∨ x8.toInt = -x3.toInt ∨ x8.toInt = x4.toInt ∨ x8.toInt = -x4.toInt)) (q2 : t0.toInt = 1 → x3.toInt = 0 ∨ x4.toInt = 0 ∨ x3.toInt = x4.toInt ∨ x3.toInt = -x4.toInt) (q3 : P ↔ (t0.toInt = 1 ∧ (x3.toInt ≠ 0 ∨ x4.toInt ≠ 0)) ∧ clr (mCb S x0) x1.toInt x3.toInt x4.toInt) : Ok (f_X0_attacks_223 x0 x1 x3 x4 x8 t0 S) (fun o => o.2 = S ∧ ((0 : Int) ≤ o.1.toInt ∧ o.1.toInt ≤ (1 : Int)) ∧ ((o.1.toInt = 1 ↔ P))) := by
  unfold f_X0_attacks_223
  refine ok_if (fun c12 => ?_) (fun c12 => ?_)
  ·
    replace c12 := ti_eqP (a := t0) (b := (0 : Int32)) c12 rfl (show (0 : Int32).toInt = 0 from rfl)
    unfold f_X0_attacks_235
    refine ok_chk (by decide) ?_
    exact ok_ret ⟨rfl, (show (0 : Int) ≤ (0 : Int32).toInt ∧ (0 : Int32).toInt ≤ (1 : Int) from (by decide)), (by show ((0 : Int32).toInt = 1 ↔ P); rw [q3]; have z0 : (0 : Int32).toInt = 0 := rfl; have z1 : (1 : Int32).toInt = 1 := rfl; have z2 : (-1 : Int32).toInt = -1 := rfl; constructor; (intro h; omega); (intro h; have := h.1; omega))⟩
  ·
    replace c12 := ti_eqN (a := t0) (b := (0 : Int32)) c12 rfl (show (0 : Int32).toInt = 0 from rfl)
    refine ok_if (fun c13 => ?_) (fun c13 => ?_)
    ·
      replace c13 := ti_eqP (a := x8) (b := (0 : Int32)) c13 rfl (show (0 : Int32).toInt = 0 from rfl)
      unfold f_X0_attacks_235
      refine ok_chk (by decide) ?_
      exact ok_ret ⟨rfl, (show (0 : Int) ≤ (0 : Int32).toInt ∧ (0 : Int32).toInt ≤ (1 : Int) from (by decide)), (by show ((0 : Int32).toInt = 1 ↔ P); rw [q3]; have z0 : (0 : Int32).toInt = 0 := rfl; have z1 : (1 : Int32).toInt = 1 := rfl; have z2 : (-1 : Int32).toInt = -1 := rfl; constructor; (intro h; omega); (intro h; have := h.1; omega))⟩
    ·
      replace c13 := ti_eqN (a := x8) (b := (0 : Int32)) c13 rfl (show (0 : Int32).toInt = 0 from rfl)
      refine ok_if (fun c14 => ?_) (fun c14 => ?_)
      ·
        replace c14 := ti_leP (a := x3) (b := (0 : Int32)) c14 rfl (show (0 : Int32).toInt = 0 from rfl)
        refine ok_if (fun c15 => ?_) (fun c15 => ?_)
        ·
          replace c15 := ti_leP (a := (0 : Int32)) (b := x3) c15 (show (0 : Int32).toInt = 0 from rfl) rfl
          exact x_f_X0_attacks_254 (P := P) (S := S)  (x0 := x0) (x1 := x1) (x4 := x4) (x8 := x8) (t0 := (0 : Int32)) hT r_x0 r_x1 r_x4 r_x8 (by decide) (way3_mk q0 q1 (q2 (by omega)) (by have z0 : (0 : Int32).toInt = 0 := rfl; have z1 : (1 : Int32).toInt = 1 := rfl; have z2 : (-1 : Int32).toInt = -1 := rfl; omega)) (ac_254 q3 (by omega) (by unfold nst; omega) (by have z0 : (0 : Int32).toInt = 0 := rfl; have z1 : (1 : Int32).toInt = 1 := rfl; have z2 : (-1 : Int32).toInt = -1 := rfl; have z3 : (8 : Int32).toInt = 8 := rfl; have z4 : (-8 : Int32).toInt = -8 := rfl; unfold sg; omega))
        ·
          replace c15 := ti_leN (a := (0 : Int32)) (b := x3) c15 (show (0 : Int32).toInt = 0 from rfl) rfl
          exact x_f_X0_attacks_254 (P := P) (S := S)  (x0 := x0) (x1 := x1) (x4 := x4) (x8 := x8) (t0 := (-1 : Int32)) hT r_x0 r_x1 r_x4 r_x8 (by decide) (way3_mk q0 q1 (q2 (by omega)) (by have z0 : (0 : Int32).toInt = 0 := rfl; have z1 : (1 : Int32).toInt = 1 := rfl; have z2 : (-1 : Int32).toInt = -1 := rfl; omega)) (ac_254 q3 (by omega) (by unfold nst; omega) (by have z0 : (0 : Int32).toInt = 0 := rfl; have z1 : (1 : Int32).toInt = 1 := rfl; have z2 : (-1 : Int32).toInt = -1 := rfl; have z3 : (8 : Int32).toInt = 8 := rfl; have z4 : (-8 : Int32).toInt = -8 := rfl; unfold sg; omega))
      ·
        replace c14 := ti_leN (a := x3) (b := (0 : Int32)) c14 rfl (show (0 : Int32).toInt = 0 from rfl)
        exact x_f_X0_attacks_254 (P := P) (S := S)  (x0 := x0) (x1 := x1) (x4 := x4) (x8 := x8) (t0 := (1 : Int32)) hT r_x0 r_x1 r_x4 r_x8 (by decide) (way3_mk q0 q1 (q2 (by omega)) (by have z0 : (0 : Int32).toInt = 0 := rfl; have z1 : (1 : Int32).toInt = 1 := rfl; have z2 : (-1 : Int32).toInt = -1 := rfl; omega)) (ac_254 q3 (by omega) (by unfold nst; omega) (by have z0 : (0 : Int32).toInt = 0 := rfl; have z1 : (1 : Int32).toInt = 1 := rfl; have z2 : (-1 : Int32).toInt = -1 := rfl; have z3 : (8 : Int32).toInt = 8 := rfl; have z4 : (-8 : Int32).toInt = -8 := rfl; unfold sg; omega))
theorem x_f_X0_attacks_172 {P : Prop} {S : ZS} {x0 : Nat} {x1 : Int32} {x3 : Int32} {x4 : Int32} {x5 : Int32} {x6 : Int32} {x7 : Int32} {x8 : Int32} {t0 : Int32} (hT : ZT S) (r_x0 : zK S x0 = 0) (r_x1 : (0 : Int) ≤ x1.toInt ∧ x1.toInt ≤ (63 : Int)) (r_x3 : (-7 : Int) ≤ x3.toInt ∧ x3.toInt ≤ (7 : Int)) (r_x4 : (-7 : Int) ≤ x4.toInt ∧ x4.toInt ≤ (7 : Int)) (r_x5 : (0 : Int) ≤ x5.toInt ∧ x5.toInt ≤ (7 : Int)) (r_x6 : (0 : Int) ≤ x6.toInt ∧ x6.toInt ≤ (7 : Int)) (r_x7 : (0 : Int) ≤ x7.toInt ∧ x7.toInt ≤ (7 : Int)) (r_x8 : (0 : Int) ≤ x8.toInt ∧ x8.toInt ≤ (7 : Int)) (r_t0 : (0 : Int) ≤ t0.toInt ∧ t0.toInt ≤ (1 : Int)) (q0 : 0 ≤ x1.toInt % 8 + x3.toInt ∧ x1.toInt % 8 + x3.toInt ≤ 7 ∧ 0 ≤ x1.toInt / 8 + x4.toInt ∧ x1.toInt / 8 + x4.toInt ≤ 7) (q1 : x3.toInt ≤ x8.toInt ∧ -x3.toInt ≤ x8.toInt ∧ x4.toInt ≤ x8.toInt ∧ -x4.toInt ≤ x8.toInt ∧ (x8.toInt = x3.toInt ∨ x8.toInt = -x3.toInt ∨ x8.toInt = x4.toInt ∨ x8.toInt = -x4.toInt)) (q2 : (x6.toInt = x3.toInt ∨ x6.toInt = -x3.toInt) ∧ (x7.toInt = x4.toInt ∨ x7.toInt = -x4.toInt)) (q3 : t0.toInt = 1 ↔ x6.toInt = 0 ∨ x7.toInt = 0) (q4 : P ↔ lin x5.toInt x3.toInt x4.toInt ∧ clr (mCb S x0) x1.toInt x3.toInt x4.toInt) : Ok (f_X0_attacks_172 x0 x1 x3 x4 x5 x6 x7 x8 t0 S) (fun o => o.2 = S ∧ ((0 : Int) ≤ o.1.toInt ∧ o.1.toInt ≤ (1 : Int)) ∧ ((o.1.toInt = 1 ↔ P))) := by
  unfold f_X0_attacks_172
  refine ok_if (fun c16 => ?_) (fun c16 => ?_)
  ·
    replace c16 := ti_eqP (a := t0) (b := (0 : Int32)) c16 rfl (show (0 : Int32).toInt = 0 from rfl)
    refine ok_if (fun c17 => ?_) (fun c17 => ?_)
    ·
      replace c17 := ti_eqP (a := x6) (b := x7) c17 rfl rfl
      refine ok_if (fun c18 => ?_) (fun c18 => ?_)
      ·
        replace c18 := ti_eqP (a := x5) (b := (3 : Int32)) c18 rfl (show (3 : Int32).toInt = 3 from rfl)
        unfold f_X0_attacks_218
        exact x_f_X0_attacks_223 (P := P) (S := S)  (x0 := x0) (x1 := x1) (x3 := x3) (x4 := x4) (x8 := x8) (t0 := (1 : Int32)) hT r_x0 r_x1 r_x3 r_x4 r_x8 (by decide) q0 q1 (by have z0 : (0 : Int32).toInt = 0 := rfl; have z1 : (1 : Int32).toInt = 1 := rfl; have z2 : (-1 : Int32).toInt = -1 := rfl; omega) (ac_223 q4 (by have z0 : (0 : Int32).toInt = 0 := rfl; have z1 : (1 : Int32).toInt = 1 := rfl; have z2 : (-1 : Int32).toInt = -1 := rfl; unfold lin; omega))
      ·
        replace c18 := ti_eqN (a := x5) (b := (3 : Int32)) c18 rfl (show (3 : Int32).toInt = 3 from rfl)
        refine ok_if (fun c19 => ?_) (fun c19 => ?_)
        ·
          replace c19 := ti_eqP (a := x5) (b := (5 : Int32)) c19 rfl (show (5 : Int32).toInt = 5 from rfl)
          unfold f_X0_attacks_218
          exact x_f_X0_attacks_223 (P := P) (S := S)  (x0 := x0) (x1 := x1) (x3 := x3) (x4 := x4) (x8 := x8) (t0 := (1 : Int32)) hT r_x0 r_x1 r_x3 r_x4 r_x8 (by decide) q0 q1 (by have z0 : (0 : Int32).toInt = 0 := rfl; have z1 : (1 : Int32).toInt = 1 := rfl; have z2 : (-1 : Int32).toInt = -1 := rfl; omega) (ac_223 q4 (by have z0 : (0 : Int32).toInt = 0 := rfl; have z1 : (1 : Int32).toInt = 1 := rfl; have z2 : (-1 : Int32).toInt = -1 := rfl; unfold lin; omega))
        ·
          replace c19 := ti_eqN (a := x5) (b := (5 : Int32)) c19 rfl (show (5 : Int32).toInt = 5 from rfl)
          unfold f_X0_attacks_222
          exact x_f_X0_attacks_223 (P := P) (S := S)  (x0 := x0) (x1 := x1) (x3 := x3) (x4 := x4) (x8 := x8) (t0 := (0 : Int32)) hT r_x0 r_x1 r_x3 r_x4 r_x8 (by decide) q0 q1 (by have z0 : (0 : Int32).toInt = 0 := rfl; have z1 : (1 : Int32).toInt = 1 := rfl; have z2 : (-1 : Int32).toInt = -1 := rfl; omega) (ac_223 q4 (by have z0 : (0 : Int32).toInt = 0 := rfl; have z1 : (1 : Int32).toInt = 1 := rfl; have z2 : (-1 : Int32).toInt = -1 := rfl; unfold lin; omega))
    ·
      replace c17 := ti_eqN (a := x6) (b := x7) c17 rfl rfl
      unfold f_X0_attacks_222
      exact x_f_X0_attacks_223 (P := P) (S := S)  (x0 := x0) (x1 := x1) (x3 := x3) (x4 := x4) (x8 := x8) (t0 := (0 : Int32)) hT r_x0 r_x1 r_x3 r_x4 r_x8 (by decide) q0 q1 (by have z0 : (0 : Int32).toInt = 0 := rfl; have z1 : (1 : Int32).toInt = 1 := rfl; have z2 : (-1 : Int32).toInt = -1 := rfl; omega) (ac_223 q4 (by have z0 : (0 : Int32).toInt = 0 := rfl; have z1 : (1 : Int32).toInt = 1 := rfl; have z2 : (-1 : Int32).toInt = -1 := rfl; unfold lin; omega))
  ·
    replace c16 := ti_eqN (a := t0) (b := (0 : Int32)) c16 rfl (show (0 : Int32).toInt = 0 from rfl)
    refine ok_if (fun c20 => ?_) (fun c20 => ?_)
    ·
      replace c20 := ti_eqP (a := x5) (b := (4 : Int32)) c20 rfl (show (4 : Int32).toInt = 4 from rfl)
      unfold f_X0_attacks_191
      exact x_f_X0_attacks_223 (P := P) (S := S)  (x0 := x0) (x1 := x1) (x3 := x3) (x4 := x4) (x8 := x8) (t0 := (1 : Int32)) hT r_x0 r_x1 r_x3 r_x4 r_x8 (by decide) q0 q1 (by have z0 : (0 : Int32).toInt = 0 := rfl; have z1 : (1 : Int32).toInt = 1 := rfl; have z2 : (-1 : Int32).toInt = -1 := rfl; omega) (ac_223 q4 (by have z0 : (0 : Int32).toInt = 0 := rfl; have z1 : (1 : Int32).toInt = 1 := rfl; have z2 : (-1 : Int32).toInt = -1 := rfl; unfold lin; omega))
    ·
      replace c20 := ti_eqN (a := x5) (b := (4 : Int32)) c20 rfl (show (4 : Int32).toInt = 4 from rfl)
      refine ok_if (fun c21 => ?_) (fun c21 => ?_)
      ·
        replace c21 := ti_eqP (a := x5) (b := (5 : Int32)) c21 rfl (show (5 : Int32).toInt = 5 from rfl)
        unfold f_X0_attacks_191
        exact x_f_X0_attacks_223 (P := P) (S := S)  (x0 := x0) (x1 := x1) (x3 := x3) (x4 := x4) (x8 := x8) (t0 := (1 : Int32)) hT r_x0 r_x1 r_x3 r_x4 r_x8 (by decide) q0 q1 (by have z0 : (0 : Int32).toInt = 0 := rfl; have z1 : (1 : Int32).toInt = 1 := rfl; have z2 : (-1 : Int32).toInt = -1 := rfl; omega) (ac_223 q4 (by have z0 : (0 : Int32).toInt = 0 := rfl; have z1 : (1 : Int32).toInt = 1 := rfl; have z2 : (-1 : Int32).toInt = -1 := rfl; unfold lin; omega))
      ·
        replace c21 := ti_eqN (a := x5) (b := (5 : Int32)) c21 rfl (show (5 : Int32).toInt = 5 from rfl)
        exact x_f_X0_attacks_223 (P := P) (S := S)  (x0 := x0) (x1 := x1) (x3 := x3) (x4 := x4) (x8 := x8) (t0 := (0 : Int32)) hT r_x0 r_x1 r_x3 r_x4 r_x8 (by decide) q0 q1 (by have z0 : (0 : Int32).toInt = 0 := rfl; have z1 : (1 : Int32).toInt = 1 := rfl; have z2 : (-1 : Int32).toInt = -1 := rfl; omega) (ac_223 q4 (by have z0 : (0 : Int32).toInt = 0 := rfl; have z1 : (1 : Int32).toInt = 1 := rfl; have z2 : (-1 : Int32).toInt = -1 := rfl; unfold lin; omega))
theorem x_f_X0_attacks_136 {P : Prop} {S : ZS} {x0 : Nat} {x1 : Int32} {x3 : Int32} {x4 : Int32} {x5 : Int32} {x6 : Int32} {x7 : Int32} {t0 : Int32} (hT : ZT S) (r_x0 : zK S x0 = 0) (r_x1 : (0 : Int) ≤ x1.toInt ∧ x1.toInt ≤ (63 : Int)) (r_x3 : (-7 : Int) ≤ x3.toInt ∧ x3.toInt ≤ (7 : Int)) (r_x4 : (-7 : Int) ≤ x4.toInt ∧ x4.toInt ≤ (7 : Int)) (r_x5 : (0 : Int) ≤ x5.toInt ∧ x5.toInt ≤ (7 : Int)) (r_x6 : (0 : Int) ≤ x6.toInt ∧ x6.toInt ≤ (7 : Int)) (r_x7 : (0 : Int) ≤ x7.toInt ∧ x7.toInt ≤ (7 : Int)) (r_t0 : (0 : Int) ≤ t0.toInt ∧ t0.toInt ≤ (7 : Int)) (q0 : 0 ≤ x1.toInt % 8 + x3.toInt ∧ x1.toInt % 8 + x3.toInt ≤ 7 ∧ 0 ≤ x1.toInt / 8 + x4.toInt ∧ x1.toInt / 8 + x4.toInt ≤ 7) (q1 : x3.toInt ≤ t0.toInt ∧ -x3.toInt ≤ t0.toInt ∧ x4.toInt ≤ t0.toInt ∧ -x4.toInt ≤ t0.toInt ∧ (t0.toInt = x3.toInt ∨ t0.toInt = -x3.toInt ∨ t0.toInt = x4.toInt ∨ t0.toInt = -x4.toInt)) (q2 : (x6.toInt = x3.toInt ∨ x6.toInt = -x3.toInt) ∧ (x7.toInt = x4.toInt ∨ x7.toInt = -x4.toInt)) (q3 : P ↔ (x5.toInt = 6 ∧ kin x3.toInt x4.toInt) ∨ (lin x5.toInt x3.toInt x4.toInt ∧ clr (mCb S x0) x1.toInt x3.toInt x4.toInt)) : Ok (f_X0_attacks_136 x0 x1 x3 x4 x5 x6 x7 t0 S) (fun o => o.2 = S ∧ ((0 : Int) ≤ o.1.toInt ∧ o.1.toInt ≤ (1 : Int)) ∧ ((o.1.toInt = 1 ↔ P))) := by
  unfold f_X0_attacks_136
  refine ok_if (fun c22 => ?_) (fun c22 => ?_)
  ·
    replace c22 := ti_eqP (a := x5) (b := (6 : Int32)) c22 rfl (show (6 : Int32).toInt = 6 from rfl)
    refine ok_if (fun c23 => ?_) (fun c23 => ?_)
    ·
      replace c23 := ti_eqP (a := t0) (b := (1 : Int32)) c23 rfl (show (1 : Int32).toInt = 1 from rfl)
      unfold f_X0_attacks_156
      refine ok_chk (by decide) ?_
      exact ok_ret ⟨rfl, (show (0 : Int) ≤ (1 : Int32).toInt ∧ (1 : Int32).toInt ≤ (1 : Int) from (by decide)), (by show ((1 : Int32).toInt = 1 ↔ P); have zz := ac_king (n := t0.toInt) q3 (by omega) (by unfold kin; omega); have z0 : (0 : Int32).toInt = 0 := rfl; have z1 : (1 : Int32).toInt = 1 := rfl; have z2 : (-1 : Int32).toInt = -1 := rfl; rw [← zz]; omega)⟩
    ·
      replace c23 := ti_eqN (a := t0) (b := (1 : Int32)) c23 rfl (show (1 : Int32).toInt = 1 from rfl)
      unfold f_X0_attacks_156
      refine ok_chk (by decide) ?_
      exact ok_ret ⟨rfl, (show (0 : Int) ≤ (0 : Int32).toInt ∧ (0 : Int32).toInt ≤ (1 : Int) from (by decide)), (by show ((0 : Int32).toInt = 1 ↔ P); have zz := ac_king (n := t0.toInt) q3 (by omega) (by unfold kin; omega); have z0 : (0 : Int32).toInt = 0 := rfl; have z1 : (1 : Int32).toInt = 1 := rfl; have z2 : (-1 : Int32).toInt = -1 := rfl; rw [← zz]; omega)⟩
  ·
    replace c22 := ti_eqN (a := x5) (b := (6 : Int32)) c22 rfl (show (6 : Int32).toInt = 6 from rfl)
    refine ok_if (fun c24 => ?_) (fun c24 => ?_)
    ·
      replace c24 := ti_eqP (a := x6) (b := (0 : Int32)) c24 rfl (show (0 : Int32).toInt = 0 from rfl)
      unfold f_X0_attacks_167
      exact x_f_X0_attacks_172 (P := P) (S := S)  (x0 := x0) (x1 := x1) (x3 := x3) (x4 := x4) (x5 := x5) (x6 := x6) (x7 := x7) (x8 := t0) (t0 := (1 : Int32)) hT r_x0 r_x1 r_x3 r_x4 r_x5 r_x6 r_x7 r_t0 (by decide) q0 q1 q2 (by have z0 : (0 : Int32).toInt = 0 := rfl; have z1 : (1 : Int32).toInt = 1 := rfl; have z2 : (-1 : Int32).toInt = -1 := rfl; omega) (ac_172 q3 (by omega))
    ·
      replace c24 := ti_eqN (a := x6) (b := (0 : Int32)) c24 rfl (show (0 : Int32).toInt = 0 from rfl)
      refine ok_if (fun c25 => ?_) (fun c25 => ?_)
      ·
        replace c25 := ti_eqP (a := x7) (b := (0 : Int32)) c25 rfl (show (0 : Int32).toInt = 0 from rfl)
        unfold f_X0_attacks_167
        exact x_f_X0_attacks_172 (P := P) (S := S)  (x0 := x0) (x1 := x1) (x3 := x3) (x4 := x4) (x5 := x5) (x6 := x6) (x7 := x7) (x8 := t0) (t0 := (1 : Int32)) hT r_x0 r_x1 r_x3 r_x4 r_x5 r_x6 r_x7 r_t0 (by decide) q0 q1 q2 (by have z0 : (0 : Int32).toInt = 0 := rfl; have z1 : (1 : Int32).toInt = 1 := rfl; have z2 : (-1 : Int32).toInt = -1 := rfl; omega) (ac_172 q3 (by omega))
      ·
        replace c25 := ti_eqN (a := x7) (b := (0 : Int32)) c25 rfl (show (0 : Int32).toInt = 0 from rfl)
        exact x_f_X0_attacks_172 (P := P) (S := S)  (x0 := x0) (x1 := x1) (x3 := x3) (x4 := x4) (x5 := x5) (x6 := x6) (x7 := x7) (x8 := t0) (t0 := (0 : Int32)) hT r_x0 r_x1 r_x3 r_x4 r_x5 r_x6 r_x7 r_t0 (by decide) q0 q1 q2 (by have z0 : (0 : Int32).toInt = 0 := rfl; have z1 : (1 : Int32).toInt = 1 := rfl; have z2 : (-1 : Int32).toInt = -1 := rfl; omega) (ac_172 q3 (by omega))
theorem x_f_X0_attacks_120 {P : Prop} {S : ZS} {x0 : Nat} {x1 : Int32} {x3 : Int32} {x4 : Int32} {x5 : Int32} {x6 : Int32} {t0 : Int32} (hT : ZT S) (r_x0 : zK S x0 = 0) (r_x1 : (0 : Int) ≤ x1.toInt ∧ x1.toInt ≤ (63 : Int)) (r_x3 : (-7 : Int) ≤ x3.toInt ∧ x3.toInt ≤ (7 : Int)) (r_x4 : (-7 : Int) ≤ x4.toInt ∧ x4.toInt ≤ (7 : Int)) (r_x5 : (0 : Int) ≤ x5.toInt ∧ x5.toInt ≤ (7 : Int)) (r_x6 : (0 : Int) ≤ x6.toInt ∧ x6.toInt ≤ (7 : Int)) (r_t0 : (0 : Int) ≤ t0.toInt ∧ t0.toInt ≤ (7 : Int)) (q0 : 0 ≤ x1.toInt % 8 + x3.toInt ∧ x1.toInt % 8 + x3.toInt ≤ 7 ∧ 0 ≤ x1.toInt / 8 + x4.toInt ∧ x1.toInt / 8 + x4.toInt ≤ 7) (q1 : (x6.toInt = x3.toInt ∨ x6.toInt = -x3.toInt) ∧ (t0.toInt = x4.toInt ∨ t0.toInt = -x4.toInt)) (q2 : P ↔ (x5.toInt = 6 ∧ kin x3.toInt x4.toInt) ∨ (lin x5.toInt x3.toInt x4.toInt ∧ clr (mCb S x0) x1.toInt x3.toInt x4.toInt)) : Ok (f_X0_attacks_120 x0 x1 x3 x4 x5 x6 t0 S) (fun o => o.2 = S ∧ ((0 : Int) ≤ o.1.toInt ∧ o.1.toInt ≤ (1 : Int)) ∧ ((o.1.toInt = 1 ↔ P))) := by
  unfold f_X0_attacks_120
  refine ok_if (fun c26 => ?_) (fun c26 => ?_)
  ·
    replace c26 := ti_leP (a := x6) (b := t0) c26 rfl rfl
    exact x_f_X0_attacks_136 (P := P) (S := S)  (x0 := x0) (x1 := x1) (x3 := x3) (x4 := x4) (x5 := x5) (x6 := x6) (x7 := t0) (t0 := t0) hT r_x0 r_x1 r_x3 r_x4 r_x5 r_x6 r_t0 r_t0 q0 (by omega) q1 q2
  ·
    replace c26 := ti_leN (a := x6) (b := t0) c26 rfl rfl
    exact x_f_X0_attacks_136 (P := P) (S := S)  (x0 := x0) (x1 := x1) (x3 := x3) (x4 := x4) (x5 := x5) (x6 := x6) (x7 := t0) (t0 := x6) hT r_x0 r_x1 r_x3 r_x4 r_x5 r_x6 r_t0 r_x6 q0 (by omega) q1 q2
theorem x_f_X0_attacks_105 {P : Prop} {S : ZS} {x0 : Nat} {x1 : Int32} {x3 : Int32} {x4 : Int32} {x5 : Int32} {t0 : Int32} (hT : ZT S) (r_x0 : zK S x0 = 0) (r_x1 : (0 : Int) ≤ x1.toInt ∧ x1.toInt ≤ (63 : Int)) (r_x3 : (-7 : Int) ≤ x3.toInt ∧ x3.toInt ≤ (7 : Int)) (r_x4 : (-7 : Int) ≤ x4.toInt ∧ x4.toInt ≤ (7 : Int)) (r_x5 : (0 : Int) ≤ x5.toInt ∧ x5.toInt ≤ (7 : Int)) (r_t0 : (0 : Int) ≤ t0.toInt ∧ t0.toInt ≤ (7 : Int)) (q0 : 0 ≤ x1.toInt % 8 + x3.toInt ∧ x1.toInt % 8 + x3.toInt ≤ 7 ∧ 0 ≤ x1.toInt / 8 + x4.toInt ∧ x1.toInt / 8 + x4.toInt ≤ 7) (q1 : t0.toInt = x3.toInt ∨ t0.toInt = -x3.toInt) (q2 : P ↔ (x5.toInt = 6 ∧ kin x3.toInt x4.toInt) ∨ (lin x5.toInt x3.toInt x4.toInt ∧ clr (mCb S x0) x1.toInt x3.toInt x4.toInt)) : Ok (f_X0_attacks_105 x0 x1 x3 x4 x5 t0 S) (fun o => o.2 = S ∧ ((0 : Int) ≤ o.1.toInt ∧ o.1.toInt ≤ (1 : Int)) ∧ ((o.1.toInt = 1 ↔ P))) := by
  unfold f_X0_attacks_105
  refine ok_if (fun c27 => ?_) (fun c27 => ?_)
  ·
    replace c27 := ti_leP (a := (0 : Int32)) (b := x4) c27 (show (0 : Int32).toInt = 0 from rfl) rfl
    exact x_f_X0_attacks_120 (P := P) (S := S)  (x0 := x0) (x1 := x1) (x3 := x3) (x4 := x4) (x5 := x5) (x6 := t0) (t0 := x4) hT r_x0 r_x1 r_x3 r_x4 r_x5 r_t0 (by omega) q0 (by omega) q2
  ·
    replace c27 := ti_leN (a := (0 : Int32)) (b := x4) c27 (show (0 : Int32).toInt = 0 from rfl) rfl
    refine ok_bnd (fun v1 e28 => ?_)
    have t_v1 : v1.toInt = -x4.toInt := ti_neg e28 rfl (by omega)
    exact x_f_X0_attacks_120 (P := P) (S := S)  (x0 := x0) (x1 := x1) (x3 := x3) (x4 := x4) (x5 := x5) (x6 := t0) (t0 := v1) hT r_x0 r_x1 r_x3 r_x4 r_x5 r_t0 (by omega) q0 (by omega) q2
theorem x_f_X0_attacks_54 {P : Prop} {S : ZS} {x3 : Int32} {t0 : Int32} {t1 : Int32} (hT : ZT S) (r_x3 : (-7 : Int) ≤ x3.toInt ∧ x3.toInt ≤ (7 : Int)) (r_t0 : (-1 : Int) ≤ t0.toInt ∧ t0.toInt ≤ (1 : Int)) (q0 : P ↔ t1.toInt = t0.toInt ∧ (x3.toInt = 1 ∨ x3.toInt = -1)) : Ok (f_X0_attacks_54 x3 t0 t1 S) (fun o => o.2 = S ∧ ((0 : Int) ≤ o.1.toInt ∧ o.1.toInt ≤ (1 : Int)) ∧ ((o.1.toInt = 1 ↔ P))) := by
  unfold f_X0_attacks_54
  refine ok_if (fun c29 => ?_) (fun c29 => ?_)
  ·
    replace c29 := ti_eqP (a := t1) (b := t0) c29 rfl rfl
    refine ok_bnd (fun v1 e30 => ?_)
    have t_v1 := ti_sq e30 (by omega) (by omega)
    refine ok_if (fun c31 => ?_) (fun c31 => ?_)
    ·
      replace c31 := ti_eqP (a := v1) (b := (1 : Int32)) c31 rfl (show (1 : Int32).toInt = 1 from rfl)
      unfold f_X0_attacks_69
      refine ok_chk (by decide) ?_
      exact ok_ret ⟨rfl, (show (0 : Int) ≤ (1 : Int32).toInt ∧ (1 : Int32).toInt ≤ (1 : Int) from (by decide)), (by show ((1 : Int32).toInt = 1 ↔ P); rw [q0]; have z0 : (0 : Int32).toInt = 0 := rfl; have z1 : (1 : Int32).toInt = 1 := rfl; have z2 : (-1 : Int32).toInt = -1 := rfl; omega)⟩
    ·
      replace c31 := ti_eqN (a := v1) (b := (1 : Int32)) c31 rfl (show (1 : Int32).toInt = 1 from rfl)
      unfold f_X0_attacks_68
      unfold f_X0_attacks_69
      refine ok_chk (by decide) ?_
      exact ok_ret ⟨rfl, (show (0 : Int) ≤ (0 : Int32).toInt ∧ (0 : Int32).toInt ≤ (1 : Int) from (by decide)), (by show ((0 : Int32).toInt = 1 ↔ P); rw [q0]; have z0 : (0 : Int32).toInt = 0 := rfl; have z1 : (1 : Int32).toInt = 1 := rfl; have z2 : (-1 : Int32).toInt = -1 := rfl; omega)⟩
  ·
    replace c29 := ti_eqN (a := t1) (b := t0) c29 rfl rfl
    unfold f_X0_attacks_68
    unfold f_X0_attacks_69
    refine ok_chk (by decide) ?_
    exact ok_ret ⟨rfl, (show (0 : Int) ≤ (0 : Int32).toInt ∧ (0 : Int32).toInt ≤ (1 : Int) from (by decide)), (by show ((0 : Int32).toInt = 1 ↔ P); rw [q0]; have z0 : (0 : Int32).toInt = 0 := rfl; have z1 : (1 : Int32).toInt = 1 := rfl; have z2 : (-1 : Int32).toInt = -1 := rfl; omega)⟩
theorem x_f_X0_attacks_0 {P : Prop} {S : ZS} {x0 : Nat} {x1 : Int32} {x2 : Int32} (hT : ZT S) (r_x0 : zK S x0 = 0) (r_x1 : (0 : Int) ≤ x1.toInt ∧ x1.toInt ≤ (63 : Int)) (r_x2 : (0 : Int) ≤ x2.toInt ∧ x2.toInt ≤ (63 : Int)) (q0 : P ↔ attk (mCb S x0) x1.toInt x2.toInt) (q1 : MBd (mCb S x0)) : Ok (f_X0_attacks_0 x0 x1 x2 S) (fun o => o.2 = S ∧ ((0 : Int) ≤ o.1.toInt ∧ o.1.toInt ≤ (1 : Int)) ∧ ((o.1.toInt = 1 ↔ P))) := by
  unfold f_X0_attacks_0
  refine ok_bnd (fun v1 e32 => ?_)
  have t_v1 : v1.toInt = x2.toInt % 8 := b_and7 e32 (by omega)
  refine ok_bnd (fun v2 e33 => ?_)
  have t_v2 : v2.toInt = x1.toInt % 8 := b_and7 e33 (by omega)
  refine ok_bnd (fun v3 e34 => ?_)
  have t_v3 : v3.toInt = v1.toInt - v2.toInt := ti_sub e34 rfl rfl (by omega) (by omega)
  refine ok_bnd (fun v4 e35 => ?_)
  have t_v4 : v4.toInt = x2.toInt / 8 := b_sh3 e35 (by omega)
  refine ok_bnd (fun v5 e36 => ?_)
  have t_v5 : v5.toInt = x1.toInt / 8 := b_sh3 e36 (by omega)
  refine ok_bnd (fun v6 e37 => ?_)
  have t_v6 : v6.toInt = v4.toInt - v5.toInt := ti_sub e37 rfl rfl (by omega) (by omega)
  refine ok_chk r_x0 ?_
  obtain ⟨b7, p_b7, k_b7, n_b7⟩ := T_0_0 hT r_x0
  refine ok_calR p_b7 ?_
  refine ok_chk k_b7 ?_
  refine ok_chk (ti_inN (v := x1) (n := 64) n_b7 (by omega) (by omega)) ?_
  refine ok_bnd (fun v8 e38 => ?_)
  have u_v8 : v8.toInt = mCb S x0 x1.toInt := mB_at (x := x1) p_b7 e38 (by omega) (by omega)
  have w_v8 := q1 (x1.toInt)
  refine ok_bnd (fun v9 e39 => ?_)
  have t_v9 : v9.toInt = v8.toInt % 8 := b_and7 e39 (by omega)
  refine ok_if (fun c40 => ?_) (fun c40 => ?_)
  ·
    replace c40 := ti_eqP (a := v9) (b := (1 : Int32)) c40 rfl (show (1 : Int32).toInt = 1 from rfl)
    refine ok_chk r_x0 ?_
    obtain ⟨b14, p_b14, k_b14, n_b14⟩ := T_0_0 hT r_x0
    refine ok_calR p_b14 ?_
    refine ok_chk k_b14 ?_
    refine ok_chk (ti_inN (v := x1) (n := 64) n_b14 (by omega) (by omega)) ?_
    refine ok_bnd (fun v15 e41 => ?_)
    have u_v15 : v15.toInt = mCb S x0 x1.toInt := mB_at (x := x1) p_b14 e41 (by omega) (by omega)
    have w_v15 := q1 (x1.toInt)
    refine ok_if (fun c42 => ?_) (fun c42 => ?_)
    ·
      replace c42 := ti_leP (a := (8 : Int32)) (b := v15) c42 (show (8 : Int32).toInt = 8 from rfl) rfl
      exact x_f_X0_attacks_54 (P := P) (S := S)  (x3 := v3) (t0 := (-1 : Int32)) (t1 := v6) hT (by omega) (by decide) (by rw [ac_54 q0 u_v8.symm (by omega)]; unfold paw; have z0 : (0 : Int32).toInt = 0 := rfl; have z1 : (1 : Int32).toInt = 1 := rfl; have z2 : (-1 : Int32).toInt = -1 := rfl; omega)
    ·
      replace c42 := ti_leN (a := (8 : Int32)) (b := v15) c42 (show (8 : Int32).toInt = 8 from rfl) rfl
      exact x_f_X0_attacks_54 (P := P) (S := S)  (x3 := v3) (t0 := (1 : Int32)) (t1 := v6) hT (by omega) (by decide) (by rw [ac_54 q0 u_v8.symm (by omega)]; unfold paw; have z0 : (0 : Int32).toInt = 0 := rfl; have z1 : (1 : Int32).toInt = 1 := rfl; have z2 : (-1 : Int32).toInt = -1 := rfl; omega)
  ·
    replace c40 := ti_eqN (a := v9) (b := (1 : Int32)) c40 rfl (show (1 : Int32).toInt = 1 from rfl)
    refine ok_if (fun c43 => ?_) (fun c43 => ?_)
    ·
      replace c43 := ti_eqP (a := v9) (b := (2 : Int32)) c43 rfl (show (2 : Int32).toInt = 2 from rfl)
      refine ok_bnd (fun v11 e44 => ?_)
      have t_v11 := ti_sq e44 (by omega) (by omega)
      refine ok_bnd (fun v12 e45 => ?_)
      have t_v12 := ti_sq e45 (by omega) (by omega)
      refine ok_bnd (fun v13 e46 => ?_)
      have t_v13 : v13.toInt = v11.toInt + v12.toInt := ti_add e46 rfl rfl (by omega) (by omega)
      refine ok_if (fun c47 => ?_) (fun c47 => ?_)
      ·
        replace c47 := ti_eqP (a := v13) (b := (5 : Int32)) c47 rfl (show (5 : Int32).toInt = 5 from rfl)
        unfold f_X0_attacks_94
        refine ok_chk (by decide) ?_
        exact ok_ret ⟨rfl, (show (0 : Int) ≤ (1 : Int32).toInt ∧ (1 : Int32).toInt ≤ (1 : Int) from (by decide)), (by show ((1 : Int32).toInt = 1 ↔ P); have zz := ac_94 q0 (k := v9.toInt) (by rw [← u_v8]; omega) (by omega); rw [zz]; have z0 : (0 : Int32).toInt = 0 := rfl; have z1 : (1 : Int32).toInt = 1 := rfl; have z2 : (-1 : Int32).toInt = -1 := rfl; unfold kni; omega)⟩
      ·
        replace c47 := ti_eqN (a := v13) (b := (5 : Int32)) c47 rfl (show (5 : Int32).toInt = 5 from rfl)
        unfold f_X0_attacks_94
        refine ok_chk (by decide) ?_
        exact ok_ret ⟨rfl, (show (0 : Int) ≤ (0 : Int32).toInt ∧ (0 : Int32).toInt ≤ (1 : Int) from (by decide)), (by show ((0 : Int32).toInt = 1 ↔ P); have zz := ac_94 q0 (k := v9.toInt) (by rw [← u_v8]; omega) (by omega); rw [zz]; have z0 : (0 : Int32).toInt = 0 := rfl; have z1 : (1 : Int32).toInt = 1 := rfl; have z2 : (-1 : Int32).toInt = -1 := rfl; unfold kni; omega)⟩
    ·
      replace c43 := ti_eqN (a := v9) (b := (2 : Int32)) c43 rfl (show (2 : Int32).toInt = 2 from rfl)
      refine ok_if (fun c48 => ?_) (fun c48 => ?_)
      ·
        replace c48 := ti_leP (a := (0 : Int32)) (b := v3) c48 (show (0 : Int32).toInt = 0 from rfl) rfl
        exact x_f_X0_attacks_105 (P := P) (S := S)  (x0 := x0) (x1 := x1) (x3 := v3) (x4 := v6) (x5 := v9) (t0 := v3) hT r_x0 r_x1 (by omega) (by omega) (by omega) (by omega) (by omega) (by omega) (ac_105 q0 (by rw [← u_v8]; omega) (by omega) (by omega) (by omega) (by omega))
      ·
        replace c48 := ti_leN (a := (0 : Int32)) (b := v3) c48 (show (0 : Int32).toInt = 0 from rfl) rfl
        refine ok_bnd (fun v10 e49 => ?_)
        have t_v10 : v10.toInt = -v3.toInt := ti_neg e49 rfl (by omega)
        exact x_f_X0_attacks_105 (P := P) (S := S)  (x0 := x0) (x1 := x1) (x3 := v3) (x4 := v6) (x5 := v9) (t0 := v10) hT r_x0 r_x1 (by omega) (by omega) (by omega) (by omega) (by omega) (by omega) (ac_105 q0 (by rw [← u_v8]; omega) (by omega) (by omega) (by omega) (by omega))
theorem x_f_X0_attacks {P : Prop} {S : ZS} {x0 : Nat} {x1 : Int32} {x2 : Int32} (hT : ZT S) (r_x0 : zK S x0 = 0) (r_x1 : (0 : Int) ≤ x1.toInt ∧ x1.toInt ≤ (63 : Int)) (r_x2 : (0 : Int) ≤ x2.toInt ∧ x2.toInt ≤ (63 : Int)) (q0 : P ↔ attk (mCb S x0) x1.toInt x2.toInt) (q1 : MBd (mCb S x0)) : Ok (f_X0_attacks x0 x1 x2 S) (fun o => o.2 = S ∧ ((0 : Int) ≤ o.1.toInt ∧ o.1.toInt ≤ (1 : Int)) ∧ ((o.1.toInt = 1 ↔ P))) := x_f_X0_attacks_0 (P := P) hT r_x0 r_x1 r_x2 q0 q1
