theorem mR_at {A : Nat → Nat → Int32} {x v : Int32} (e : v = A 24 (x).toNatClampNeg) (h1 : 0 ≤ x.toInt) (h2 : x.toInt < 64) : v.toInt = mR A x.toInt := by
  unfold mR
  rw [if_pos ⟨h1, h2⟩, e]
  rfl
theorem metS_fun {m : Int → Int} {q f r v v2 : Int} (hq : 0 ≤ q ∧ q < 64) (hd : kin f r) (h : metS m q f r v) (h2 : metS m q f r v2) : v = v2 := by
  rcases h with ⟨a, n, n1, n2, n3, n4⟩ | ⟨a, n2⟩
  · rcases h2 with ⟨b, k, k1, k2, k3, k4⟩ | ⟨b, k2⟩
    · rcases Int.lt_trichotomy n k with c | c | c
      · have := k4 n n1 c
        omega
      · subst c
        omega
      · have := n4 k k1 c
        omega
    · have := k2 n n1 n2
      omega
  · rcases h2 with ⟨b, k, k1, k2, k3, k4⟩ | ⟨b, k2⟩
    · have := n2 k k1 k2
      omega
    · omega
theorem hL_iff {m : Int → Int} {q w f r v : Int} (hq : 0 ≤ q ∧ q < 64) (hd : kin f r) (h : metS m q f r v) : hL m q w f r ↔ (v = 5 + w ∨ ((f = 0 ∨ r = 0) ∧ v = 4 + w) ∨ (f ≠ 0 ∧ r ≠ 0 ∧ v = 3 + w)) := by
  constructor
  · rintro ⟨-, u, h1, h2⟩
    have := metS_fun hq hd h h1
    subst this
    exact h2
  · intro h1
    exact ⟨hd, v, h, h1⟩
def pwX (m : Int → Int) (q w t : Int) : Prop := (0 ≤ stp q (-1) t ∧ m (stp q (-1) t) = 1 + w) ∨ (0 ≤ stp q 1 t ∧ m (stp q 1 t) = 1 + w)
def rem (m : Int → Int) (q w f0 r0 : Int) : Prop := ∃ f r : Int, -2 ≤ f ∧ f ≤ 2 ∧ -2 ≤ r ∧ r ≤ 2 ∧ (f0 < f ∨ f = f0 ∧ r0 ≤ r) ∧ hitR m q w f r
def FAR (f r x : Int) : Prop := x = 0 ∧ f = 0 ∧ r = 0 ∨ x = 1 ∧ kin f r ∧ (f = 0 ∨ r = 0) ∨ x = 2 ∧ kin f r ∧ f ≠ 0 ∧ r ≠ 0 ∨ 3 ≤ x ∧ ¬ kin f r
section ATT
variable {P Q R : Prop} {m : Int → Int} {q w f r : Int}
theorem rem_s (h1 : -2 ≤ f ∧ f ≤ 2) (h2 : -2 ≤ r ∧ r ≤ 2) : rem m q w f r ↔ hitR m q w f r ∨ rem m q w f (r + 1) := by
  constructor
  · rintro ⟨a, b, h⟩
    by_cases e : a = f ∧ b = r
    · obtain ⟨e1, e2⟩ := e
      subst e1
      subst e2
      exact Or.inl h.2.2.2.2.2
    · exact Or.inr ⟨a, b, by omega, by omega, by omega, by omega, by omega, h.2.2.2.2.2⟩
  · rintro (h | ⟨a, b, h⟩)
    · exact ⟨f, r, h1.1, h1.2, h2.1, h2.2, Or.inr ⟨rfl, Int.le_refl _⟩, h⟩
    · exact ⟨a, b, by omega, by omega, by omega, by omega, by omega, h.2.2.2.2.2⟩
theorem rem_r (h : 3 ≤ r) : rem m q w f r ↔ rem m q w (f + 1) (-2) := by
  constructor
  · rintro ⟨a, b, h⟩
    exact ⟨a, b, by omega, by omega, by omega, by omega, by omega, h.2.2.2.2.2⟩
  · rintro ⟨a, b, h⟩
    exact ⟨a, b, by omega, by omega, by omega, by omega, by omega, h.2.2.2.2.2⟩
theorem rem_e (h : 3 ≤ f) : ¬ rem m q w f r := by
  rintro ⟨a, b, h⟩
  omega
theorem at_14 {b t : Int} (h : P ↔ attR m q b) (hb : (b = 0 ∧ t = -1) ∨ (b = 1 ∧ t = 1)) (hw : w = 8 * b) : P ↔ pwX m q w t ∨ rem m q w (-2) (-2) := by
  rw [h]
  have e : (if b = 0 then (-1 : Int) else 1) = t := by omega
  unfold attR pwR
  rw [e, ← hw]
  refine or_congr Iff.rfl ⟨?_, ?_⟩
  · rintro ⟨a, c, h⟩
    exact ⟨a, c, by omega, by omega, by omega, by omega, by omega, h.2.2.2.2⟩
  · rintro ⟨a, c, h⟩
    exact ⟨a, c, by omega, by omega, by omega, by omega, h.2.2.2.2.2⟩
theorem at_t (h : P) : P ↔ (1 : Int32).toInt = 1 ∨ R := ⟨fun _ => Or.inl rfl, fun _ => h⟩
theorem at_f (h : P ↔ Q ∨ R) (hQ : ¬ Q) : P ↔ (0 : Int32).toInt = 1 ∨ R := by
  rw [h]
  exact or_congr ⟨fun a => absurd a hQ, fun a => absurd a (by decide)⟩ Iff.rfl
theorem pw_n {t a b : Int} (e1 : a = stp q (-1) t) (e2 : b = stp q 1 t) (h1 : ¬ (0 ≤ a ∧ m a = 1 + w)) (h2 : ¬ (0 ≤ b ∧ m b = 1 + w)) : ¬ pwX m q w t := by
  subst e1
  subst e2
  exact fun h => h.elim h1 h2
theorem pw_l {t a : Int} (e1 : a = stp q (-1) t) (h1 : 0 ≤ a ∧ m a = 1 + w) : pwX m q w t := by
  subst e1
  exact Or.inl h1
theorem pw_r {t a : Int} (e1 : a = stp q 1 t) (h1 : 0 ≤ a ∧ m a = 1 + w) : pwX m q w t := by
  subst e1
  exact Or.inr h1
theorem at_119 {x : Int} (h : P ↔ x = 1 ∨ rem m q w f r) (hx : x = 0) (h1 : -2 ≤ f ∧ f ≤ 2) (h2 : -2 ≤ r ∧ r ≤ 2) (hk : ¬ hK m q w f r) : P ↔ hG m q w f r ∨ hL m q w f r ∨ rem m q w f (r + 1) := by
  rw [h, rem_s h1 h2, hx]
  unfold hitR
  constructor
  · rintro (h | (h | h | h) | h)
    · exact absurd h (by decide)
    · exact absurd h hk
    · exact Or.inl h
    · exact Or.inr (Or.inl h)
    · exact Or.inr (Or.inr h)
  · rintro (h | h | h)
    · exact Or.inr (Or.inl (Or.inr (Or.inl h)))
    · exact Or.inr (Or.inl (Or.inr (Or.inr h)))
    · exact Or.inr (Or.inr h)
theorem at_hk {x : Int} (h : P ↔ x = 1 ∨ rem m q w f r) (h1 : -2 ≤ f ∧ f ≤ 2) (h2 : -2 ≤ r ∧ r ≤ 2) (hk : hK m q w f r) : P := h.2 (Or.inr ((rem_s h1 h2).2 (Or.inl (Or.inl hk))))
theorem at_ngl (h : P ↔ Q ∨ hL m q w f r ∨ R) (hk : ¬ kin f r) : P ↔ Q ∨ R := by
  rw [h]
  refine or_congr Iff.rfl ⟨fun a => a.elim (fun b => absurd b.1 hk) id, Or.inr⟩
theorem hG_s {a : Int} (e : a = stp q f r) (h : ¬ (0 ≤ a ∧ m a = 6 + w)) : ¬ hG m q w f r := by
  subst e
  exact fun g => h g.2
theorem hG_y {a : Int} (e : a = stp q f r) (hd : kin f r) (h : 0 ≤ a ∧ m a = 6 + w) : hG m q w f r := by
  subst e
  exact ⟨hd, h⟩
theorem hK_s {a : Int} (e : a = stp q f r) (h : ¬ (0 ≤ a ∧ m a = 2 + w)) : ¬ hK m q w f r := by
  subst e
  exact fun g => h g.2
theorem hK_y {a : Int} (e : a = stp q f r) (hd : kni f r) (h : 0 ≤ a ∧ m a = 2 + w) : hK m q w f r := by
  subst e
  exact ⟨hd, h⟩
theorem at_hL {x v t : Int} (h : P ↔ x = 1 ∨ hL m q w f r ∨ R) (hx : x = 0) (hq : 0 ≤ q ∧ q < 64) (hd : kin f r) (hm : metS m q f r v) (h5 : v ≠ 5 + w) (ht : ((f = 0 ∨ r = 0) ∧ t = 4) ∨ (f ≠ 0 ∧ r ≠ 0 ∧ t = 3)) : P ↔ v = t + w ∨ R := by
  rw [h, hL_iff hq hd hm, hx]
  constructor
  · rintro (h | h | h)
    · exact absurd h (by decide)
    · exact Or.inl (by omega)
    · exact Or.inr h
  · rintro (h | h)
    · exact Or.inr (Or.inl (by omega))
    · exact Or.inr (Or.inr h)
theorem at_5 {x v : Int} (h : P ↔ x = 1 ∨ hL m q w f r ∨ R) (hd : kin f r) (hm : metS m q f r v) (h5 : v = 5 + w) : P := h.2 (Or.inr (Or.inl ⟨hd, v, hm, Or.inl h5⟩))
end ATT
theorem x_kind_0  {I : Nat → Int32} {A : Nat → Nat → Int32} {x0 : Int32} (hI : TJ I) (hA : TK A) (r_x0 : (0 : Int) ≤ x0.toInt ∧ x0.toInt ≤ (14 : Int)) : Ok (f_kind_0 x0 I A) (fun o => o.2 = (I, A) ∧ ((0 : Int) ≤ o.1.toInt ∧ o.1.toInt ≤ (7 : Int)) ∧ (o.1.toInt = x0.toInt % 8)) := by
  unfold f_kind_0
  refine ok_bnd (fun v1 e1 => ?_)
  have t_v1 := ti_and e1 (show (7 : Int32).toBitVec.toNat = 7 from rfl) (by decide)
  exact ok_ret ⟨rfl, (show (0 : Int) ≤ v1.toInt ∧ v1.toInt ≤ (7 : Int) from (by omega)), (by show (v1 : Int32).toInt = x0.toInt % 8; exact b_and7 e1 (by omega))⟩
theorem x_kind  {I : Nat → Int32} {A : Nat → Nat → Int32} {x0 : Int32} (hI : TJ I) (hA : TK A) (r_x0 : (0 : Int) ≤ x0.toInt ∧ x0.toInt ≤ (14 : Int)) : Ok (f_kind x0 I A) (fun o => o.2 = (I, A) ∧ ((0 : Int) ≤ o.1.toInt ∧ o.1.toInt ≤ (7 : Int)) ∧ (o.1.toInt = x0.toInt % 8)) := x_kind_0  hI hA r_x0
theorem x_sideOf_0  {I : Nat → Int32} {A : Nat → Nat → Int32} {x0 : Int32} (hI : TJ I) (hA : TK A) (r_x0 : (0 : Int) ≤ x0.toInt ∧ x0.toInt ≤ (14 : Int)) : Ok (f_sideOf_0 x0 I A) (fun o => o.2 = (I, A) ∧ ((-1 : Int) ≤ o.1.toInt ∧ o.1.toInt ≤ (1 : Int)) ∧ (o.1.toInt = (if x0.toInt = 0 then -1 else x0.toInt / 8))) := by
  unfold f_sideOf_0
  refine ok_if (fun c2 => ?_) (fun c2 => ?_)
  ·
    replace c2 := ti_eqP c2 rfl (show (0 : Int32).toInt = 0 from rfl)
    unfold f_sideOf_11
    exact ok_ret ⟨rfl, (show (-1 : Int) ≤ (-1 : Int32).toInt ∧ (-1 : Int32).toInt ≤ (1 : Int) from (by decide)), (by show (-1 : Int32).toInt = (if x0.toInt = 0 then -1 else x0.toInt / 8); have z : (-1 : Int32).toInt = -1 := rfl; omega)⟩
  ·
    replace c2 := ti_eqN c2 rfl (show (0 : Int32).toInt = 0 from rfl)
    refine ok_bnd (fun v1 e3 => ?_)
    have t_v1 : v1.toInt = x0.toInt / 8 := b_sh3 e3 (by omega)
    unfold f_sideOf_11
    exact ok_ret ⟨rfl, (show (-1 : Int) ≤ v1.toInt ∧ v1.toInt ≤ (1 : Int) from (by omega)), (by show (v1 : Int32).toInt = (if x0.toInt = 0 then -1 else x0.toInt / 8); have z : (-1 : Int32).toInt = -1 := rfl; omega)⟩
theorem x_sideOf  {I : Nat → Int32} {A : Nat → Nat → Int32} {x0 : Int32} (hI : TJ I) (hA : TK A) (r_x0 : (0 : Int) ≤ x0.toInt ∧ x0.toInt ≤ (14 : Int)) : Ok (f_sideOf x0 I A) (fun o => o.2 = (I, A) ∧ ((-1 : Int) ≤ o.1.toInt ∧ o.1.toInt ≤ (1 : Int)) ∧ (o.1.toInt = (if x0.toInt = 0 then -1 else x0.toInt / 8))) := x_sideOf_0  hI hA r_x0
theorem x_stands_0  {I : Nat → Int32} {A : Nat → Nat → Int32} {x1 : Int32} {x2 : Int32} (hI : TJ I) (hA : TK A) (r_x1 : (-1 : Int) ≤ x1.toInt ∧ x1.toInt ≤ (63 : Int)) : Ok (f_stands_0 x1 x2 I A) (fun o => o.2 = (I, A) ∧ ((0 : Int) ≤ o.1.toInt ∧ o.1.toInt ≤ (1 : Int)) ∧ ((o.1.toInt = 1 ↔ 0 ≤ x1.toInt ∧ mR A x1.toInt = x2.toInt))) := by
  unfold f_stands_0
  refine ok_if (fun c4 => ?_) (fun c4 => ?_)
  ·
    replace c4 := ti_ltP c4 rfl (show (0 : Int32).toInt = 0 from rfl)
    unfold f_stands_18
    unfold f_stands_19
    refine ok_chk (by decide) ?_
    exact ok_ret ⟨rfl, (show (0 : Int) ≤ (0 : Int32).toInt ∧ (0 : Int32).toInt ≤ (1 : Int) from (by decide)), (by show ((0 : Int32).toInt = 1 ↔ 0 ≤ x1.toInt ∧ mR A x1.toInt = x2.toInt); have z0 : (0 : Int32).toInt = 0 := rfl; have z1 : (1 : Int32).toInt = 1 := rfl; omega)⟩
  ·
    replace c4 := ti_ltN c4 rfl (show (0 : Int32).toInt = 0 from rfl)
    refine ok_chk (ti_in (by omega) (by omega)) ?_
    refine ok_bnd (fun v1 e5 => ?_)
    have u_v1 : v1.toInt = mR A x1.toInt := mR_at e5 (by omega) (by omega)
    refine ok_if (fun c6 => ?_) (fun c6 => ?_)
    ·
      replace c6 := ti_eqP c6 rfl rfl
      unfold f_stands_19
      refine ok_chk (by decide) ?_
      exact ok_ret ⟨rfl, (show (0 : Int) ≤ (1 : Int32).toInt ∧ (1 : Int32).toInt ≤ (1 : Int) from (by decide)), (by show ((1 : Int32).toInt = 1 ↔ 0 ≤ x1.toInt ∧ mR A x1.toInt = x2.toInt); have z0 : (0 : Int32).toInt = 0 := rfl; have z1 : (1 : Int32).toInt = 1 := rfl; omega)⟩
    ·
      replace c6 := ti_eqN c6 rfl rfl
      unfold f_stands_18
      unfold f_stands_19
      refine ok_chk (by decide) ?_
      exact ok_ret ⟨rfl, (show (0 : Int) ≤ (0 : Int32).toInt ∧ (0 : Int32).toInt ≤ (1 : Int) from (by decide)), (by show ((0 : Int32).toInt = 1 ↔ 0 ≤ x1.toInt ∧ mR A x1.toInt = x2.toInt); have z0 : (0 : Int32).toInt = 0 := rfl; have z1 : (1 : Int32).toInt = 1 := rfl; omega)⟩
theorem x_stands  {I : Nat → Int32} {A : Nat → Nat → Int32} {x1 : Int32} {x2 : Int32} (hI : TJ I) (hA : TK A) (r_x1 : (-1 : Int) ≤ x1.toInt ∧ x1.toInt ≤ (63 : Int)) : Ok (f_stands x1 x2 I A) (fun o => o.2 = (I, A) ∧ ((0 : Int) ≤ o.1.toInt ∧ o.1.toInt ≤ (1 : Int)) ∧ ((o.1.toInt = 1 ↔ 0 ≤ x1.toInt ∧ mR A x1.toInt = x2.toInt))) := x_stands_0  hI hA r_x1
theorem x_met_8s {sq : Int} {I : Nat → Int32} {A : Nat → Nat → Int32} {self8 : Int32 → Int32 → Int32 → (Nat → Int32) → (Nat → Nat → Int32) → Option (Int32 × MS)} {N8 : Nat} (hself8 : ∀ (x2 : Int32) (x3 : Int32) (x4 : Int32),  ((-1 : Int) ≤ x2.toInt ∧ x2.toInt ≤ (1 : Int)) → ((-1 : Int) ≤ x3.toInt ∧ x3.toInt ≤ (1 : Int)) → ((-1 : Int) ≤ x4.toInt ∧ x4.toInt ≤ (63 : Int)) → (0 ≤ sq ∧ sq < 64) → (kin x2.toInt x3.toInt) → (pr8 (mR A) sq x2.toInt x3.toInt x4.toInt) → (mst x2.toInt x3.toInt x4.toInt) < (N8 : Int) → Ok (self8 x2 x3 x4 I A) (fun o => o.2 = (I, A) ∧ (metS (mR A) sq x2.toInt x3.toInt o.1.toInt))) {x2 : Int32} {x3 : Int32} {x4 : Int32} (hI : TJ I) (hA : TK A) (r_x2 : (-1 : Int) ≤ x2.toInt ∧ x2.toInt ≤ (1 : Int)) (r_x3 : (-1 : Int) ≤ x3.toInt ∧ x3.toInt ≤ (1 : Int)) (r_x4 : (-1 : Int) ≤ x4.toInt ∧ x4.toInt ≤ (63 : Int)) (q0 : 0 ≤ sq ∧ sq < 64) (q1 : kin x2.toInt x3.toInt) (q2 : pr8 (mR A) sq x2.toInt x3.toInt x4.toInt) (m8 : (mst x2.toInt x3.toInt x4.toInt) ≤ (N8 : Int)) : Ok (f_met_8s self8 x2 x3 x4 I A) (fun o => o.2 = (I, A) ∧ (metS (mR A) sq x2.toInt x3.toInt o.1.toInt)) := by
  unfold f_met_8s
  refine ok_if (fun c7 => ?_) (fun c7 => ?_)
  ·
    replace c7 := ti_ltP c7 rfl (show (0 : Int32).toInt = 0 from rfl)
    unfold f_met_35
    refine ok_if (fun c8 => ?_) (fun c8 => ?_)
    ·
      replace c8 := ti_leP c8 (show (0 : Int32).toInt = 0 from rfl) rfl
      refine ok_chk (ti_in (by omega) (by omega)) ?_
      refine ok_bnd (fun v1 e9 => ?_)
      have u_v1 : v1.toInt = mR A x4.toInt := mR_at e9 (by omega) (by omega)
      unfold f_met_51
      exact ok_ret ⟨rfl, (by show metS (mR A) sq x2.toInt x3.toInt (v1 : Int32).toInt; first | exact pr8_off q0 q1 q2 (by omega) | (rw [u_v1]; exact pr8_hit q2 (by omega) (by omega)) | (rw [u_v1u]; exact pr8_hit q2 (by omega) (by omega)))⟩
    ·
      replace c8 := ti_leN c8 (show (0 : Int32).toInt = 0 from rfl) rfl
      unfold f_met_51
      exact ok_ret ⟨rfl, (by show metS (mR A) sq x2.toInt x3.toInt (0 : Int32).toInt; first | exact pr8_off q0 q1 q2 (by omega) | (rw [u_v1]; exact pr8_hit q2 (by omega) (by omega)) | (rw [u_v1u]; exact pr8_hit q2 (by omega) (by omega)))⟩
  ·
    replace c7 := ti_ltN c7 rfl (show (0 : Int32).toInt = 0 from rfl)
    refine ok_chk (ti_in (by omega) (by omega)) ?_
    refine ok_bnd (fun v1 e10 => ?_)
    have u_v1 : v1.toInt = mR A x4.toInt := mR_at e10 (by omega) (by omega)
    refine ok_if (fun c11 => ?_) (fun c11 => ?_)
    ·
      replace c11 := ti_eqP c11 rfl (show (0 : Int32).toInt = 0 from rfl)
      obtain ⟨r2, h_r2, p_r2⟩ := ro (t_step (x0 := x4) (x1 := x2) (x2 := x3)  hI hA (by omega) (by omega) (by omega))
      refine ok_clR h_r2 ?_
      dsimp only at p_r2
      exact hself8 x2 x3 r2 r_x2 r_x3 (by omega) q0 q1 (pr8_s q0 q1 q2 (by omega) (by omega) p_r2.2) (Int.lt_of_lt_of_le (mst_dec r_x2 r_x3 q1.2.2.2.2 (by omega) p_r2.2) m8)
    ·
      replace c11 := ti_eqN c11 rfl (show (0 : Int32).toInt = 0 from rfl)
      unfold f_met_35
      refine ok_if (fun c12 => ?_) (fun c12 => ?_)
      ·
        replace c12 := ti_leP c12 (show (0 : Int32).toInt = 0 from rfl) rfl
        refine ok_chk (ti_in (by omega) (by omega)) ?_
        refine ok_bnd (fun v1 e13 => ?_)
        have u_v1 : v1.toInt = mR A x4.toInt := mR_at e13 (by omega) (by omega)
        unfold f_met_51
        exact ok_ret ⟨rfl, (by show metS (mR A) sq x2.toInt x3.toInt (v1 : Int32).toInt; first | exact pr8_off q0 q1 q2 (by omega) | (rw [u_v1]; exact pr8_hit q2 (by omega) (by omega)) | (rw [u_v1u]; exact pr8_hit q2 (by omega) (by omega)))⟩
      ·
        replace c12 := ti_leN c12 (show (0 : Int32).toInt = 0 from rfl) rfl
        unfold f_met_51
        exact ok_ret ⟨rfl, (by show metS (mR A) sq x2.toInt x3.toInt (0 : Int32).toInt; first | exact pr8_off q0 q1 q2 (by omega) | (rw [u_v1]; exact pr8_hit q2 (by omega) (by omega)) | (rw [u_v1u]; exact pr8_hit q2 (by omega) (by omega)))⟩
theorem x_met_8 {sq : Int} {I : Nat → Int32} {A : Nat → Nat → Int32} (hI : TJ I) (hA : TK A) : ∀ (n : Nat) (x2 : Int32) (x3 : Int32) (x4 : Int32),  ((-1 : Int) ≤ x2.toInt ∧ x2.toInt ≤ (1 : Int)) → ((-1 : Int) ≤ x3.toInt ∧ x3.toInt ≤ (1 : Int)) → ((-1 : Int) ≤ x4.toInt ∧ x4.toInt ≤ (63 : Int)) → (0 ≤ sq ∧ sq < 64) → (kin x2.toInt x3.toInt) → (pr8 (mR A) sq x2.toInt x3.toInt x4.toInt) → (mst x2.toInt x3.toInt x4.toInt) < (n : Int) → Ok (f_met_8  n x2 x3 x4 I A) (fun o => o.2 = (I, A) ∧ (metS (mR A) sq x2.toInt x3.toInt o.1.toInt)) := by
  intro n
  induction n with
  | zero => intro x2 x3 x4 g0 g1 g2 g3 g4 g5  hm; exfalso; have := mst_nn g0 g1 g2; omega
  | succ n ih =>
    intro x2 x3 x4 g0 g1 g2 g3 g4 g5  hm
    exact x_met_8s (sq := sq)  (N8 := n)  ih hI hA g0 g1 g2 g3 g4 g5  (by omega)
theorem x_met_0 {sq : Int} {I : Nat → Int32} {A : Nat → Nat → Int32} {x1 : Int32} {x2 : Int32} {x3 : Int32} (hI : TJ I) (hA : TK A) (r_x1 : (0 : Int) ≤ x1.toInt ∧ x1.toInt ≤ (63 : Int)) (r_x2 : (-1 : Int) ≤ x2.toInt ∧ x2.toInt ≤ (1 : Int)) (r_x3 : (-1 : Int) ≤ x3.toInt ∧ x3.toInt ≤ (1 : Int)) (q0 : sq = x1.toInt) (q1 : kin x2.toInt x3.toInt) (q2 : 0 ≤ sq ∧ sq < 64) : Ok (f_met_0 x1 x2 x3 I A) (fun o => o.2 = (I, A) ∧ (metS (mR A) sq x2.toInt x3.toInt o.1.toInt)) := by
  unfold f_met_0
  obtain ⟨r1, h_r1, p_r1⟩ := ro (t_step (x0 := x1) (x1 := x2) (x2 := x3)  hI hA r_x1 (by omega) (by omega))
  refine ok_clR h_r1 ?_
  dsimp only at p_r1
  exact x_met_8 (sq := sq)   hI hA mFuel x2 x3 r1  r_x2 r_x3 (by omega) q2 q1 (pr8_0 (by omega) q1 (by rw [q0]; exact p_r1.2)) (mst_lt r_x2 r_x3 (by omega))
theorem x_met {sq : Int} {I : Nat → Int32} {A : Nat → Nat → Int32} {x1 : Int32} {x2 : Int32} {x3 : Int32} (hI : TJ I) (hA : TK A) (r_x1 : (0 : Int) ≤ x1.toInt ∧ x1.toInt ≤ (63 : Int)) (r_x2 : (-1 : Int) ≤ x2.toInt ∧ x2.toInt ≤ (1 : Int)) (r_x3 : (-1 : Int) ≤ x3.toInt ∧ x3.toInt ≤ (1 : Int)) (q0 : sq = x1.toInt) (q1 : kin x2.toInt x3.toInt) (q2 : 0 ≤ sq ∧ sq < 64) : Ok (f_met x1 x2 x3 I A) (fun o => o.2 = (I, A) ∧ (metS (mR A) sq x2.toInt x3.toInt o.1.toInt)) := x_met_0 (sq := sq) hI hA r_x1 r_x2 r_x3 q0 q1 q2
theorem x_isAttacked_217 {P : Prop} {I : Nat → Int32} {A : Nat → Nat → Int32} {self61 : Int32 → Int32 → Int32 → Int32 → (Nat → Int32) → (Nat → Nat → Int32) → Option (Int32 × MS)} {N61 : Nat} (hself61 : ∀ (x1 : Int32) (x3 : Int32) (x5 : Int32) (x6 : Int32),  ((0 : Int) ≤ x1.toInt ∧ x1.toInt ≤ (63 : Int)) → ((0 : Int) ≤ x3.toInt ∧ x3.toInt ≤ (8 : Int)) → ((0 : Int) ≤ x5.toInt ∧ x5.toInt ≤ (1 : Int)) → ((-2 : Int) ≤ x6.toInt ∧ x6.toInt ≤ (3 : Int)) → (P ↔ x5.toInt = 1 ∨ rem (mR A) x1.toInt x3.toInt x6.toInt (-2)) → (3 - x6.toInt) < (N61 : Int) → Ok (self61 x1 x3 x5 x6 I A) (fun o => o.2 = (I, A) ∧ ((0 : Int) ≤ o.1.toInt ∧ o.1.toInt ≤ (1 : Int)) ∧ ((o.1.toInt = 1 ↔ P)))) {self71 : Int32 → Int32 → Int32 → Int32 → Int32 → (Nat → Int32) → (Nat → Nat → Int32) → Option (Int32 × MS)} {N71 : Nat} (hself71 : ∀ (x1 : Int32) (x3 : Int32) (x5 : Int32) (x6 : Int32) (x7 : Int32),  ((0 : Int) ≤ x1.toInt ∧ x1.toInt ≤ (63 : Int)) → ((0 : Int) ≤ x3.toInt ∧ x3.toInt ≤ (8 : Int)) → ((0 : Int) ≤ x5.toInt ∧ x5.toInt ≤ (1 : Int)) → ((-2 : Int) ≤ x6.toInt ∧ x6.toInt ≤ (2 : Int)) → ((-2 : Int) ≤ x7.toInt ∧ x7.toInt ≤ (3 : Int)) → (P ↔ x5.toInt = 1 ∨ rem (mR A) x1.toInt x3.toInt x6.toInt x7.toInt) → ((3 - x6.toInt) ≤ (N61 : Int)) → (3 - x7.toInt) < (N71 : Int) → Ok (self71 x1 x3 x5 x6 x7 I A) (fun o => o.2 = (I, A) ∧ ((0 : Int) ≤ o.1.toInt ∧ o.1.toInt ≤ (1 : Int)) ∧ ((o.1.toInt = 1 ↔ P)))) {x1 : Int32} {x3 : Int32} {x5 : Int32} {x6 : Int32} {x7 : Int32} (hI : TJ I) (hA : TK A) (r_x1 : (0 : Int) ≤ x1.toInt ∧ x1.toInt ≤ (63 : Int)) (r_x3 : (0 : Int) ≤ x3.toInt ∧ x3.toInt ≤ (8 : Int)) (r_x5 : (0 : Int) ≤ x5.toInt ∧ x5.toInt ≤ (1 : Int)) (r_x6 : (-2 : Int) ≤ x6.toInt ∧ x6.toInt ≤ (2 : Int)) (r_x7 : (-2 : Int) ≤ x7.toInt ∧ x7.toInt ≤ (2 : Int)) (q0 : P ↔ x5.toInt = 1 ∨ rem (mR A) x1.toInt x3.toInt x6.toInt (x7.toInt + 1)) (m61 : (3 - x6.toInt) ≤ (N61 : Int)) (m71 : (3 - x7.toInt) ≤ (N71 : Int)) : Ok (f_isAttacked_217 self61 self71 x1 x3 x5 x6 x7 I A) (fun o => o.2 = (I, A) ∧ ((0 : Int) ≤ o.1.toInt ∧ o.1.toInt ≤ (1 : Int)) ∧ ((o.1.toInt = 1 ↔ P))) := by
  unfold f_isAttacked_217
  refine ok_bnd (fun v1 e14 => ?_)
  have t_v1 : v1.toInt = x7.toInt + 1 := ti_add e14 rfl (show (1 : Int32).toInt = 1 from rfl) (by omega) (by omega)
  exact hself71 x1 x3 x5 x6 v1 r_x1 r_x3 r_x5 r_x6 (by omega) (by rw [t_v1]; exact q0) m61 (by omega)
theorem x_isAttacked_205 {P : Prop} {I : Nat → Int32} {A : Nat → Nat → Int32} {self61 : Int32 → Int32 → Int32 → Int32 → (Nat → Int32) → (Nat → Nat → Int32) → Option (Int32 × MS)} {N61 : Nat} (hself61 : ∀ (x1 : Int32) (x3 : Int32) (x5 : Int32) (x6 : Int32),  ((0 : Int) ≤ x1.toInt ∧ x1.toInt ≤ (63 : Int)) → ((0 : Int) ≤ x3.toInt ∧ x3.toInt ≤ (8 : Int)) → ((0 : Int) ≤ x5.toInt ∧ x5.toInt ≤ (1 : Int)) → ((-2 : Int) ≤ x6.toInt ∧ x6.toInt ≤ (3 : Int)) → (P ↔ x5.toInt = 1 ∨ rem (mR A) x1.toInt x3.toInt x6.toInt (-2)) → (3 - x6.toInt) < (N61 : Int) → Ok (self61 x1 x3 x5 x6 I A) (fun o => o.2 = (I, A) ∧ ((0 : Int) ≤ o.1.toInt ∧ o.1.toInt ≤ (1 : Int)) ∧ ((o.1.toInt = 1 ↔ P)))) {self71 : Int32 → Int32 → Int32 → Int32 → Int32 → (Nat → Int32) → (Nat → Nat → Int32) → Option (Int32 × MS)} {N71 : Nat} (hself71 : ∀ (x1 : Int32) (x3 : Int32) (x5 : Int32) (x6 : Int32) (x7 : Int32),  ((0 : Int) ≤ x1.toInt ∧ x1.toInt ≤ (63 : Int)) → ((0 : Int) ≤ x3.toInt ∧ x3.toInt ≤ (8 : Int)) → ((0 : Int) ≤ x5.toInt ∧ x5.toInt ≤ (1 : Int)) → ((-2 : Int) ≤ x6.toInt ∧ x6.toInt ≤ (2 : Int)) → ((-2 : Int) ≤ x7.toInt ∧ x7.toInt ≤ (3 : Int)) → (P ↔ x5.toInt = 1 ∨ rem (mR A) x1.toInt x3.toInt x6.toInt x7.toInt) → ((3 - x6.toInt) ≤ (N61 : Int)) → (3 - x7.toInt) < (N71 : Int) → Ok (self71 x1 x3 x5 x6 x7 I A) (fun o => o.2 = (I, A) ∧ ((0 : Int) ≤ o.1.toInt ∧ o.1.toInt ≤ (1 : Int)) ∧ ((o.1.toInt = 1 ↔ P)))) {x1 : Int32} {x3 : Int32} {x6 : Int32} {x7 : Int32} {t0 : Int32} {t1 : Int32} (hI : TJ I) (hA : TK A) (r_x1 : (0 : Int) ≤ x1.toInt ∧ x1.toInt ≤ (63 : Int)) (r_x3 : (0 : Int) ≤ x3.toInt ∧ x3.toInt ≤ (8 : Int)) (r_x6 : (-2 : Int) ≤ x6.toInt ∧ x6.toInt ≤ (2 : Int)) (r_x7 : (-2 : Int) ≤ x7.toInt ∧ x7.toInt ≤ (2 : Int)) (r_t0 : (3 : Int) ≤ t0.toInt ∧ t0.toInt ≤ (4 : Int)) (q0 : P ↔ t1.toInt = t0.toInt + x3.toInt ∨ rem (mR A) x1.toInt x3.toInt x6.toInt (x7.toInt + 1)) (m61 : (3 - x6.toInt) ≤ (N61 : Int)) (m71 : (3 - x7.toInt) ≤ (N71 : Int)) : Ok (f_isAttacked_205 self61 self71 x1 x3 x6 x7 t0 t1 I A) (fun o => o.2 = (I, A) ∧ ((0 : Int) ≤ o.1.toInt ∧ o.1.toInt ≤ (1 : Int)) ∧ ((o.1.toInt = 1 ↔ P))) := by
  unfold f_isAttacked_205
  refine ok_bnd (fun v1 e15 => ?_)
  have t_v1 : v1.toInt = t0.toInt + x3.toInt := ti_add e15 rfl rfl (by omega) (by omega)
  refine ok_if (fun c16 => ?_) (fun c16 => ?_)
  ·
    replace c16 := ti_eqP c16 rfl rfl
    unfold f_isAttacked_210
    unfold f_isAttacked_215
    exact x_isAttacked_217 (P := P)  hself61 hself71 (x1 := x1) (x3 := x3) (x5 := (1 : Int32)) (x6 := x6) (x7 := x7) hI hA r_x1 r_x3 (by decide) r_x6 r_x7 (by first | exact at_t (at_5 q1 q0.1 p_r1 (by omega)) | exact at_t (q1.2 (Or.inl (by omega))) | exact at_t (q0.2 (Or.inl (by omega))) | exact at_f q0 (by omega)) m61 m71
  ·
    replace c16 := ti_eqN c16 rfl rfl
    unfold f_isAttacked_215
    exact x_isAttacked_217 (P := P)  hself61 hself71 (x1 := x1) (x3 := x3) (x5 := (0 : Int32)) (x6 := x6) (x7 := x7) hI hA r_x1 r_x3 (by decide) r_x6 r_x7 (by first | exact at_t (at_5 q1 q0.1 p_r1 (by omega)) | exact at_t (q1.2 (Or.inl (by omega))) | exact at_t (q0.2 (Or.inl (by omega))) | exact at_f q0 (by omega)) m61 m71
theorem x_isAttacked_168 {P : Prop} {I : Nat → Int32} {A : Nat → Nat → Int32} {self61 : Int32 → Int32 → Int32 → Int32 → (Nat → Int32) → (Nat → Nat → Int32) → Option (Int32 × MS)} {N61 : Nat} (hself61 : ∀ (x1 : Int32) (x3 : Int32) (x5 : Int32) (x6 : Int32),  ((0 : Int) ≤ x1.toInt ∧ x1.toInt ≤ (63 : Int)) → ((0 : Int) ≤ x3.toInt ∧ x3.toInt ≤ (8 : Int)) → ((0 : Int) ≤ x5.toInt ∧ x5.toInt ≤ (1 : Int)) → ((-2 : Int) ≤ x6.toInt ∧ x6.toInt ≤ (3 : Int)) → (P ↔ x5.toInt = 1 ∨ rem (mR A) x1.toInt x3.toInt x6.toInt (-2)) → (3 - x6.toInt) < (N61 : Int) → Ok (self61 x1 x3 x5 x6 I A) (fun o => o.2 = (I, A) ∧ ((0 : Int) ≤ o.1.toInt ∧ o.1.toInt ≤ (1 : Int)) ∧ ((o.1.toInt = 1 ↔ P)))) {self71 : Int32 → Int32 → Int32 → Int32 → Int32 → (Nat → Int32) → (Nat → Nat → Int32) → Option (Int32 × MS)} {N71 : Nat} (hself71 : ∀ (x1 : Int32) (x3 : Int32) (x5 : Int32) (x6 : Int32) (x7 : Int32),  ((0 : Int) ≤ x1.toInt ∧ x1.toInt ≤ (63 : Int)) → ((0 : Int) ≤ x3.toInt ∧ x3.toInt ≤ (8 : Int)) → ((0 : Int) ≤ x5.toInt ∧ x5.toInt ≤ (1 : Int)) → ((-2 : Int) ≤ x6.toInt ∧ x6.toInt ≤ (2 : Int)) → ((-2 : Int) ≤ x7.toInt ∧ x7.toInt ≤ (3 : Int)) → (P ↔ x5.toInt = 1 ∨ rem (mR A) x1.toInt x3.toInt x6.toInt x7.toInt) → ((3 - x6.toInt) ≤ (N61 : Int)) → (3 - x7.toInt) < (N71 : Int) → Ok (self71 x1 x3 x5 x6 x7 I A) (fun o => o.2 = (I, A) ∧ ((0 : Int) ≤ o.1.toInt ∧ o.1.toInt ≤ (1 : Int)) ∧ ((o.1.toInt = 1 ↔ P)))) {x1 : Int32} {x3 : Int32} {x5 : Int32} {x6 : Int32} {x7 : Int32} {x8 : Int32} (hI : TJ I) (hA : TK A) (r_x1 : (0 : Int) ≤ x1.toInt ∧ x1.toInt ≤ (63 : Int)) (r_x3 : (0 : Int) ≤ x3.toInt ∧ x3.toInt ≤ (8 : Int)) (r_x5 : (0 : Int) ≤ x5.toInt ∧ x5.toInt ≤ (1 : Int)) (r_x6 : (-1 : Int) ≤ x6.toInt ∧ x6.toInt ≤ (1 : Int)) (r_x7 : (-1 : Int) ≤ x7.toInt ∧ x7.toInt ≤ (1 : Int)) (r_x8 : (0 : Int) ≤ x8.toInt ∧ x8.toInt ≤ (8 : Int)) (q0 : kin x6.toInt x7.toInt ∧ ((x8.toInt = 1 ∧ (x6.toInt = 0 ∨ x7.toInt = 0)) ∨ (x8.toInt = 2 ∧ x6.toInt ≠ 0 ∧ x7.toInt ≠ 0))) (q1 : P ↔ x5.toInt = 1 ∨ hL (mR A) x1.toInt x3.toInt x6.toInt x7.toInt ∨ rem (mR A) x1.toInt x3.toInt x6.toInt (x7.toInt + 1)) (m61 : (3 - x6.toInt) ≤ (N61 : Int)) (m71 : (3 - x7.toInt) ≤ (N71 : Int)) : Ok (f_isAttacked_168 self61 self71 x1 x3 x5 x6 x7 x8 I A) (fun o => o.2 = (I, A) ∧ ((0 : Int) ≤ o.1.toInt ∧ o.1.toInt ≤ (1 : Int)) ∧ ((o.1.toInt = 1 ↔ P))) := by
  unfold f_isAttacked_168
  obtain ⟨r1, h_r1, p_r1⟩ := ro (x_met (x1 := x1) (x2 := x6) (x3 := x7) (sq := x1.toInt) hI hA r_x1 r_x6 r_x7 rfl q0.1 (by omega))
  refine ok_clR h_r1 ?_
  dsimp only at p_r1
  refine ok_if (fun c17 => ?_) (fun c17 => ?_)
  ·
    replace c17 := ti_eqP c17 rfl (show (0 : Int32).toInt = 0 from rfl)
    refine ok_bnd (fun v2 e18 => ?_)
    have t_v2 : v2.toInt = 5 + x3.toInt := ti_add e18 (show (5 : Int32).toInt = 5 from rfl) rfl (by omega) (by omega)
    refine ok_if (fun c19 => ?_) (fun c19 => ?_)
    ·
      replace c19 := ti_eqP c19 rfl rfl
      unfold f_isAttacked_210
      unfold f_isAttacked_215
      exact x_isAttacked_217 (P := P)  hself61 hself71 (x1 := x1) (x3 := x3) (x5 := (1 : Int32)) (x6 := x6) (x7 := x7) hI hA r_x1 r_x3 (by decide) (by omega) (by omega) (by first | exact at_t (at_5 q1 q0.1 p_r1 (by omega)) | exact at_t (q1.2 (Or.inl (by omega))) | exact at_t (q0.2 (Or.inl (by omega))) | exact at_f q0 (by omega)) m61 m71
    ·
      replace c19 := ti_eqN c19 rfl rfl
      refine ok_if (fun c20 => ?_) (fun c20 => ?_)
      ·
        replace c20 := ti_eqP c20 rfl (show (1 : Int32).toInt = 1 from rfl)
        exact x_isAttacked_205 (P := P)  hself61 hself71 (x1 := x1) (x3 := x3) (x6 := x6) (x7 := x7) (t0 := (4 : Int32)) (t1 := r1) hI hA r_x1 r_x3 (by omega) (by omega) (by decide) (at_hL q1 (by omega) (by omega) q0.1 p_r1 (by omega) (by have z4 : (4 : Int32).toInt = 4 := rfl; have z3 : (3 : Int32).toInt = 3 := rfl; have := q0.2; omega)) m61 m71
      ·
        replace c20 := ti_eqN c20 rfl (show (1 : Int32).toInt = 1 from rfl)
        exact x_isAttacked_205 (P := P)  hself61 hself71 (x1 := x1) (x3 := x3) (x6 := x6) (x7 := x7) (t0 := (3 : Int32)) (t1 := r1) hI hA r_x1 r_x3 (by omega) (by omega) (by decide) (at_hL q1 (by omega) (by omega) q0.1 p_r1 (by omega) (by have z4 : (4 : Int32).toInt = 4 := rfl; have z3 : (3 : Int32).toInt = 3 := rfl; have := q0.2; omega)) m61 m71
  ·
    replace c17 := ti_eqN c17 rfl (show (0 : Int32).toInt = 0 from rfl)
    unfold f_isAttacked_210
    unfold f_isAttacked_215
    exact x_isAttacked_217 (P := P)  hself61 hself71 (x1 := x1) (x3 := x3) (x5 := (1 : Int32)) (x6 := x6) (x7 := x7) hI hA r_x1 r_x3 (by decide) (by omega) (by omega) (by first | exact at_t (at_5 q1 q0.1 p_r1 (by omega)) | exact at_t (q1.2 (Or.inl (by omega))) | exact at_t (q0.2 (Or.inl (by omega))) | exact at_f q0 (by omega)) m61 m71
theorem x_isAttacked_154 {P : Prop} {I : Nat → Int32} {A : Nat → Nat → Int32} {self61 : Int32 → Int32 → Int32 → Int32 → (Nat → Int32) → (Nat → Nat → Int32) → Option (Int32 × MS)} {N61 : Nat} (hself61 : ∀ (x1 : Int32) (x3 : Int32) (x5 : Int32) (x6 : Int32),  ((0 : Int) ≤ x1.toInt ∧ x1.toInt ≤ (63 : Int)) → ((0 : Int) ≤ x3.toInt ∧ x3.toInt ≤ (8 : Int)) → ((0 : Int) ≤ x5.toInt ∧ x5.toInt ≤ (1 : Int)) → ((-2 : Int) ≤ x6.toInt ∧ x6.toInt ≤ (3 : Int)) → (P ↔ x5.toInt = 1 ∨ rem (mR A) x1.toInt x3.toInt x6.toInt (-2)) → (3 - x6.toInt) < (N61 : Int) → Ok (self61 x1 x3 x5 x6 I A) (fun o => o.2 = (I, A) ∧ ((0 : Int) ≤ o.1.toInt ∧ o.1.toInt ≤ (1 : Int)) ∧ ((o.1.toInt = 1 ↔ P)))) {self71 : Int32 → Int32 → Int32 → Int32 → Int32 → (Nat → Int32) → (Nat → Nat → Int32) → Option (Int32 × MS)} {N71 : Nat} (hself71 : ∀ (x1 : Int32) (x3 : Int32) (x5 : Int32) (x6 : Int32) (x7 : Int32),  ((0 : Int) ≤ x1.toInt ∧ x1.toInt ≤ (63 : Int)) → ((0 : Int) ≤ x3.toInt ∧ x3.toInt ≤ (8 : Int)) → ((0 : Int) ≤ x5.toInt ∧ x5.toInt ≤ (1 : Int)) → ((-2 : Int) ≤ x6.toInt ∧ x6.toInt ≤ (2 : Int)) → ((-2 : Int) ≤ x7.toInt ∧ x7.toInt ≤ (3 : Int)) → (P ↔ x5.toInt = 1 ∨ rem (mR A) x1.toInt x3.toInt x6.toInt x7.toInt) → ((3 - x6.toInt) ≤ (N61 : Int)) → (3 - x7.toInt) < (N71 : Int) → Ok (self71 x1 x3 x5 x6 x7 I A) (fun o => o.2 = (I, A) ∧ ((0 : Int) ≤ o.1.toInt ∧ o.1.toInt ≤ (1 : Int)) ∧ ((o.1.toInt = 1 ↔ P)))) {x1 : Int32} {x3 : Int32} {x6 : Int32} {x7 : Int32} {x8 : Int32} {t0 : Int32} (hI : TJ I) (hA : TK A) (r_x1 : (0 : Int) ≤ x1.toInt ∧ x1.toInt ≤ (63 : Int)) (r_x3 : (0 : Int) ≤ x3.toInt ∧ x3.toInt ≤ (8 : Int)) (r_x6 : (-2 : Int) ≤ x6.toInt ∧ x6.toInt ≤ (2 : Int)) (r_x7 : (-2 : Int) ≤ x7.toInt ∧ x7.toInt ≤ (2 : Int)) (r_x8 : (0 : Int) ≤ x8.toInt ∧ x8.toInt ≤ (8 : Int)) (r_t0 : (0 : Int) ≤ t0.toInt ∧ t0.toInt ≤ (1 : Int)) (q0 : FAR x6.toInt x7.toInt x8.toInt) (q1 : P ↔ t0.toInt = 1 ∨ hL (mR A) x1.toInt x3.toInt x6.toInt x7.toInt ∨ rem (mR A) x1.toInt x3.toInt x6.toInt (x7.toInt + 1)) (m61 : (3 - x6.toInt) ≤ (N61 : Int)) (m71 : (3 - x7.toInt) ≤ (N71 : Int)) : Ok (f_isAttacked_154 self61 self71 x1 x3 x6 x7 x8 t0 I A) (fun o => o.2 = (I, A) ∧ ((0 : Int) ≤ o.1.toInt ∧ o.1.toInt ≤ (1 : Int)) ∧ ((o.1.toInt = 1 ↔ P))) := by
  unfold f_isAttacked_154
  refine ok_if (fun c21 => ?_) (fun c21 => ?_)
  ·
    replace c21 := ti_eqP c21 rfl (show (1 : Int32).toInt = 1 from rfl)
    have q0u := q0
    unfold FAR kin at q0u
    exact x_isAttacked_168 (P := P)  hself61 hself71 (x1 := x1) (x3 := x3) (x5 := t0) (x6 := x6) (x7 := x7) (x8 := x8) hI hA r_x1 r_x3 r_t0 (by omega) (by omega) r_x8 (by unfold FAR kin at q0; unfold kin; omega) q1 m61 m71
  ·
    replace c21 := ti_eqN c21 rfl (show (1 : Int32).toInt = 1 from rfl)
    refine ok_if (fun c22 => ?_) (fun c22 => ?_)
    ·
      replace c22 := ti_eqP c22 rfl (show (2 : Int32).toInt = 2 from rfl)
      have q0u := q0
      unfold FAR kin at q0u
      exact x_isAttacked_168 (P := P)  hself61 hself71 (x1 := x1) (x3 := x3) (x5 := t0) (x6 := x6) (x7 := x7) (x8 := x8) hI hA r_x1 r_x3 r_t0 (by omega) (by omega) r_x8 (by unfold FAR kin at q0; unfold kin; omega) q1 m61 m71
    ·
      replace c22 := ti_eqN c22 rfl (show (2 : Int32).toInt = 2 from rfl)
      exact x_isAttacked_217 (P := P)  hself61 hself71 (x1 := x1) (x3 := x3) (x5 := t0) (x6 := x6) (x7 := x7) hI hA r_x1 r_x3 r_t0 r_x6 r_x7 (at_ngl q1 (by unfold FAR kin at q0; unfold kin; omega)) m61 m71
theorem x_isAttacked_119 {P : Prop} {I : Nat → Int32} {A : Nat → Nat → Int32} {self61 : Int32 → Int32 → Int32 → Int32 → (Nat → Int32) → (Nat → Nat → Int32) → Option (Int32 × MS)} {N61 : Nat} (hself61 : ∀ (x1 : Int32) (x3 : Int32) (x5 : Int32) (x6 : Int32),  ((0 : Int) ≤ x1.toInt ∧ x1.toInt ≤ (63 : Int)) → ((0 : Int) ≤ x3.toInt ∧ x3.toInt ≤ (8 : Int)) → ((0 : Int) ≤ x5.toInt ∧ x5.toInt ≤ (1 : Int)) → ((-2 : Int) ≤ x6.toInt ∧ x6.toInt ≤ (3 : Int)) → (P ↔ x5.toInt = 1 ∨ rem (mR A) x1.toInt x3.toInt x6.toInt (-2)) → (3 - x6.toInt) < (N61 : Int) → Ok (self61 x1 x3 x5 x6 I A) (fun o => o.2 = (I, A) ∧ ((0 : Int) ≤ o.1.toInt ∧ o.1.toInt ≤ (1 : Int)) ∧ ((o.1.toInt = 1 ↔ P)))) {self71 : Int32 → Int32 → Int32 → Int32 → Int32 → (Nat → Int32) → (Nat → Nat → Int32) → Option (Int32 × MS)} {N71 : Nat} (hself71 : ∀ (x1 : Int32) (x3 : Int32) (x5 : Int32) (x6 : Int32) (x7 : Int32),  ((0 : Int) ≤ x1.toInt ∧ x1.toInt ≤ (63 : Int)) → ((0 : Int) ≤ x3.toInt ∧ x3.toInt ≤ (8 : Int)) → ((0 : Int) ≤ x5.toInt ∧ x5.toInt ≤ (1 : Int)) → ((-2 : Int) ≤ x6.toInt ∧ x6.toInt ≤ (2 : Int)) → ((-2 : Int) ≤ x7.toInt ∧ x7.toInt ≤ (3 : Int)) → (P ↔ x5.toInt = 1 ∨ rem (mR A) x1.toInt x3.toInt x6.toInt x7.toInt) → ((3 - x6.toInt) ≤ (N61 : Int)) → (3 - x7.toInt) < (N71 : Int) → Ok (self71 x1 x3 x5 x6 x7 I A) (fun o => o.2 = (I, A) ∧ ((0 : Int) ≤ o.1.toInt ∧ o.1.toInt ≤ (1 : Int)) ∧ ((o.1.toInt = 1 ↔ P)))) {x1 : Int32} {x3 : Int32} {x6 : Int32} {x7 : Int32} {x8 : Int32} (hI : TJ I) (hA : TK A) (r_x1 : (0 : Int) ≤ x1.toInt ∧ x1.toInt ≤ (63 : Int)) (r_x3 : (0 : Int) ≤ x3.toInt ∧ x3.toInt ≤ (8 : Int)) (r_x6 : (-2 : Int) ≤ x6.toInt ∧ x6.toInt ≤ (2 : Int)) (r_x7 : (-2 : Int) ≤ x7.toInt ∧ x7.toInt ≤ (2 : Int)) (r_x8 : (0 : Int) ≤ x8.toInt ∧ x8.toInt ≤ (8 : Int)) (q0 : FAR x6.toInt x7.toInt x8.toInt) (q1 : P ↔ hG (mR A) x1.toInt x3.toInt x6.toInt x7.toInt ∨ hL (mR A) x1.toInt x3.toInt x6.toInt x7.toInt ∨ rem (mR A) x1.toInt x3.toInt x6.toInt (x7.toInt + 1)) (m61 : (3 - x6.toInt) ≤ (N61 : Int)) (m71 : (3 - x7.toInt) ≤ (N71 : Int)) : Ok (f_isAttacked_119 self61 self71 x1 x3 x6 x7 x8 I A) (fun o => o.2 = (I, A) ∧ ((0 : Int) ≤ o.1.toInt ∧ o.1.toInt ≤ (1 : Int)) ∧ ((o.1.toInt = 1 ↔ P))) := by
  unfold f_isAttacked_119
  refine ok_if (fun c23 => ?_) (fun c23 => ?_)
  ·
    replace c23 := ti_leP c23 rfl (show (0 : Int32).toInt = 0 from rfl)
    unfold f_isAttacked_153
    exact x_isAttacked_154 (P := P)  hself61 hself71 (x1 := x1) (x3 := x3) (x6 := x6) (x7 := x7) (x8 := x8) (t0 := (0 : Int32)) hI hA r_x1 r_x3 r_x6 r_x7 r_x8 (by decide) q0 (at_f q1 (by first | (intro h9; unfold FAR kin at q0; have h8 := h9.1; unfold kin at h8; omega) | exact hG_s (stp_of p_r1.2) (by have := p_r3.2; omega))) m61 m71
  ·
    replace c23 := ti_leN c23 rfl (show (0 : Int32).toInt = 0 from rfl)
    refine ok_if (fun c24 => ?_) (fun c24 => ?_)
    ·
      replace c24 := ti_leP c24 (show (3 : Int32).toInt = 3 from rfl) rfl
      unfold f_isAttacked_153
      exact x_isAttacked_154 (P := P)  hself61 hself71 (x1 := x1) (x3 := x3) (x6 := x6) (x7 := x7) (x8 := x8) (t0 := (0 : Int32)) hI hA r_x1 r_x3 r_x6 r_x7 r_x8 (by decide) q0 (at_f q1 (by first | (intro h9; unfold FAR kin at q0; have h8 := h9.1; unfold kin at h8; omega) | exact hG_s (stp_of p_r1.2) (by have := p_r3.2; omega))) m61 m71
    ·
      replace c24 := ti_leN c24 (show (3 : Int32).toInt = 3 from rfl) rfl
      obtain ⟨r1, h_r1, p_r1⟩ := ro (t_step (x0 := x1) (x1 := x6) (x2 := x7)  hI hA r_x1 r_x6 r_x7)
      refine ok_clR h_r1 ?_
      dsimp only at p_r1
      refine ok_bnd (fun v2 e25 => ?_)
      have t_v2 : v2.toInt = 6 + x3.toInt := ti_add e25 (show (6 : Int32).toInt = 6 from rfl) rfl (by omega) (by omega)
      obtain ⟨r3, h_r3, p_r3⟩ := ro (x_stands (x1 := r1) (x2 := v2)  hI hA (by omega))
      refine ok_clR h_r3 ?_
      dsimp only at p_r3
      refine ok_if (fun c26 => ?_) (fun c26 => ?_)
      ·
        replace c26 := ti_eqP c26 rfl (show (0 : Int32).toInt = 0 from rfl)
        unfold f_isAttacked_153
        exact x_isAttacked_154 (P := P)  hself61 hself71 (x1 := x1) (x3 := x3) (x6 := x6) (x7 := x7) (x8 := x8) (t0 := (0 : Int32)) hI hA r_x1 r_x3 r_x6 r_x7 r_x8 (by decide) q0 (at_f q1 (by first | (intro h9; unfold FAR kin at q0; have h8 := h9.1; unfold kin at h8; omega) | exact hG_s (stp_of p_r1.2) (by have := p_r3.2; omega))) m61 m71
      ·
        replace c26 := ti_eqN c26 rfl (show (0 : Int32).toInt = 0 from rfl)
        unfold f_isAttacked_149
        exact x_isAttacked_154 (P := P)  hself61 hself71 (x1 := x1) (x3 := x3) (x6 := x6) (x7 := x7) (x8 := x8) (t0 := (1 : Int32)) hI hA r_x1 r_x3 r_x6 r_x7 r_x8 (by decide) (by first | assumption | (unfold FAR kin; omega)) (at_t (by first | exact q0.2 (Or.inl (by omega)) | exact at_hk q0 (by omega) (by omega) (hK_y (stp_of p_r5.2) (by unfold kni; omega) (by have := p_r7.2; omega)) | exact q1.2 (Or.inl (hG_y (stp_of p_r1.2) (by unfold FAR kin at q0; unfold kin; omega) (by have := p_r3.2; omega))))) m61 m71
theorem x_isAttacked_71s {P : Prop} {I : Nat → Int32} {A : Nat → Nat → Int32} {self61 : Int32 → Int32 → Int32 → Int32 → (Nat → Int32) → (Nat → Nat → Int32) → Option (Int32 × MS)} {N61 : Nat} (hself61 : ∀ (x1 : Int32) (x3 : Int32) (x5 : Int32) (x6 : Int32),  ((0 : Int) ≤ x1.toInt ∧ x1.toInt ≤ (63 : Int)) → ((0 : Int) ≤ x3.toInt ∧ x3.toInt ≤ (8 : Int)) → ((0 : Int) ≤ x5.toInt ∧ x5.toInt ≤ (1 : Int)) → ((-2 : Int) ≤ x6.toInt ∧ x6.toInt ≤ (3 : Int)) → (P ↔ x5.toInt = 1 ∨ rem (mR A) x1.toInt x3.toInt x6.toInt (-2)) → (3 - x6.toInt) < (N61 : Int) → Ok (self61 x1 x3 x5 x6 I A) (fun o => o.2 = (I, A) ∧ ((0 : Int) ≤ o.1.toInt ∧ o.1.toInt ≤ (1 : Int)) ∧ ((o.1.toInt = 1 ↔ P)))) {self71 : Int32 → Int32 → Int32 → Int32 → Int32 → (Nat → Int32) → (Nat → Nat → Int32) → Option (Int32 × MS)} {N71 : Nat} (hself71 : ∀ (x1 : Int32) (x3 : Int32) (x5 : Int32) (x6 : Int32) (x7 : Int32),  ((0 : Int) ≤ x1.toInt ∧ x1.toInt ≤ (63 : Int)) → ((0 : Int) ≤ x3.toInt ∧ x3.toInt ≤ (8 : Int)) → ((0 : Int) ≤ x5.toInt ∧ x5.toInt ≤ (1 : Int)) → ((-2 : Int) ≤ x6.toInt ∧ x6.toInt ≤ (2 : Int)) → ((-2 : Int) ≤ x7.toInt ∧ x7.toInt ≤ (3 : Int)) → (P ↔ x5.toInt = 1 ∨ rem (mR A) x1.toInt x3.toInt x6.toInt x7.toInt) → ((3 - x6.toInt) ≤ (N61 : Int)) → (3 - x7.toInt) < (N71 : Int) → Ok (self71 x1 x3 x5 x6 x7 I A) (fun o => o.2 = (I, A) ∧ ((0 : Int) ≤ o.1.toInt ∧ o.1.toInt ≤ (1 : Int)) ∧ ((o.1.toInt = 1 ↔ P)))) {x1 : Int32} {x3 : Int32} {x5 : Int32} {x6 : Int32} {x7 : Int32} (hI : TJ I) (hA : TK A) (r_x1 : (0 : Int) ≤ x1.toInt ∧ x1.toInt ≤ (63 : Int)) (r_x3 : (0 : Int) ≤ x3.toInt ∧ x3.toInt ≤ (8 : Int)) (r_x5 : (0 : Int) ≤ x5.toInt ∧ x5.toInt ≤ (1 : Int)) (r_x6 : (-2 : Int) ≤ x6.toInt ∧ x6.toInt ≤ (2 : Int)) (r_x7 : (-2 : Int) ≤ x7.toInt ∧ x7.toInt ≤ (3 : Int)) (q0 : P ↔ x5.toInt = 1 ∨ rem (mR A) x1.toInt x3.toInt x6.toInt x7.toInt) (m61 : (3 - x6.toInt) ≤ (N61 : Int)) (m71 : (3 - x7.toInt) ≤ (N71 : Int)) : Ok (f_isAttacked_71s self61 self71 x1 x3 x5 x6 x7 I A) (fun o => o.2 = (I, A) ∧ ((0 : Int) ≤ o.1.toInt ∧ o.1.toInt ≤ (1 : Int)) ∧ ((o.1.toInt = 1 ↔ P))) := by
  unfold f_isAttacked_71s
  refine ok_if (fun c27 => ?_) (fun c27 => ?_)
  ·
    replace c27 := ti_leP c27 (show (3 : Int32).toInt = 3 from rfl) rfl
    refine ok_bnd (fun v1 e28 => ?_)
    have t_v1 : v1.toInt = x6.toInt + 1 := ti_add e28 rfl (show (1 : Int32).toInt = 1 from rfl) (by omega) (by omega)
    exact hself61 x1 x3 x5 v1 r_x1 r_x3 r_x5 (by omega) (by rw [t_v1]; exact q0.trans (or_congr Iff.rfl (rem_r (by omega)))) (by omega)
  ·
    replace c27 := ti_leN c27 (show (3 : Int32).toInt = 3 from rfl) rfl
    refine ok_bnd (fun v2 e29 => ?_)
    have t_v2 := ti_sq e29 (by omega) (by omega)
    refine ok_bnd (fun v3 e30 => ?_)
    have t_v3 := ti_sq e30 (by omega) (by omega)
    refine ok_bnd (fun v4 e31 => ?_)
    have t_v4 : v4.toInt = v2.toInt + v3.toInt := ti_add e31 rfl rfl (by omega) (by omega)
    refine ok_if (fun c32 => ?_) (fun c32 => ?_)
    ·
      replace c32 := ti_eqP c32 rfl (show (0 : Int32).toInt = 0 from rfl)
      refine ok_if (fun c33 => ?_) (fun c33 => ?_)
      ·
        replace c33 := ti_eqP c33 rfl (show (5 : Int32).toInt = 5 from rfl)
        obtain ⟨r5, h_r5, p_r5⟩ := ro (t_step (x0 := x1) (x1 := x6) (x2 := x7)  hI hA r_x1 r_x6 (by omega))
        refine ok_clR h_r5 ?_
        dsimp only at p_r5
        refine ok_bnd (fun v6 e34 => ?_)
        have t_v6 : v6.toInt = 2 + x3.toInt := ti_add e34 (show (2 : Int32).toInt = 2 from rfl) rfl (by omega) (by omega)
        obtain ⟨r7, h_r7, p_r7⟩ := ro (x_stands (x1 := r5) (x2 := v6)  hI hA (by omega))
        refine ok_clR h_r7 ?_
        dsimp only at p_r7
        refine ok_if (fun c35 => ?_) (fun c35 => ?_)
        ·
          replace c35 := ti_eqP c35 rfl (show (0 : Int32).toInt = 0 from rfl)
          exact x_isAttacked_119 (P := P)  hself61 hself71 (x1 := x1) (x3 := x3) (x6 := x6) (x7 := x7) (x8 := v4) hI hA r_x1 r_x3 r_x6 (by omega) (by omega) (by unfold FAR kin; omega) (at_119 q0 (by omega) (by omega) (by omega) (by first | (unfold hK kni; omega) | exact hK_s (stp_of p_r5.2) (by have := p_r7.2; omega))) m61 m71
        ·
          replace c35 := ti_eqN c35 rfl (show (0 : Int32).toInt = 0 from rfl)
          unfold f_isAttacked_149
          exact x_isAttacked_154 (P := P)  hself61 hself71 (x1 := x1) (x3 := x3) (x6 := x6) (x7 := x7) (x8 := v4) (t0 := (1 : Int32)) hI hA r_x1 r_x3 r_x6 (by omega) (by omega) (by decide) (by first | assumption | (unfold FAR kin; omega)) (at_t (by first | exact q0.2 (Or.inl (by omega)) | exact at_hk q0 (by omega) (by omega) (hK_y (stp_of p_r5.2) (by unfold kni; omega) (by have := p_r7.2; omega)) | exact q1.2 (Or.inl (hG_y (stp_of p_r1.2) (by unfold FAR kin at q0; unfold kin; omega) (by have := p_r3.2; omega))))) m61 m71
      ·
        replace c33 := ti_eqN c33 rfl (show (5 : Int32).toInt = 5 from rfl)
        exact x_isAttacked_119 (P := P)  hself61 hself71 (x1 := x1) (x3 := x3) (x6 := x6) (x7 := x7) (x8 := v4) hI hA r_x1 r_x3 r_x6 (by omega) (by omega) (by unfold FAR kin; omega) (at_119 q0 (by omega) (by omega) (by omega) (by first | (unfold hK kni; omega) | exact hK_s (stp_of p_r5.2) (by have := p_r7.2; omega))) m61 m71
    ·
      replace c32 := ti_eqN c32 rfl (show (0 : Int32).toInt = 0 from rfl)
      unfold f_isAttacked_149
      exact x_isAttacked_154 (P := P)  hself61 hself71 (x1 := x1) (x3 := x3) (x6 := x6) (x7 := x7) (x8 := v4) (t0 := (1 : Int32)) hI hA r_x1 r_x3 r_x6 (by omega) (by omega) (by decide) (by first | assumption | (unfold FAR kin; omega)) (at_t (by first | exact q0.2 (Or.inl (by omega)) | exact at_hk q0 (by omega) (by omega) (hK_y (stp_of p_r5.2) (by unfold kni; omega) (by have := p_r7.2; omega)) | exact q1.2 (Or.inl (hG_y (stp_of p_r1.2) (by unfold FAR kin at q0; unfold kin; omega) (by have := p_r3.2; omega))))) m61 m71
theorem x_isAttacked_71 {P : Prop} {I : Nat → Int32} {A : Nat → Nat → Int32} {self61 : Int32 → Int32 → Int32 → Int32 → (Nat → Int32) → (Nat → Nat → Int32) → Option (Int32 × MS)} {N61 : Nat} (hself61 : ∀ (x1 : Int32) (x3 : Int32) (x5 : Int32) (x6 : Int32),  ((0 : Int) ≤ x1.toInt ∧ x1.toInt ≤ (63 : Int)) → ((0 : Int) ≤ x3.toInt ∧ x3.toInt ≤ (8 : Int)) → ((0 : Int) ≤ x5.toInt ∧ x5.toInt ≤ (1 : Int)) → ((-2 : Int) ≤ x6.toInt ∧ x6.toInt ≤ (3 : Int)) → (P ↔ x5.toInt = 1 ∨ rem (mR A) x1.toInt x3.toInt x6.toInt (-2)) → (3 - x6.toInt) < (N61 : Int) → Ok (self61 x1 x3 x5 x6 I A) (fun o => o.2 = (I, A) ∧ ((0 : Int) ≤ o.1.toInt ∧ o.1.toInt ≤ (1 : Int)) ∧ ((o.1.toInt = 1 ↔ P)))) (hI : TJ I) (hA : TK A) : ∀ (n : Nat) (x1 : Int32) (x3 : Int32) (x5 : Int32) (x6 : Int32) (x7 : Int32),  ((0 : Int) ≤ x1.toInt ∧ x1.toInt ≤ (63 : Int)) → ((0 : Int) ≤ x3.toInt ∧ x3.toInt ≤ (8 : Int)) → ((0 : Int) ≤ x5.toInt ∧ x5.toInt ≤ (1 : Int)) → ((-2 : Int) ≤ x6.toInt ∧ x6.toInt ≤ (2 : Int)) → ((-2 : Int) ≤ x7.toInt ∧ x7.toInt ≤ (3 : Int)) → (P ↔ x5.toInt = 1 ∨ rem (mR A) x1.toInt x3.toInt x6.toInt x7.toInt) → ((3 - x6.toInt) ≤ (N61 : Int)) → (3 - x7.toInt) < (n : Int) → Ok (f_isAttacked_71 self61 n x1 x3 x5 x6 x7 I A) (fun o => o.2 = (I, A) ∧ ((0 : Int) ≤ o.1.toInt ∧ o.1.toInt ≤ (1 : Int)) ∧ ((o.1.toInt = 1 ↔ P))) := by
  intro n
  induction n with
  | zero => intro x1 x3 x5 x6 x7 g0 g1 g2 g3 g4 g5 w0 hm; exfalso; omega
  | succ n ih =>
    intro x1 x3 x5 x6 x7 g0 g1 g2 g3 g4 g5 w0 hm
    exact x_isAttacked_71s (P := P)  (N71 := n) hself61 ih hI hA g0 g1 g2 g3 g4 g5 w0 (by omega)
theorem x_isAttacked_61s {P : Prop} {I : Nat → Int32} {A : Nat → Nat → Int32} {self61 : Int32 → Int32 → Int32 → Int32 → (Nat → Int32) → (Nat → Nat → Int32) → Option (Int32 × MS)} {N61 : Nat} (hself61 : ∀ (x1 : Int32) (x3 : Int32) (x5 : Int32) (x6 : Int32),  ((0 : Int) ≤ x1.toInt ∧ x1.toInt ≤ (63 : Int)) → ((0 : Int) ≤ x3.toInt ∧ x3.toInt ≤ (8 : Int)) → ((0 : Int) ≤ x5.toInt ∧ x5.toInt ≤ (1 : Int)) → ((-2 : Int) ≤ x6.toInt ∧ x6.toInt ≤ (3 : Int)) → (P ↔ x5.toInt = 1 ∨ rem (mR A) x1.toInt x3.toInt x6.toInt (-2)) → (3 - x6.toInt) < (N61 : Int) → Ok (self61 x1 x3 x5 x6 I A) (fun o => o.2 = (I, A) ∧ ((0 : Int) ≤ o.1.toInt ∧ o.1.toInt ≤ (1 : Int)) ∧ ((o.1.toInt = 1 ↔ P)))) {x1 : Int32} {x3 : Int32} {x5 : Int32} {x6 : Int32} (hI : TJ I) (hA : TK A) (r_x1 : (0 : Int) ≤ x1.toInt ∧ x1.toInt ≤ (63 : Int)) (r_x3 : (0 : Int) ≤ x3.toInt ∧ x3.toInt ≤ (8 : Int)) (r_x5 : (0 : Int) ≤ x5.toInt ∧ x5.toInt ≤ (1 : Int)) (r_x6 : (-2 : Int) ≤ x6.toInt ∧ x6.toInt ≤ (3 : Int)) (q0 : P ↔ x5.toInt = 1 ∨ rem (mR A) x1.toInt x3.toInt x6.toInt (-2)) (m61 : (3 - x6.toInt) ≤ (N61 : Int)) : Ok (f_isAttacked_61s self61 x1 x3 x5 x6 I A) (fun o => o.2 = (I, A) ∧ ((0 : Int) ≤ o.1.toInt ∧ o.1.toInt ≤ (1 : Int)) ∧ ((o.1.toInt = 1 ↔ P))) := by
  unfold f_isAttacked_61s
  refine ok_if (fun c36 => ?_) (fun c36 => ?_)
  ·
    replace c36 := ti_leP c36 (show (3 : Int32).toInt = 3 from rfl) rfl
    refine ok_chk (nar_b (by omega) (by omega)) ?_
    exact ok_ret ⟨rfl, (show (0 : Int) ≤ x5.toInt ∧ x5.toInt ≤ (1 : Int) from (by omega)), (by show ((x5 : Int32).toInt = 1 ↔ P); rw [q0]; exact ⟨Or.inl, fun h => h.elim id (fun h2 => absurd h2 (rem_e (by omega)))⟩)⟩
  ·
    replace c36 := ti_leN c36 (show (3 : Int32).toInt = 3 from rfl) rfl
    exact x_isAttacked_71 (P := P)  hself61 hI hA mFuel x1 x3 x5 x6 (-2 : Int32)  r_x1 r_x3 r_x5 (by omega) (by decide) q0 m61 (by show _ < ((200000 : Nat) : Int); have z0 : (-2 : Int32).toInt = -2 := rfl; omega)
theorem x_isAttacked_61 {P : Prop} {I : Nat → Int32} {A : Nat → Nat → Int32} (hI : TJ I) (hA : TK A) : ∀ (n : Nat) (x1 : Int32) (x3 : Int32) (x5 : Int32) (x6 : Int32),  ((0 : Int) ≤ x1.toInt ∧ x1.toInt ≤ (63 : Int)) → ((0 : Int) ≤ x3.toInt ∧ x3.toInt ≤ (8 : Int)) → ((0 : Int) ≤ x5.toInt ∧ x5.toInt ≤ (1 : Int)) → ((-2 : Int) ≤ x6.toInt ∧ x6.toInt ≤ (3 : Int)) → (P ↔ x5.toInt = 1 ∨ rem (mR A) x1.toInt x3.toInt x6.toInt (-2)) → (3 - x6.toInt) < (n : Int) → Ok (f_isAttacked_61  n x1 x3 x5 x6 I A) (fun o => o.2 = (I, A) ∧ ((0 : Int) ≤ o.1.toInt ∧ o.1.toInt ≤ (1 : Int)) ∧ ((o.1.toInt = 1 ↔ P))) := by
  intro n
  induction n with
  | zero => intro x1 x3 x5 x6 g0 g1 g2 g3 g4  hm; exfalso; omega
  | succ n ih =>
    intro x1 x3 x5 x6 g0 g1 g2 g3 g4  hm
    exact x_isAttacked_61s (P := P)  (N61 := n)  ih hI hA g0 g1 g2 g3 g4  (by omega)
theorem x_isAttacked_55 {P : Prop} {I : Nat → Int32} {A : Nat → Nat → Int32} {x1 : Int32} {x3 : Int32} {t0 : Int32} (hI : TJ I) (hA : TK A) (r_x1 : (0 : Int) ≤ x1.toInt ∧ x1.toInt ≤ (63 : Int)) (r_x3 : (0 : Int) ≤ x3.toInt ∧ x3.toInt ≤ (8 : Int)) (r_t0 : (0 : Int) ≤ t0.toInt ∧ t0.toInt ≤ (1 : Int)) (q0 : P ↔ t0.toInt = 1 ∨ rem (mR A) x1.toInt x3.toInt (-2) (-2)) : Ok (f_isAttacked_55 x1 x3 t0 I A) (fun o => o.2 = (I, A) ∧ ((0 : Int) ≤ o.1.toInt ∧ o.1.toInt ≤ (1 : Int)) ∧ ((o.1.toInt = 1 ↔ P))) := by
  unfold f_isAttacked_55
  exact x_isAttacked_61 (P := P)   hI hA mFuel x1 x3 t0 (-2 : Int32)  r_x1 r_x3 r_t0 (by decide) q0 (by show _ < ((200000 : Nat) : Int); have z0 : (-2 : Int32).toInt = -2 := rfl; omega)
theorem x_isAttacked_14 {P : Prop} {I : Nat → Int32} {A : Nat → Nat → Int32} {x1 : Int32} {x3 : Int32} {t0 : Int32} (hI : TJ I) (hA : TK A) (r_x1 : (0 : Int) ≤ x1.toInt ∧ x1.toInt ≤ (63 : Int)) (r_x3 : (0 : Int) ≤ x3.toInt ∧ x3.toInt ≤ (8 : Int)) (r_t0 : (-1 : Int) ≤ t0.toInt ∧ t0.toInt ≤ (1 : Int)) (q0 : P ↔ pwX (mR A) x1.toInt x3.toInt t0.toInt ∨ rem (mR A) x1.toInt x3.toInt (-2) (-2)) : Ok (f_isAttacked_14 x1 x3 t0 I A) (fun o => o.2 = (I, A) ∧ ((0 : Int) ≤ o.1.toInt ∧ o.1.toInt ≤ (1 : Int)) ∧ ((o.1.toInt = 1 ↔ P))) := by
  unfold f_isAttacked_14
  obtain ⟨r1, h_r1, p_r1⟩ := ro (t_step (x0 := x1) (x1 := (-1 : Int32)) (x2 := t0)  hI hA r_x1 (by decide) (by omega))
  refine ok_clR h_r1 ?_
  dsimp only at p_r1
  refine ok_bnd (fun v2 e37 => ?_)
  have t_v2 : v2.toInt = 1 + x3.toInt := ti_add e37 (show (1 : Int32).toInt = 1 from rfl) rfl (by omega) (by omega)
  obtain ⟨r3, h_r3, p_r3⟩ := ro (x_stands (x1 := r1) (x2 := v2)  hI hA (by omega))
  refine ok_clR h_r3 ?_
  dsimp only at p_r3
  refine ok_if (fun c38 => ?_) (fun c38 => ?_)
  ·
    replace c38 := ti_eqP c38 rfl (show (0 : Int32).toInt = 0 from rfl)
    obtain ⟨r4, h_r4, p_r4⟩ := ro (t_step (x0 := x1) (x1 := (1 : Int32)) (x2 := t0)  hI hA r_x1 (by decide) (by omega))
    refine ok_clR h_r4 ?_
    dsimp only at p_r4
    refine ok_bnd (fun v5 e39 => ?_)
    have t_v5 : v5.toInt = 1 + x3.toInt := ti_add e39 (show (1 : Int32).toInt = 1 from rfl) rfl (by omega) (by omega)
    obtain ⟨r6, h_r6, p_r6⟩ := ro (x_stands (x1 := r4) (x2 := v5)  hI hA (by omega))
    refine ok_clR h_r6 ?_
    dsimp only at p_r6
    refine ok_if (fun c40 => ?_) (fun c40 => ?_)
    ·
      replace c40 := ti_eqP c40 rfl (show (0 : Int32).toInt = 0 from rfl)
      exact x_isAttacked_55 (P := P)   (x1 := x1) (x3 := x3) (t0 := (0 : Int32)) hI hA r_x1 r_x3 (by decide) (at_f q0 (pw_n (stp_of p_r1.2) (stp_of p_r4.2) (by have := p_r3.2; omega) (by have := p_r6.2; omega)))
    ·
      replace c40 := ti_eqN c40 rfl (show (0 : Int32).toInt = 0 from rfl)
      unfold f_isAttacked_50
      exact x_isAttacked_55 (P := P)   (x1 := x1) (x3 := x3) (t0 := (1 : Int32)) hI hA r_x1 r_x3 (by decide) (at_t (q0.2 (Or.inl (by first | exact pw_r (stp_of p_r4.2) (by have := p_r6.2; omega) | exact pw_l (stp_of p_r1.2) (by have := p_r3.2; omega)))))
  ·
    replace c38 := ti_eqN c38 rfl (show (0 : Int32).toInt = 0 from rfl)
    unfold f_isAttacked_50
    exact x_isAttacked_55 (P := P)   (x1 := x1) (x3 := x3) (t0 := (1 : Int32)) hI hA r_x1 r_x3 (by decide) (at_t (q0.2 (Or.inl (by first | exact pw_r (stp_of p_r4.2) (by have := p_r6.2; omega) | exact pw_l (stp_of p_r1.2) (by have := p_r3.2; omega)))))
theorem x_isAttacked_0 {P : Prop} {I : Nat → Int32} {A : Nat → Nat → Int32} {x1 : Int32} {x2 : Int32} (hI : TJ I) (hA : TK A) (r_x1 : (0 : Int) ≤ x1.toInt ∧ x1.toInt ≤ (63 : Int)) (r_x2 : (0 : Int) ≤ x2.toInt ∧ x2.toInt ≤ (1 : Int)) (q0 : P ↔ attR (mR A) x1.toInt x2.toInt) : Ok (f_isAttacked_0 x1 x2 I A) (fun o => o.2 = (I, A) ∧ ((0 : Int) ≤ o.1.toInt ∧ o.1.toInt ≤ (1 : Int)) ∧ ((o.1.toInt = 1 ↔ P))) := by
  unfold f_isAttacked_0
  refine ok_bnd (fun v1 e41 => ?_)
  have t_v1 : v1.toInt = 8 * x2.toInt := ti_mul e41 (show (8 : Int32).toInt = 8 from rfl) rfl (by omega) (by omega)
  refine ok_if (fun c42 => ?_) (fun c42 => ?_)
  ·
    replace c42 := ti_eqP c42 rfl (show (0 : Int32).toInt = 0 from rfl)
    exact x_isAttacked_14 (P := P)   (x1 := x1) (x3 := v1) (t0 := (-1 : Int32)) hI hA r_x1 (by omega) (by decide) (at_14 q0 (by have z : (-1 : Int32).toInt = -1 := rfl; omega) t_v1)
  ·
    replace c42 := ti_eqN c42 rfl (show (0 : Int32).toInt = 0 from rfl)
    exact x_isAttacked_14 (P := P)   (x1 := x1) (x3 := v1) (t0 := (1 : Int32)) hI hA r_x1 (by omega) (by decide) (at_14 q0 (by have z : (1 : Int32).toInt = 1 := rfl; omega) t_v1)
theorem x_isAttacked {P : Prop} {I : Nat → Int32} {A : Nat → Nat → Int32} {x1 : Int32} {x2 : Int32} (hI : TJ I) (hA : TK A) (r_x1 : (0 : Int) ≤ x1.toInt ∧ x1.toInt ≤ (63 : Int)) (r_x2 : (0 : Int) ≤ x2.toInt ∧ x2.toInt ≤ (1 : Int)) (q0 : P ↔ attR (mR A) x1.toInt x2.toInt) : Ok (f_isAttacked x1 x2 I A) (fun o => o.2 = (I, A) ∧ ((0 : Int) ≤ o.1.toInt ∧ o.1.toInt ≤ (1 : Int)) ∧ ((o.1.toInt = 1 ↔ P))) := x_isAttacked_0 (P := P) hI hA r_x1 r_x2 q0
theorem y_isAttacked {I : Nat → Int32} {A : Nat → Nat → Int32} {x1 x2 : Int32} (hI : TJ I) (hA : TK A) (r_x1 : (0 : Int) ≤ x1.toInt ∧ x1.toInt ≤ (63 : Int)) (r_x2 : (0 : Int) ≤ x2.toInt ∧ x2.toInt ≤ (1 : Int)) (hM : MBd (mR A)) : Ok (f_isAttacked x1 x2 I A) (fun o => o.2 = (I, A) ∧ ((0 : Int) ≤ o.1.toInt ∧ o.1.toInt ≤ (1 : Int)) ∧ (o.1.toInt = 1 ↔ attd (mR A) x1.toInt x2.toInt)) := by
  obtain ⟨o, h1, h2, h3, h4⟩ := x_isAttacked (P := attR (mR A) x1.toInt x2.toInt) hI hA r_x1 r_x2 Iff.rfl
  exact ⟨o, h1, h2, h3, h4.trans (att_eq hM (by omega) (by omega))⟩
