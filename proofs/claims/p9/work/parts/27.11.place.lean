def TRn (A : Nat → Nat → Int32) (g n : Nat) : Prop := TTb n (aP A g) (aM A g)
def TRE (A : Nat → Nat → Int32) (g : Nat) : Prop := TT (aK A g) (aP A g) (aM A g) (aC A g) (aN A g)
def pth (A : Nat → Nat → Int32) (g : Nat) (m : Int) : Prop := ∀ i : Nat, (i : Int) < m → 0 ≤ (A 34 i).toInt ∧ 0 ≤ aM A g (A 34 i).toInt.toNat
theorem TRn_fr {A A' : Nat → Nat → Int32} {g n : Nat} (e8 : A' 8 = A 8) (e9 : A' 9 = A 9) (h : TRn A g n) : TRn A' g n := by
  intro k h1 h2
  unfold aP aM
  rw [e8, e9]
  exact h k h1 h2
theorem TRE_fr {A A' : Nat → Nat → Int32} {g : Nat} (e7 : A' 7 = A 7) (e8 : A' 8 = A 8) (e9 : A' 9 = A 9) (e10 : A' 10 = A 10) (e11 : A' 11 = A 11) (h : TRE A g) : TRE A' g := by
  unfold TRE aK
  rw [e7]
  refine TT_congr h (fun k _ => ⟨?_, ?_, ?_, ?_⟩)
  · unfold aP; rw [e8]
  · unfold aM; rw [e9]
  · unfold aC; rw [e10]
  · unfold aN; rw [e11]
def TRH (A : Nat → Nat → Int32) (g n : Nat) : Prop := TRE A g ∧ aK A g = n
theorem TRH_fr {A A' : Nat → Nat → Int32} {g n : Nat} (e7 : A' 7 = A 7) (e8 : A' 8 = A 8) (e9 : A' 9 = A 9) (e10 : A' 10 = A 10) (e11 : A' 11 = A 11) (h : TRH A g n) : TRH A' g n := ⟨TRE_fr e7 e8 e9 e10 e11 h.1, by unfold aK; rw [e7]; exact h.2⟩
theorem pth_fr {A A' : Nat → Nat → Int32} {g : Nat} {m : Int} (e9 : A' 9 = A 9) (e34 : A' 34 = A 34) (h : pth A g m) : pth A' g m := by
  intro i hi
  unfold aM
  rw [e9, e34]
  exact h i hi
theorem pth_le {A : Nat → Nat → Int32} {g : Nat} {m m' : Int} (hm : m' ≤ m) (h : pth A g m) : pth A g m' := fun i hi => h i (by omega)
theorem pth_up {A A1 : Nat → Nat → Int32} {g i : Nat} {m : Int} {x : Int32} (h : pth A g m) (e : A1 = va_up A 34 (upd (A 34) i x)) (hi : (i : Int) = m) (hx : 0 ≤ x.toInt) (hm : 0 ≤ aM A g x.toInt.toNat) : pth A1 g (m + 1) := by
  intro j hj
  have e9 : A1 9 = A 9 := by rw [e]; exact va_up_ne _ _ (by decide)
  have e34 : A1 34 = upd (A 34) i x := by rw [e]; exact va_up_self _ _ _
  unfold aM
  rw [e9, e34]
  by_cases c : j = i
  · rw [c, upd_self]; exact ⟨hx, hm⟩
  · rw [upd_ne c]; exact h j (by omega)
theorem TRE_n {A : Nat → Nat → Int32} {g : Nat} (h : TRE A g) : TRn A g (aK A g) := h.1
theorem bh_self {n : Nat} {P M : Nat → Int} (hb : TTb n P M) {k : Nat} (hk : k ≤ n) : bh P k k := by
  cases k with
  | zero => rfl
  | succ k => exact (bh_step hb (by omega) hk).mpr (Or.inl rfl)
theorem t_place_147s {gg nn : Nat} {I : Nat → Int32} {A : Nat → Nat → Int32} {self147 : Int32 → Int32 → (Nat → Int32) → (Nat → Nat → Int32) → Option (Int32 × MS)} {N147 : Nat} (hself147 : ∀ (x1 : Int32) (x4 : Int32) (I : Nat → Int32) (A : Nat → Nat → Int32), TJ I → TK A → ((0 : Int) ≤ x1.toInt ∧ x1.toInt ≤ (1 : Int)) → ((-1 : Int) ≤ x4.toInt ∧ x4.toInt ≤ (299 : Int)) → (x1.toInt = (gg : Int)) → (pth A gg (x4.toInt + 1)) → ((I 29).toInt ≤ 1299 - x4.toInt) → (x4.toInt + 2) < (N147 : Int) → Ok (self147 x1 x4 I A) (fun o => TJ o.2.1 ∧ TK o.2.2 ∧ ((o.2.1 29).toInt ≤ 1999))) {x1 : Int32} {x4 : Int32} (hI : TJ I) (hA : TK A) (r_x1 : (0 : Int) ≤ x1.toInt ∧ x1.toInt ≤ (1 : Int)) (r_x4 : (-1 : Int) ≤ x4.toInt ∧ x4.toInt ≤ (299 : Int)) (q0 : x1.toInt = (gg : Int)) (q1 : pth A gg (x4.toInt + 1)) (q2 : (I 29).toInt ≤ 1299 - x4.toInt) (m147 : (x4.toInt + 2) ≤ (N147 : Int)) : Ok (f_place_147s self147 x1 x4 I A) (fun o => TJ o.2.1 ∧ TK o.2.2 ∧ ((o.2.1 29).toInt ≤ 1999)) := by
  unfold f_place_147s
  have b_I_29 := tI_29 hI
  refine ok_if (fun c1 => ?_) (fun c1 => ?_)
  ·
    replace c1 := ti_ltP c1 rfl (show (0 : Int32).toInt = 0 from rfl)
    obtain ⟨⟨r1, Ic1, Ac1⟩, h_r1, hI_Ic1, hA_Ac1, -⟩ := t_findMoves   hI hA (by omega)
    replace hI_Ic1 : TJ Ic1 := hI_Ic1
    replace hA_Ac1 : TK Ac1 := hA_Ac1
    refine ok_clR h_r1 ?_
    have f_r1 := fw_findMoves h_r1
    have : (Ic1 29).toInt = (I 29).toInt := congrArg Int32.toInt (f_r1.1 29 (by decide))
    have k2 : pth Ac1 gg (x4.toInt + 1) := pth_fr (f_r1.2 9 (by decide)) (f_r1.2 34 (by decide)) q1
    exact ok_ret ⟨hI_Ic1, hA_Ac1, (by show (Ic1 29).toInt ≤ 1999; have z : (0 : Int32).toInt = 0 := rfl; omega)⟩
  ·
    replace c1 := ti_ltN c1 rfl (show (0 : Int32).toInt = 0 from rfl)
    refine ok_bnd (fun v2 e3 => ?_)
    have t_v2 : v2.toInt = 301 * x1.toInt := ti_mul e3 (show (301 : Int32).toInt = 301 from rfl) rfl (by omega) (by omega)
    refine ok_chk (ti_in (by omega) (by omega)) ?_
    refine ok_bnd (fun v3 e4 => ?_)
    have b_v3 := tA_34 hA ((x4).toNatClampNeg)
    rw [← e4] at b_v3
    have n3 := ti_nc (a := x4) (by omega)
    have hp := q1 x4.toNatClampNeg (by omega)
    rw [← e4] at hp
    refine ok_bnd (fun v4 e5 => ?_)
    have t_v4 : v4.toInt = v2.toInt + v3.toInt := ti_add e5 rfl rfl (by omega) (by omega)
    refine ok_chk (ti_in (by omega) (by omega)) ?_
    refine ok_bnd (fun v5 e6 => ?_)
    have b_v5 := tA_9 hA ((v4).toNatClampNeg)
    rw [← e6] at b_v5
    have i5 : v4.toNatClampNeg = 301 * gg + v3.toInt.toNat := by have := ti_nc (a := v4) (by omega); omega
    have w5 : v5.toInt = aM A gg v3.toInt.toNat := by rw [e6, i5]; rfl
    obtain ⟨⟨r6, Ic6, Ac6⟩, h_r6, hI_Ic6, hA_Ac6, p_r6_0⟩ := t_make (x1 := v5)  hI hA (by omega) (show (I 29).toInt ≤ (I 29).toInt ∧ (I 29).toInt ≤ 1999 from ⟨Int.le_refl _, by omega⟩)
    replace hI_Ic6 : TJ Ic6 := hI_Ic6
    replace hA_Ac6 : TK Ac6 := hA_Ac6
    dsimp only at p_r6_0
    refine ok_clR h_r6 ?_
    have f_r6 := fw_make h_r6
    have k7 : pth Ac6 gg (x4.toInt + 1) := pth_fr (f_r6.2 9 (by decide)) (f_r6.2 34 (by decide)) q1
    refine ok_bnd (fun v7 e8 => ?_)
    have t_v7 : v7.toInt = x4.toInt + (-1) := ti_add e8 rfl (show (-1 : Int32).toInt = -1 from rfl) (by omega) (by omega)
    have b_Ic6_29 := tI_29 hI_Ic6
    exact hself147 x1 v7 Ic6 Ac6 hI_Ic6 hA_Ac6 r_x1 (by omega) q0 (pth_le (by omega) k7) (by omega) (by omega)
theorem t_place_147 {gg nn : Nat}  : ∀ (n : Nat) (x1 : Int32) (x4 : Int32) (I : Nat → Int32) (A : Nat → Nat → Int32), TJ I → TK A → ((0 : Int) ≤ x1.toInt ∧ x1.toInt ≤ (1 : Int)) → ((-1 : Int) ≤ x4.toInt ∧ x4.toInt ≤ (299 : Int)) → (x1.toInt = (gg : Int)) → (pth A gg (x4.toInt + 1)) → ((I 29).toInt ≤ 1299 - x4.toInt) → (x4.toInt + 2) < (n : Int) → Ok (f_place_147  n x1 x4 I A) (fun o => TJ o.2.1 ∧ TK o.2.2 ∧ ((o.2.1 29).toInt ≤ 1999)) := by
  intro n
  induction n with
  | zero => intro x1 x4 I A hI hA g0 g1 g2 g3 g4  hm; exfalso; omega
  | succ n ih =>
    intro x1 x4 I A hI hA g0 g1 g2 g3 g4  hm
    exact t_place_147s (gg := gg) (nn := nn)  (N147 := n)  ih hI hA g0 g1 g2 g3 g4  (by omega)
theorem t_place_42s {gg nn : Nat} {I : Nat → Int32} {A : Nat → Nat → Int32} {self42 : Int32 → Int32 → Int32 → (Nat → Int32) → (Nat → Nat → Int32) → Option (Int32 × MS)} {N42 : Nat} (hself42 : ∀ (x1 : Int32) (x3 : Int32) (x4 : Int32) (I : Nat → Int32) (A : Nat → Nat → Int32), TJ I → TK A → ((0 : Int) ≤ x1.toInt ∧ x1.toInt ≤ (1 : Int)) → ((0 : Int) ≤ x3.toInt ∧ x3.toInt ≤ (300 : Int)) → ((0 : Int) ≤ x4.toInt ∧ x4.toInt ≤ (64 : Int)) → (x1.toInt = (gg : Int)) → (pth A gg x3.toInt) → (65 - x4.toInt) < (N42 : Int) → Ok (self42 x1 x3 x4 I A) (fun o => TJ o.2.1 ∧ TK o.2.2 ∧ ((o.2.1 29).toInt ≤ 1999))) {x1 : Int32} {x3 : Int32} {x4 : Int32} (hI : TJ I) (hA : TK A) (r_x1 : (0 : Int) ≤ x1.toInt ∧ x1.toInt ≤ (1 : Int)) (r_x3 : (0 : Int) ≤ x3.toInt ∧ x3.toInt ≤ (300 : Int)) (r_x4 : (0 : Int) ≤ x4.toInt ∧ x4.toInt ≤ (64 : Int)) (q0 : x1.toInt = (gg : Int)) (q1 : pth A gg x3.toInt) (m42 : (65 - x4.toInt) ≤ (N42 : Int)) : Ok (f_place_42s self42 x1 x3 x4 I A) (fun o => TJ o.2.1 ∧ TK o.2.2 ∧ ((o.2.1 29).toInt ≤ 1999)) := by
  unfold f_place_42s
  have b_I_29 := tI_29 hI
  refine ok_if (fun c9 => ?_) (fun c9 => ?_)
  ·
    replace c9 := ti_leP c9 (show (64 : Int32).toInt = 64 from rfl) rfl
    refine ok_bnd (fun v1 e10 => ?_)
    have t_v1 : v1.toInt = 5 * x1.toInt := ti_mul e10 (show (5 : Int32).toInt = 5 from rfl) rfl (by omega) (by omega)
    refine ok_chk (ti_in (by omega) (by omega)) ?_
    refine ok_bnd (fun v2 e11 => ?_)
    have b_v2 := tA_17 hA ((v1).toNatClampNeg)
    rw [← e11] at b_v2
    have n_v2 := ti_nc (a := v1) (by omega)
    refine ok_bnd (fun I3 e12 => ?_)
    have hI_I3 : TJ I3 := e12.symm ▸ tj_u hI (k := 25) (show (0 : Int) ≤ v2.toInt from (by omega)) (show v2.toInt ≤ (1 : Int) from (by omega))
    have : (I3 29).toInt = (I 29).toInt := by rw [e12]; rfl
    refine ok_bnd (fun v4 e13 => ?_)
    have t_v4 : v4.toInt = 5 * x1.toInt := ti_mul e13 (show (5 : Int32).toInt = 5 from rfl) rfl (by omega) (by omega)
    refine ok_bnd (fun v5 e14 => ?_)
    have t_v5 : v5.toInt = v4.toInt + 1 := ti_add e14 rfl (show (1 : Int32).toInt = 1 from rfl) (by omega) (by omega)
    refine ok_chk (ti_in (by omega) (by omega)) ?_
    refine ok_bnd (fun v6 e15 => ?_)
    have b_v6 := tA_17 hA ((v5).toNatClampNeg)
    rw [← e15] at b_v6
    have n_v6 := ti_nc (a := v5) (by omega)
    refine ok_bnd (fun I7 e16 => ?_)
    have hI_I7 : TJ I7 := e16.symm ▸ tj_w hI_I3 (k := 26) rfl
    have : (I7 29).toInt = (I3 29).toInt := by rw [e16]; rfl
    refine ok_bnd (fun v8 e17 => ?_)
    have t_v8 : v8.toInt = 5 * x1.toInt := ti_mul e17 (show (5 : Int32).toInt = 5 from rfl) rfl (by omega) (by omega)
    refine ok_bnd (fun v9 e18 => ?_)
    have t_v9 : v9.toInt = v8.toInt + 2 := ti_add e18 rfl (show (2 : Int32).toInt = 2 from rfl) (by omega) (by omega)
    refine ok_chk (ti_in (by omega) (by omega)) ?_
    refine ok_bnd (fun v10 e19 => ?_)
    have b_v10 := tA_17 hA ((v9).toNatClampNeg)
    rw [← e19] at b_v10
    have n_v10 := ti_nc (a := v9) (by omega)
    refine ok_bnd (fun I11 e20 => ?_)
    have hI_I11 : TJ I11 := e20.symm ▸ tj_w hI_I7 (k := 27) rfl
    have : (I11 29).toInt = (I7 29).toInt := by rw [e20]; rfl
    refine ok_bnd (fun v12 e21 => ?_)
    have t_v12 : v12.toInt = 5 * x1.toInt := ti_mul e21 (show (5 : Int32).toInt = 5 from rfl) rfl (by omega) (by omega)
    refine ok_bnd (fun v13 e22 => ?_)
    have t_v13 : v13.toInt = v12.toInt + 3 := ti_add e22 rfl (show (3 : Int32).toInt = 3 from rfl) (by omega) (by omega)
    refine ok_chk (ti_in (by omega) (by omega)) ?_
    refine ok_bnd (fun v14 e23 => ?_)
    have b_v14 := tA_17 hA ((v13).toNatClampNeg)
    rw [← e23] at b_v14
    have n_v14 := ti_nc (a := v13) (by omega)
    refine ok_bnd (fun I15 e24 => ?_)
    have hI_I15 : TJ I15 := e24.symm ▸ tj_w hI_I11 (k := 28) rfl
    have : (I15 29).toInt = (I11 29).toInt := by rw [e24]; rfl
    refine ok_bnd (fun v16 e25 => ?_)
    have t_v16 : v16.toInt = 5 * x1.toInt := ti_mul e25 (show (5 : Int32).toInt = 5 from rfl) rfl (by omega) (by omega)
    refine ok_bnd (fun v17 e26 => ?_)
    have t_v17 : v17.toInt = v16.toInt + 4 := ti_add e26 rfl (show (4 : Int32).toInt = 4 from rfl) (by omega) (by omega)
    refine ok_chk (ti_in (by omega) (by omega)) ?_
    refine ok_bnd (fun v18 e27 => ?_)
    have b_v18 := tA_17 hA ((v17).toNatClampNeg)
    rw [← e27] at b_v18
    have n_v18 := ti_nc (a := v17) (by omega)
    refine ok_bnd (fun I19 e28 => ?_)
    have hI_I19 : TJ I19 := e28.symm ▸ tj_u hI_I15 (k := 29) (show (-1 : Int) ≤ v18.toInt from (by omega)) (show v18.toInt ≤ (2000 : Int) from (by omega))
    have : (I19 29).toInt = v18.toInt := by rw [e28]; exact rfl
    refine ok_bnd (fun v20 e29 => ?_)
    have t_v20 : v20.toInt = x3.toInt - 1 := ti_sub e29 rfl (show (1 : Int32).toInt = 1 from rfl) (by omega) (by omega)
    have b_I19_29 := tI_29 hI_I19
    exact t_place_147 (gg := gg) (nn := nn)    mFuel x1 v20 I19 A hI_I19 hA r_x1 (by omega) q0 (pth_le (by omega) q1) (by omega) (by show _ < ((200000 : Nat) : Int); omega)
  ·
    replace c9 := ti_leN c9 (show (64 : Int32).toInt = 64 from rfl) rfl
    refine ok_bnd (fun v21 e30 => ?_)
    have t_v21 : v21.toInt = 64 * x1.toInt := ti_mul e30 (show (64 : Int32).toInt = 64 from rfl) rfl (by omega) (by omega)
    refine ok_bnd (fun v22 e31 => ?_)
    have t_v22 : v22.toInt = v21.toInt + x4.toInt := ti_add e31 rfl rfl (by omega) (by omega)
    refine ok_chk (ti_in (by omega) (by omega)) ?_
    refine ok_bnd (fun v23 e32 => ?_)
    refine ok_chk (ti_in (by omega) (by omega)) ?_
    refine ok_bnd (fun A24 e33 => ?_)
    have hA_A24 : TK A24 := e33.symm ▸ tk_w hA (j := 24) rfl
    have k34 : pth A24 gg x3.toInt := pth_fr (show A24 9 = A 9 by rw [e33]; exact va_up_ne _ _ (by decide)) (show A24 34 = A 34 by rw [e33]; exact va_up_ne _ _ (by decide)) q1
    refine ok_bnd (fun v25 e35 => ?_)
    have t_v25 : v25.toInt = x4.toInt + 1 := ti_add e35 rfl (show (1 : Int32).toInt = 1 from rfl) (by omega) (by omega)
    exact hself42 x1 x3 v25 I A24 hI hA_A24 r_x1 r_x3 (by omega) q0 k34 (by omega)
theorem t_place_42 {gg nn : Nat}  : ∀ (n : Nat) (x1 : Int32) (x3 : Int32) (x4 : Int32) (I : Nat → Int32) (A : Nat → Nat → Int32), TJ I → TK A → ((0 : Int) ≤ x1.toInt ∧ x1.toInt ≤ (1 : Int)) → ((0 : Int) ≤ x3.toInt ∧ x3.toInt ≤ (300 : Int)) → ((0 : Int) ≤ x4.toInt ∧ x4.toInt ≤ (64 : Int)) → (x1.toInt = (gg : Int)) → (pth A gg x3.toInt) → (65 - x4.toInt) < (n : Int) → Ok (f_place_42  n x1 x3 x4 I A) (fun o => TJ o.2.1 ∧ TK o.2.2 ∧ ((o.2.1 29).toInt ≤ 1999)) := by
  intro n
  induction n with
  | zero => intro x1 x3 x4 I A hI hA g0 g1 g2 g3 g4  hm; exfalso; omega
  | succ n ih =>
    intro x1 x3 x4 I A hI hA g0 g1 g2 g3 g4  hm
    exact t_place_42s (gg := gg) (nn := nn)  (N42 := n)  ih hI hA g0 g1 g2 g3 g4  (by omega)
theorem t_place_5s {gg nn : Nat} {I : Nat → Int32} {A : Nat → Nat → Int32} {self5 : Int32 → Int32 → Int32 → (Nat → Int32) → (Nat → Nat → Int32) → Option (Int32 × MS)} {N5 : Nat} (hself5 : ∀ (x1 : Int32) (x3 : Int32) (x4 : Int32) (I : Nat → Int32) (A : Nat → Nat → Int32), TJ I → TK A → ((0 : Int) ≤ x1.toInt ∧ x1.toInt ≤ (1 : Int)) → ((0 : Int) ≤ x3.toInt ∧ x3.toInt ≤ (300 : Int)) → ((0 : Int) ≤ x4.toInt ∧ x4.toInt ≤ (300 : Int)) → (TRn A gg nn) → (x1.toInt = (gg : Int)) → (x4.toInt ≤ (nn : Int)) → (x3.toInt + x4.toInt ≤ 300) → (pth A gg x3.toInt) → (x4.toInt + 1) < (N5 : Int) → Ok (self5 x1 x3 x4 I A) (fun o => TJ o.2.1 ∧ TK o.2.2 ∧ ((o.2.1 29).toInt ≤ 1999))) {x1 : Int32} {x3 : Int32} {x4 : Int32} (hI : TJ I) (hA : TK A) (r_x1 : (0 : Int) ≤ x1.toInt ∧ x1.toInt ≤ (1 : Int)) (r_x3 : (0 : Int) ≤ x3.toInt ∧ x3.toInt ≤ (300 : Int)) (r_x4 : (0 : Int) ≤ x4.toInt ∧ x4.toInt ≤ (300 : Int)) (q0 : TRn A gg nn) (q1 : x1.toInt = (gg : Int)) (q2 : x4.toInt ≤ (nn : Int)) (q3 : x3.toInt + x4.toInt ≤ 300) (q4 : pth A gg x3.toInt) (m5 : (x4.toInt + 1) ≤ (N5 : Int)) : Ok (f_place_5s self5 x1 x3 x4 I A) (fun o => TJ o.2.1 ∧ TK o.2.2 ∧ ((o.2.1 29).toInt ≤ 1999)) := by
  unfold f_place_5s
  have b_I_29 := tI_29 hI
  refine ok_if (fun c36 => ?_) (fun c36 => ?_)
  ·
    replace c36 := ti_leP c36 rfl (show (0 : Int32).toInt = 0 from rfl)
    exact t_place_42 (gg := gg) (nn := nn)    mFuel x1 x3 (0 : Int32) I A hI hA r_x1 r_x3 (by decide) q1 q4 (by show _ < ((200000 : Nat) : Int); have z0 : (0 : Int32).toInt = 0 := rfl; omega)
  ·
    replace c36 := ti_leN c36 rfl (show (0 : Int32).toInt = 0 from rfl)
    refine ok_chk (ti_in (by omega) (by omega)) ?_
    refine ok_bnd (fun A1 e37 => ?_)
    have hA_A1 : TK A1 := e37.symm ▸ tk_u hA (j := 34) (show (0 : Int) ≤ x4.toInt from (by omega)) (show x4.toInt ≤ (300 : Int) from (by omega))
    have k38 : TRn A1 gg nn := TRn_fr (show A1 8 = A 8 by rw [e37]; exact va_up_ne _ _ (by decide)) (show A1 9 = A 9 by rw [e37]; exact va_up_ne _ _ (by decide)) q0
    refine ok_bnd (fun v2 e39 => ?_)
    have t_v2 : v2.toInt = x3.toInt + 1 := ti_add e39 rfl (show (1 : Int32).toInt = 1 from rfl) (by omega) (by omega)
    refine ok_bnd (fun v3 e40 => ?_)
    have t_v3 : v3.toInt = 301 * x1.toInt := ti_mul e40 (show (301 : Int32).toInt = 301 from rfl) rfl (by omega) (by omega)
    refine ok_bnd (fun v4 e41 => ?_)
    have t_v4 : v4.toInt = v3.toInt + x4.toInt := ti_add e41 rfl rfl (by omega) (by omega)
    refine ok_chk (ti_in (by omega) (by omega)) ?_
    refine ok_bnd (fun v5 e42 => ?_)
    have b_v5 := tA_8 hA_A1 ((v4).toNatClampNeg)
    rw [← e42] at b_v5
    have hp := q0 x4.toInt.toNat (by omega) (by omega)
    have i5 : v4.toNatClampNeg = 301 * gg + x4.toInt.toNat := by have := ti_nc (a := v4) (by omega); omega
    have w5 : v5.toInt = aP A gg x4.toInt.toNat := by rw [e42, e37, va_up_ne _ _ (by decide), i5]; rfl
    exact hself5 x1 v2 v5 I A1 hI hA_A1 r_x1 (by omega) (by omega) k38 q1 (by omega) (by omega) (by rw [t_v2]; exact pth_up q4 e37 (ti_nc (by omega)) (by omega) hp.2) (by omega)
theorem t_place_5 {gg nn : Nat}  : ∀ (n : Nat) (x1 : Int32) (x3 : Int32) (x4 : Int32) (I : Nat → Int32) (A : Nat → Nat → Int32), TJ I → TK A → ((0 : Int) ≤ x1.toInt ∧ x1.toInt ≤ (1 : Int)) → ((0 : Int) ≤ x3.toInt ∧ x3.toInt ≤ (300 : Int)) → ((0 : Int) ≤ x4.toInt ∧ x4.toInt ≤ (300 : Int)) → (TRn A gg nn) → (x1.toInt = (gg : Int)) → (x4.toInt ≤ (nn : Int)) → (x3.toInt + x4.toInt ≤ 300) → (pth A gg x3.toInt) → (x4.toInt + 1) < (n : Int) → Ok (f_place_5  n x1 x3 x4 I A) (fun o => TJ o.2.1 ∧ TK o.2.2 ∧ ((o.2.1 29).toInt ≤ 1999)) := by
  intro n
  induction n with
  | zero => intro x1 x3 x4 I A hI hA g0 g1 g2 g3 g4 g5 g6 g7  hm; exfalso; omega
  | succ n ih =>
    intro x1 x3 x4 I A hI hA g0 g1 g2 g3 g4 g5 g6 g7  hm
    exact t_place_5s (gg := gg) (nn := nn)  (N5 := n)  ih hI hA g0 g1 g2 g3 g4 g5 g6 g7  (by omega)
theorem t_place_0 {gg nn : Nat} {I : Nat → Int32} {A : Nat → Nat → Int32} {x1 : Int32} {x2 : Int32} (hI : TJ I) (hA : TK A) (r_x1 : (0 : Int) ≤ x1.toInt ∧ x1.toInt ≤ (1 : Int)) (r_x2 : (0 : Int) ≤ x2.toInt ∧ x2.toInt ≤ (300 : Int)) (q0 : TRn A gg nn) (q1 : x1.toInt = (gg : Int)) (q2 : x2.toInt ≤ (nn : Int)) : Ok (f_place_0 x1 x2 I A) (fun o => TJ o.2.1 ∧ TK o.2.2 ∧ ((o.2.1 29).toInt ≤ 1999)) := by
  unfold f_place_0
  have b_I_29 := tI_29 hI
  exact t_place_5 (gg := gg) (nn := nn)    mFuel x1 (0 : Int32) x2 I A hI hA r_x1 (by decide) r_x2 q0 q1 q2 (by have z0 : (0 : Int32).toInt = 0 := rfl; omega) (fun i hi => by have z0 : (0 : Int32).toInt = 0 := rfl; omega) (by show _ < ((200000 : Nat) : Int); have z0 : (0 : Int32).toInt = 0 := rfl; omega)
theorem t_place {gg nn : Nat} {I : Nat → Int32} {A : Nat → Nat → Int32} {x1 : Int32} {x2 : Int32} (hI : TJ I) (hA : TK A) (r_x1 : (0 : Int) ≤ x1.toInt ∧ x1.toInt ≤ (1 : Int)) (r_x2 : (0 : Int) ≤ x2.toInt ∧ x2.toInt ≤ (300 : Int)) (q0 : TRn A gg nn) (q1 : x1.toInt = (gg : Int)) (q2 : x2.toInt ≤ (nn : Int)) : Ok (f_place x1 x2 I A) (fun o => TJ o.2.1 ∧ TK o.2.2 ∧ ((o.2.1 29).toInt ≤ 1999)) := t_place_0 (gg := gg) (nn := nn) hI hA r_x1 r_x2 q0 q1 q2
theorem t_isFirst_0 {gg nn : Nat} {I : Nat → Int32} {A : Nat → Nat → Int32} {x1 : Int32} {x2 : Int32} (hI : TJ I) (hA : TK A) (r_x1 : (0 : Int) ≤ x1.toInt ∧ x1.toInt ≤ (1 : Int)) (r_x2 : (1 : Int) ≤ x2.toInt ∧ x2.toInt ≤ (300 : Int)) (q0 : TRn A gg nn) (q1 : x1.toInt = (gg : Int)) (q2 : x2.toInt ≤ (nn : Int)) : Ok (f_isFirst_0 x1 x2 I A) (fun o => o.2 = (I, A) ∧ ((0 : Int) ≤ o.1.toInt ∧ o.1.toInt ≤ (1 : Int)) ∧ ((o.1.toInt = 1 → aC A gg (aP A gg x2.toInt.toNat).toNat = x2.toInt) ∧ (o.1.toInt = 0 → aC A gg (aP A gg x2.toInt.toNat).toNat ≠ x2.toInt))) := by
  unfold f_isFirst_0
  refine ok_bnd (fun v1 e43 => ?_)
  have t_v1 : v1.toInt = 301 * x1.toInt := ti_mul e43 (show (301 : Int32).toInt = 301 from rfl) rfl (by omega) (by omega)
  refine ok_bnd (fun v2 e44 => ?_)
  have t_v2 : v2.toInt = 301 * x1.toInt := ti_mul e44 (show (301 : Int32).toInt = 301 from rfl) rfl (by omega) (by omega)
  refine ok_bnd (fun v3 e45 => ?_)
  have t_v3 : v3.toInt = v2.toInt + x2.toInt := ti_add e45 rfl rfl (by omega) (by omega)
  refine ok_chk (ti_in (by omega) (by omega)) ?_
  refine ok_bnd (fun v4 e46 => ?_)
  have b_v4 := tA_8 hA ((v3).toNatClampNeg)
  rw [← e46] at b_v4
  have hp := q0 x2.toInt.toNat (by omega) (by omega)
  have i4 : v3.toNatClampNeg = 301 * gg + x2.toInt.toNat := by have := ti_nc (a := v3) (by omega); omega
  have w4 : v4.toInt = aP A gg x2.toInt.toNat := by rw [e46, i4]; rfl
  refine ok_bnd (fun v5 e47 => ?_)
  have t_v5 : v5.toInt = v1.toInt + v4.toInt := ti_add e47 rfl rfl (by omega) (by omega)
  refine ok_chk (ti_in (by omega) (by omega)) ?_
  refine ok_bnd (fun v6 e48 => ?_)
  have b_v6 := tA_10 hA ((v5).toNatClampNeg)
  rw [← e48] at b_v6
  have i6 : v5.toNatClampNeg = 301 * gg + (aP A gg x2.toInt.toNat).toNat := by have := ti_nc (a := v5) (by omega); omega
  have w6 : v6.toInt = aC A gg (aP A gg x2.toInt.toNat).toNat := by rw [e48, i6]; rfl
  refine ok_if (fun c49 => ?_) (fun c49 => ?_)
  ·
    replace c49 := ti_eqP c49 rfl rfl
    unfold f_isFirst_32
    refine ok_chk (by decide) ?_
    exact ok_ret ⟨rfl, (show (0 : Int) ≤ (1 : Int32).toInt ∧ (1 : Int32).toInt ≤ (1 : Int) from (by decide)), (by show ((1 : Int32).toInt = 1 → aC A gg (aP A gg x2.toInt.toNat).toNat = x2.toInt) ∧ ((1 : Int32).toInt = 0 → aC A gg (aP A gg x2.toInt.toNat).toNat ≠ x2.toInt); constructor <;> intro h <;> first | (exact absurd h (by decide)) | omega)⟩
  ·
    replace c49 := ti_eqN c49 rfl rfl
    unfold f_isFirst_32
    refine ok_chk (by decide) ?_
    exact ok_ret ⟨rfl, (show (0 : Int) ≤ (0 : Int32).toInt ∧ (0 : Int32).toInt ≤ (1 : Int) from (by decide)), (by show ((0 : Int32).toInt = 1 → aC A gg (aP A gg x2.toInt.toNat).toNat = x2.toInt) ∧ ((0 : Int32).toInt = 0 → aC A gg (aP A gg x2.toInt.toNat).toNat ≠ x2.toInt); constructor <;> intro h <;> first | (exact absurd h (by decide)) | omega)⟩
theorem t_isFirst {gg nn : Nat} {I : Nat → Int32} {A : Nat → Nat → Int32} {x1 : Int32} {x2 : Int32} (hI : TJ I) (hA : TK A) (r_x1 : (0 : Int) ≤ x1.toInt ∧ x1.toInt ≤ (1 : Int)) (r_x2 : (1 : Int) ≤ x2.toInt ∧ x2.toInt ≤ (300 : Int)) (q0 : TRn A gg nn) (q1 : x1.toInt = (gg : Int)) (q2 : x2.toInt ≤ (nn : Int)) : Ok (f_isFirst x1 x2 I A) (fun o => o.2 = (I, A) ∧ ((0 : Int) ≤ o.1.toInt ∧ o.1.toInt ≤ (1 : Int)) ∧ ((o.1.toInt = 1 → aC A gg (aP A gg x2.toInt.toNat).toNat = x2.toInt) ∧ (o.1.toInt = 0 → aC A gg (aP A gg x2.toInt.toNat).toNat ≠ x2.toInt))) := t_isFirst_0 (gg := gg) (nn := nn) hI hA r_x1 r_x2 q0 q1 q2
theorem t_deepOf_27 {gg nn : Nat} {dd : Nat → Nat} {tt : Int} {I : Nat → Int32} {A : Nat → Nat → Int32} {self5 : Int32 → Int32 → Int32 → (Nat → Int32) → (Nat → Nat → Int32) → Option (Int32 × MS)} {N5 : Nat} (hself5 : ∀ (x1 : Int32) (x3 : Int32) (x4 : Int32),  ((0 : Int) ≤ x1.toInt ∧ x1.toInt ≤ (1 : Int)) → ((0 : Int) ≤ x3.toInt ∧ x3.toInt ≤ (6 : Int)) → ((0 : Int) ≤ x4.toInt ∧ x4.toInt ≤ (300 : Int)) → (TRn A gg nn) → (x1.toInt = (gg : Int)) → (x4.toInt ≤ (nn : Int)) → (TTd nn (aP A gg) (aC A gg) dd) → (x3.toInt + (dd x4.toInt.toNat : Int) = tt ∧ tt ≤ 6) → (x4.toInt + 1) < (N5 : Int) → Ok (self5 x1 x3 x4 I A) (fun o => o.2 = (I, A) ∧ ((0 : Int) ≤ o.1.toInt ∧ o.1.toInt ≤ (6 : Int)) ∧ (o.1.toInt = tt))) {x1 : Int32} {x4 : Int32} {t0 : Int32} (hI : TJ I) (hA : TK A) (r_x1 : (0 : Int) ≤ x1.toInt ∧ x1.toInt ≤ (1 : Int)) (r_x4 : (1 : Int) ≤ x4.toInt ∧ x4.toInt ≤ (300 : Int)) (r_t0 : (0 : Int) ≤ t0.toInt ∧ t0.toInt ≤ (6 : Int)) (q0 : TRn A gg nn) (q1 : x1.toInt = (gg : Int)) (q2 : x4.toInt ≤ (nn : Int)) (q3 : TTd nn (aP A gg) (aC A gg) dd) (q4 : t0.toInt + (dd (aP A gg x4.toInt.toNat).toNat : Int) = tt ∧ tt ≤ 6) (m5 : (x4.toInt + 1) ≤ (N5 : Int)) : Ok (f_deepOf_27 self5 x1 x4 t0 I A) (fun o => o.2 = (I, A) ∧ ((0 : Int) ≤ o.1.toInt ∧ o.1.toInt ≤ (6 : Int)) ∧ (o.1.toInt = tt)) := by
  unfold f_deepOf_27
  refine ok_bnd (fun v1 e50 => ?_)
  have t_v1 : v1.toInt = 301 * x1.toInt := ti_mul e50 (show (301 : Int32).toInt = 301 from rfl) rfl (by omega) (by omega)
  refine ok_bnd (fun v2 e51 => ?_)
  have t_v2 : v2.toInt = v1.toInt + x4.toInt := ti_add e51 rfl rfl (by omega) (by omega)
  refine ok_chk (ti_in (by omega) (by omega)) ?_
  refine ok_bnd (fun v3 e52 => ?_)
  have b_v3 := tA_8 hA ((v2).toNatClampNeg)
  rw [← e52] at b_v3
  have hp := q0 x4.toInt.toNat (by omega) (by omega)
  have i3 : v2.toNatClampNeg = 301 * gg + x4.toInt.toNat := by have := ti_nc (a := v2) (by omega); omega
  have w3 : v3.toInt = aP A gg x4.toInt.toNat := by rw [e52, i3]; rfl
  exact hself5 x1 t0 v3 r_x1 r_t0 (by omega) q0 q1 (by omega) q3 (by rw [w3]; exact q4) (by omega)
theorem t_deepOf_5s {gg nn : Nat} {dd : Nat → Nat} {tt : Int} {I : Nat → Int32} {A : Nat → Nat → Int32} {self5 : Int32 → Int32 → Int32 → (Nat → Int32) → (Nat → Nat → Int32) → Option (Int32 × MS)} {N5 : Nat} (hself5 : ∀ (x1 : Int32) (x3 : Int32) (x4 : Int32),  ((0 : Int) ≤ x1.toInt ∧ x1.toInt ≤ (1 : Int)) → ((0 : Int) ≤ x3.toInt ∧ x3.toInt ≤ (6 : Int)) → ((0 : Int) ≤ x4.toInt ∧ x4.toInt ≤ (300 : Int)) → (TRn A gg nn) → (x1.toInt = (gg : Int)) → (x4.toInt ≤ (nn : Int)) → (TTd nn (aP A gg) (aC A gg) dd) → (x3.toInt + (dd x4.toInt.toNat : Int) = tt ∧ tt ≤ 6) → (x4.toInt + 1) < (N5 : Int) → Ok (self5 x1 x3 x4 I A) (fun o => o.2 = (I, A) ∧ ((0 : Int) ≤ o.1.toInt ∧ o.1.toInt ≤ (6 : Int)) ∧ (o.1.toInt = tt))) {x1 : Int32} {x3 : Int32} {x4 : Int32} (hI : TJ I) (hA : TK A) (r_x1 : (0 : Int) ≤ x1.toInt ∧ x1.toInt ≤ (1 : Int)) (r_x3 : (0 : Int) ≤ x3.toInt ∧ x3.toInt ≤ (6 : Int)) (r_x4 : (0 : Int) ≤ x4.toInt ∧ x4.toInt ≤ (300 : Int)) (q0 : TRn A gg nn) (q1 : x1.toInt = (gg : Int)) (q2 : x4.toInt ≤ (nn : Int)) (q3 : TTd nn (aP A gg) (aC A gg) dd) (q4 : x3.toInt + (dd x4.toInt.toNat : Int) = tt ∧ tt ≤ 6) (m5 : (x4.toInt + 1) ≤ (N5 : Int)) : Ok (f_deepOf_5s self5 x1 x3 x4 I A) (fun o => o.2 = (I, A) ∧ ((0 : Int) ≤ o.1.toInt ∧ o.1.toInt ≤ (6 : Int)) ∧ (o.1.toInt = tt)) := by
  unfold f_deepOf_5s
  have h6 := q3.2.2 x4.toInt.toNat (by omega)
  refine ok_if (fun c53 => ?_) (fun c53 => ?_)
  ·
    replace c53 := ti_leP c53 rfl (show (0 : Int32).toInt = 0 from rfl)
    have z4 : x4.toInt.toNat = 0 := by omega
    rw [z4, q3.1] at q4
    exact ok_ret ⟨rfl, (show (0 : Int) ≤ x3.toInt ∧ x3.toInt ≤ (6 : Int) from (by omega)), (by show (x3 : Int32).toInt = tt; omega)⟩
  ·
    replace c53 := ti_leN c53 rfl (show (0 : Int32).toInt = 0 from rfl)
    obtain ⟨r1, h_r1, p_r1⟩ := ro (t_isFirst (x1 := x1) (x2 := x4)  hI hA r_x1 (by omega) q0 q1 q2)
    refine ok_clR h_r1 ?_
    dsimp only at p_r1
    have hd := q3.2.1 x4.toInt.toNat (by omega) (by omega)
    have hx : ((x4.toInt.toNat : Nat) : Int) = x4.toInt := by omega
    rw [hx] at hd
    refine ok_if (fun c54 => ?_) (fun c54 => ?_)
    ·
      replace c54 := ti_eqP c54 rfl (show (0 : Int32).toInt = 0 from rfl)
      rw [if_neg (p_r1.2.2 (by omega))] at hd
      refine ok_bnd (fun v2 e55 => ?_)
      have t_v2 : v2.toInt = x3.toInt + 1 := ti_add e55 rfl (show (1 : Int32).toInt = 1 from rfl) (by omega) (by omega)
      exact t_deepOf_27 (gg := gg) (nn := nn) (dd := dd) (tt := tt)  hself5 (x1 := x1) (x4 := x4) (t0 := v2) hI hA r_x1 (by omega) (by omega) q0 q1 q2 q3 (by omega) m5
    ·
      replace c54 := ti_eqN c54 rfl (show (0 : Int32).toInt = 0 from rfl)
      rw [if_pos (p_r1.2.1 (by omega))] at hd
      exact t_deepOf_27 (gg := gg) (nn := nn) (dd := dd) (tt := tt)  hself5 (x1 := x1) (x4 := x4) (t0 := x3) hI hA r_x1 (by omega) r_x3 q0 q1 q2 q3 (by omega) m5
theorem t_deepOf_5 {gg nn : Nat} {dd : Nat → Nat} {tt : Int} {I : Nat → Int32} {A : Nat → Nat → Int32} (hI : TJ I) (hA : TK A) : ∀ (n : Nat) (x1 : Int32) (x3 : Int32) (x4 : Int32),  ((0 : Int) ≤ x1.toInt ∧ x1.toInt ≤ (1 : Int)) → ((0 : Int) ≤ x3.toInt ∧ x3.toInt ≤ (6 : Int)) → ((0 : Int) ≤ x4.toInt ∧ x4.toInt ≤ (300 : Int)) → (TRn A gg nn) → (x1.toInt = (gg : Int)) → (x4.toInt ≤ (nn : Int)) → (TTd nn (aP A gg) (aC A gg) dd) → (x3.toInt + (dd x4.toInt.toNat : Int) = tt ∧ tt ≤ 6) → (x4.toInt + 1) < (n : Int) → Ok (f_deepOf_5  n x1 x3 x4 I A) (fun o => o.2 = (I, A) ∧ ((0 : Int) ≤ o.1.toInt ∧ o.1.toInt ≤ (6 : Int)) ∧ (o.1.toInt = tt)) := by
  intro n
  induction n with
  | zero => intro x1 x3 x4 g0 g1 g2 g3 g4 g5 g6 g7  hm; exfalso; omega
  | succ n ih =>
    intro x1 x3 x4 g0 g1 g2 g3 g4 g5 g6 g7  hm
    exact t_deepOf_5s (gg := gg) (nn := nn) (dd := dd) (tt := tt)  (N5 := n)  ih hI hA g0 g1 g2 g3 g4 g5 g6 g7  (by omega)
theorem t_deepOf_0 {gg nn : Nat} {dd : Nat → Nat} {tt : Int} {I : Nat → Int32} {A : Nat → Nat → Int32} {x1 : Int32} {x2 : Int32} (hI : TJ I) (hA : TK A) (r_x1 : (0 : Int) ≤ x1.toInt ∧ x1.toInt ≤ (1 : Int)) (r_x2 : (0 : Int) ≤ x2.toInt ∧ x2.toInt ≤ (300 : Int)) (q0 : TRn A gg nn) (q1 : x1.toInt = (gg : Int)) (q2 : x2.toInt ≤ (nn : Int)) (q3 : TTd nn (aP A gg) (aC A gg) dd) (q4 : (dd x2.toInt.toNat : Int) = tt) : Ok (f_deepOf_0 x1 x2 I A) (fun o => o.2 = (I, A) ∧ ((0 : Int) ≤ o.1.toInt ∧ o.1.toInt ≤ (6 : Int)) ∧ (o.1.toInt = tt)) := by
  unfold f_deepOf_0
  have h6 := q3.2.2 x2.toInt.toNat (by omega)
  exact t_deepOf_5 (gg := gg) (nn := nn) (dd := dd) (tt := tt)   hI hA mFuel x1 (0 : Int32) x2  r_x1 (by decide) r_x2 q0 q1 q2 q3 (by have z0 : (0 : Int32).toInt = 0 := rfl; omega) (by show _ < ((200000 : Nat) : Int); have z0 : (0 : Int32).toInt = 0 := rfl; omega)
theorem t_deepOf {gg nn : Nat} {dd : Nat → Nat} {tt : Int} {I : Nat → Int32} {A : Nat → Nat → Int32} {x1 : Int32} {x2 : Int32} (hI : TJ I) (hA : TK A) (r_x1 : (0 : Int) ≤ x1.toInt ∧ x1.toInt ≤ (1 : Int)) (r_x2 : (0 : Int) ≤ x2.toInt ∧ x2.toInt ≤ (300 : Int)) (q0 : TRn A gg nn) (q1 : x1.toInt = (gg : Int)) (q2 : x2.toInt ≤ (nn : Int)) (q3 : TTd nn (aP A gg) (aC A gg) dd) (q4 : (dd x2.toInt.toNat : Int) = tt) : Ok (f_deepOf x1 x2 I A) (fun o => o.2 = (I, A) ∧ ((0 : Int) ≤ o.1.toInt ∧ o.1.toInt ≤ (6 : Int)) ∧ (o.1.toInt = tt)) := t_deepOf_0 (gg := gg) (nn := nn) (dd := dd) (tt := tt) hI hA r_x1 r_x2 q0 q1 q2 q3 q4
theorem t_isBehind_2s {gg nn : Nat} {ww : Prop} {I : Nat → Int32} {A : Nat → Nat → Int32} {self2 : Int32 → Int32 → (Nat → Int32) → (Nat → Nat → Int32) → Option (Int32 × MS)} {N2 : Nat} (hself2 : ∀ (x2 : Int32) (x3 : Int32),  ((0 : Int) ≤ x2.toInt ∧ x2.toInt ≤ (300 : Int)) → ((0 : Int) ≤ x3.toInt ∧ x3.toInt ≤ (300 : Int)) → (TRn A gg nn) → ((I 5).toInt = (gg : Int)) → (x3.toInt ≤ (nn : Int)) → (bh (aP A gg) x2.toInt.toNat x3.toInt.toNat ↔ ww) → (x3.toInt + 1) < (N2 : Int) → Ok (self2 x2 x3 I A) (fun o => o.2 = (I, A) ∧ ((0 : Int) ≤ o.1.toInt ∧ o.1.toInt ≤ (1 : Int)) ∧ ((o.1.toInt = 1 → ww) ∧ (o.1.toInt = 0 → ¬ ww)))) {x2 : Int32} {x3 : Int32} (hI : TJ I) (hA : TK A) (r_x2 : (0 : Int) ≤ x2.toInt ∧ x2.toInt ≤ (300 : Int)) (r_x3 : (0 : Int) ≤ x3.toInt ∧ x3.toInt ≤ (300 : Int)) (q0 : TRn A gg nn) (q1 : (I 5).toInt = (gg : Int)) (q2 : x3.toInt ≤ (nn : Int)) (q3 : bh (aP A gg) x2.toInt.toNat x3.toInt.toNat ↔ ww) (m2 : (x3.toInt + 1) ≤ (N2 : Int)) : Ok (f_isBehind_2s self2 x2 x3 I A) (fun o => o.2 = (I, A) ∧ ((0 : Int) ≤ o.1.toInt ∧ o.1.toInt ≤ (1 : Int)) ∧ ((o.1.toInt = 1 → ww) ∧ (o.1.toInt = 0 → ¬ ww))) := by
  unfold f_isBehind_2s
  refine ok_if (fun c56 => ?_) (fun c56 => ?_)
  ·
    replace c56 := ti_leP c56 rfl rfl
    refine ok_if (fun c57 => ?_) (fun c57 => ?_)
    ·
      replace c57 := ti_eqP c57 rfl rfl
      unfold f_isBehind_36
      refine ok_chk (by decide) ?_
      exact ok_ret ⟨rfl, (show (0 : Int) ≤ (1 : Int32).toInt ∧ (1 : Int32).toInt ≤ (1 : Int) from (by decide)), (by show ((1 : Int32).toInt = 1 → ww) ∧ ((1 : Int32).toInt = 0 → ¬ ww); constructor <;> intro h <;> first | (exact absurd h (by decide)) | (exact q3.mp (by rw [show x3.toInt.toNat = x2.toInt.toNat by omega]; exact bh_self q0 (by omega))) | (intro hw; have := bh_le q0 _ (by omega) (q3.mpr hw); omega))⟩
    ·
      replace c57 := ti_eqN c57 rfl rfl
      unfold f_isBehind_36
      refine ok_chk (by decide) ?_
      exact ok_ret ⟨rfl, (show (0 : Int) ≤ (0 : Int32).toInt ∧ (0 : Int32).toInt ≤ (1 : Int) from (by decide)), (by show ((0 : Int32).toInt = 1 → ww) ∧ ((0 : Int32).toInt = 0 → ¬ ww); constructor <;> intro h <;> first | (exact absurd h (by decide)) | (exact q3.mp (by rw [show x3.toInt.toNat = x2.toInt.toNat by omega]; exact bh_self q0 (by omega))) | (intro hw; have := bh_le q0 _ (by omega) (q3.mpr hw); omega))⟩
  ·
    replace c56 := ti_leN c56 rfl rfl
    refine ok_bnd (fun v1 e58 => ?_)
    have b_I_5 := tI_5 hI
    have t_v1 : v1.toInt = 301 * (I 5).toInt := ti_mul e58 (show (301 : Int32).toInt = 301 from rfl) rfl (by omega) (by omega)
    refine ok_bnd (fun v2 e59 => ?_)
    have t_v2 : v2.toInt = v1.toInt + x3.toInt := ti_add e59 rfl rfl (by omega) (by omega)
    refine ok_chk (ti_in (by omega) (by omega)) ?_
    refine ok_bnd (fun v3 e60 => ?_)
    have b_v3 := tA_8 hA ((v2).toNatClampNeg)
    rw [← e60] at b_v3
    have hp := q0 x3.toInt.toNat (by omega) (by omega)
    have i3 : v2.toNatClampNeg = 301 * gg + x3.toInt.toNat := by have := ti_nc (a := v2) (by omega); omega
    have w3 : v3.toInt = aP A gg x3.toInt.toNat := by rw [e60, i3]; rfl
    exact hself2 x2 v3 r_x2 (by omega) q0 q1 (by omega) (by rw [w3, ← q3, bh_step q0 (k := x3.toInt.toNat) (by omega) (by omega)]; exact ⟨Or.inr, fun h => h.elim (fun h => by omega) id⟩) (by omega)
theorem t_isBehind_2 {gg nn : Nat} {ww : Prop} {I : Nat → Int32} {A : Nat → Nat → Int32} (hI : TJ I) (hA : TK A) : ∀ (n : Nat) (x2 : Int32) (x3 : Int32),  ((0 : Int) ≤ x2.toInt ∧ x2.toInt ≤ (300 : Int)) → ((0 : Int) ≤ x3.toInt ∧ x3.toInt ≤ (300 : Int)) → (TRn A gg nn) → ((I 5).toInt = (gg : Int)) → (x3.toInt ≤ (nn : Int)) → (bh (aP A gg) x2.toInt.toNat x3.toInt.toNat ↔ ww) → (x3.toInt + 1) < (n : Int) → Ok (f_isBehind_2  n x2 x3 I A) (fun o => o.2 = (I, A) ∧ ((0 : Int) ≤ o.1.toInt ∧ o.1.toInt ≤ (1 : Int)) ∧ ((o.1.toInt = 1 → ww) ∧ (o.1.toInt = 0 → ¬ ww))) := by
  intro n
  induction n with
  | zero => intro x2 x3 g0 g1 g2 g3 g4 g5  hm; exfalso; omega
  | succ n ih =>
    intro x2 x3 g0 g1 g2 g3 g4 g5  hm
    exact t_isBehind_2s (gg := gg) (nn := nn) (ww := ww)  (N2 := n)  ih hI hA g0 g1 g2 g3 g4 g5  (by omega)
theorem t_isBehind_0 {gg nn : Nat} {ww : Prop} {I : Nat → Int32} {A : Nat → Nat → Int32} {x1 : Int32} {x2 : Int32} (hI : TJ I) (hA : TK A) (r_x1 : (0 : Int) ≤ x1.toInt ∧ x1.toInt ≤ (300 : Int)) (r_x2 : (0 : Int) ≤ x2.toInt ∧ x2.toInt ≤ (300 : Int)) (q0 : TRn A gg nn) (q1 : (I 5).toInt = (gg : Int)) (q2 : x1.toInt ≤ (nn : Int)) (q3 : bh (aP A gg) x2.toInt.toNat x1.toInt.toNat ↔ ww) : Ok (f_isBehind_0 x1 x2 I A) (fun o => o.2 = (I, A) ∧ ((0 : Int) ≤ o.1.toInt ∧ o.1.toInt ≤ (1 : Int)) ∧ ((o.1.toInt = 1 → ww) ∧ (o.1.toInt = 0 → ¬ ww))) := by
  unfold f_isBehind_0
  exact t_isBehind_2 (gg := gg) (nn := nn) (ww := ww)   hI hA mFuel x2 x1  r_x2 r_x1 q0 q1 q2 q3 (by show _ < ((200000 : Nat) : Int); omega)
theorem t_isBehind {gg nn : Nat} {ww : Prop} {I : Nat → Int32} {A : Nat → Nat → Int32} {x1 : Int32} {x2 : Int32} (hI : TJ I) (hA : TK A) (r_x1 : (0 : Int) ≤ x1.toInt ∧ x1.toInt ≤ (300 : Int)) (r_x2 : (0 : Int) ≤ x2.toInt ∧ x2.toInt ≤ (300 : Int)) (q0 : TRn A gg nn) (q1 : (I 5).toInt = (gg : Int)) (q2 : x1.toInt ≤ (nn : Int)) (q3 : bh (aP A gg) x2.toInt.toNat x1.toInt.toNat ↔ ww) : Ok (f_isBehind x1 x2 I A) (fun o => o.2 = (I, A) ∧ ((0 : Int) ≤ o.1.toInt ∧ o.1.toInt ≤ (1 : Int)) ∧ ((o.1.toInt = 1 → ww) ∧ (o.1.toInt = 0 → ¬ ww))) := t_isBehind_0 (gg := gg) (nn := nn) (ww := ww) hI hA r_x1 r_x2 q0 q1 q2 q3
