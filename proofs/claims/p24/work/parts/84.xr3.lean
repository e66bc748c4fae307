section
noncomputable def up (m : Int → Int) (i v : Int) : Int → Int := fun s => if s = i then v else m s
theorem mR_up {A A1 : Nat → Nat → Int32} {x v : Int32} (e : A1 = va_up A 24 (upd (A 24) (x).toNatClampNeg v)) (h1 : 0 ≤ x.toInt) (h2 : x.toInt < 64) : mR A1 = up (mR A) x.toInt v.toInt := by
  funext s
  have h3 : A1 24 = upd (A 24) (x).toNatClampNeg v := by rw [e]; exact va_up_self _ _ _
  have h4 : (x).toNatClampNeg = x.toInt.toNat := rfl
  show (if 0 ≤ s ∧ s < 64 then (A1 24 s.toNat).toInt else 0) = if s = x.toInt then v.toInt else if 0 ≤ s ∧ s < 64 then (A 24 s.toNat).toInt else 0
  rw [h3]
  by_cases c : s = x.toInt
  · rw [if_pos (by omega), if_pos c, h4, c]
    rw [upd_self]
  · rw [if_neg c]
    by_cases d : 0 ≤ s ∧ s < 64
    · rw [if_pos d, if_pos d, upd_ne (by omega)]
    · rw [if_neg d, if_neg d]
theorem mR_fr {A A1 : Nat → Nat → Int32} (e : A1 24 = A 24) : mR A1 = mR A := by
  funext s
  unfold mR
  rw [e]
noncomputable def gn (s : Int) : Int32 := if s = 4 then 3 else if s = 7 then 1 else if s = 0 then 2 else if s = 60 then 12 else if s = 63 then 4 else if s = 56 then 8 else 0
theorem gn_4 {s : Int} (h : s = 4) : gn s = 3 := by subst h; rfl
theorem gn_7 {s : Int} (h : s = 7) : gn s = 1 := by subst h; rfl
theorem gn_0 {s : Int} (h : s = 0) : gn s = 2 := by subst h; rfl
theorem gn_60 {s : Int} (h : s = 60) : gn s = 12 := by subst h; rfl
theorem gn_63 {s : Int} (h : s = 63) : gn s = 4 := by subst h; rfl
theorem gn_56 {s : Int} (h : s = 56) : gn s = 8 := by subst h; rfl
theorem gn_n {s : Int} (h1 : s ≠ 4) (h2 : s ≠ 7) (h3 : s ≠ 0) (h4 : s ≠ 60) (h5 : s ≠ 63) (h6 : s ≠ 56) : gn s = 0 := by
  unfold gn
  rw [if_neg h1, if_neg h2, if_neg h3, if_neg h4, if_neg h5, if_neg h6]
noncomputable abbrev psb (m : Int → Int) (b w : Int) : Prop := (0 ≤ stp b (-1) 0 ∧ m (stp b (-1) 0) = 1 + 8 * w) ∨ (0 ≤ stp b 1 0 ∧ m (stp b 1 0) = 1 + 8 * w)
noncomputable def psF (m : Int → Int) (sd pw a b : Int) : Int := if pw = 1 ∧ (b = a + 16 ∨ b = a - 16) ∧ psb m b (1 - sd) then (a + b) / 2 else -1
noncomputable def k1 (m : Int → Int) (pw a b : Int) : Int → Int := if pw = 1 ∧ m b = 0 ∧ a % 8 ≠ b % 8 then up m (a / 8 * 8 + b % 8) 0 else m
noncomputable def k2 (m : Int → Int) (man a b : Int) : Int → Int := if man % 8 = 6 ∧ a % 8 = 4 ∧ (b % 8 = 6 ∨ b % 8 = 2) then up (up m ((a + b) / 2) (m (if b % 8 = 6 then a + 3 else a - 4))) (if b % 8 = 6 then a + 3 else a - 4) 0 else m
noncomputable def k3 (m : Int → Int) (sd p man a b : Int) : Int → Int := up (up m a 0) b (if 0 < p then p + 8 * sd else man)
noncomputable def pwb (m : Int → Int) (a : Int) : Int := if m a % 8 = 1 then 1 else 0
noncomputable def mkR (m : Int → Int) (sd a b p : Int) : Int → Int := k3 (k2 (k1 m (pwb m a) a b) (m a) a b) sd p (m a) a b
theorem k1_y {m : Int → Int} {pw a b : Int} (h : pw = 1 ∧ m b = 0 ∧ a % 8 ≠ b % 8) : k1 m pw a b = up m (a / 8 * 8 + b % 8) 0 := if_pos h
theorem k1_n {m : Int → Int} {pw a b : Int} (h : ¬ (pw = 1 ∧ m b = 0 ∧ a % 8 ≠ b % 8)) : k1 m pw a b = m := if_neg h
theorem k2_y {m : Int → Int} {man a b c : Int} (h : man % 8 = 6 ∧ a % 8 = 4 ∧ (b % 8 = 6 ∨ b % 8 = 2)) (hc : c = if b % 8 = 6 then a + 3 else a - 4) : k2 m man a b = up (up m ((a + b) / 2) (m c)) c 0 := by
  unfold k2
  rw [if_pos h, ← hc]
theorem k2_n {m : Int → Int} {man a b : Int} (h : ¬ (man % 8 = 6 ∧ a % 8 = 4 ∧ (b % 8 = 6 ∨ b % 8 = 2))) : k2 m man a b = m := if_neg h
theorem psF_y {m : Int → Int} {sd pw a b t x : Int} (h1 : pw = 1 ∧ (b = a + 16 ∨ b = a - 16)) (e : t = stp b x 0) (hx : x = -1 ∨ x = 1) (h2 : 0 ≤ t ∧ m t = 1 + 8 * (1 - sd)) : psF m sd pw a b = (a + b) / 2 := by
  subst e
  refine if_pos ⟨h1.1, h1.2, ?_⟩
  rcases hx with e | e <;> subst e
  · exact Or.inl h2
  · exact Or.inr h2
theorem psF_n {m : Int → Int} {sd pw a b : Int} (h : ¬ (pw = 1 ∧ (b = a + 16 ∨ b = a - 16))) : psF m sd pw a b = -1 := if_neg (fun g => h ⟨g.1, g.2.1⟩)
theorem psF_m {m : Int → Int} {sd pw a b t u : Int} (e : t = stp b (-1) 0) (e2 : u = stp b 1 0) (h1 : ¬ (0 ≤ t ∧ m t = 1 + 8 * (1 - sd))) (h2 : ¬ (0 ≤ u ∧ m u = 1 + 8 * (1 - sd))) : psF m sd pw a b = -1 := by
  subst e
  subst e2
  exact if_neg (fun g => g.2.2.elim h1 h2)
theorem x_lose_0  {I : Nat → Int32} {A : Nat → Nat → Int32} {x1 : Int32} (hI : TJ I) (hA : TK A) : Ok (f_lose_0 x1 I A) (fun o => TJ o.2.1 ∧ TK o.2.2 ∧ (o.2.1 26 = (I 26) &&& (gn x1.toInt ^^^ (-1 : Int32)))) := by
  unfold f_lose_0
  refine ok_if (fun c1 => ?_) (fun c1 => ?_)
  ·
    replace c1 := ti_eqP c1 rfl (show (4 : Int32).toInt = 4 from rfl)
    unfold f_lose_60
    refine ok_bnd (fun v1 e2 => ?_)
    refine ok_bnd (fun v2 e3 => ?_)
    refine ok_bnd (fun I3 e4 => ?_)
    have hI_I3 : TJ I3 := e4.symm ▸ tj_w hI (k := 26) rfl
    exact ok_ret ⟨hI_I3, hA, (by show I3 26 = (I 26) &&& (gn x1.toInt ^^^ (-1 : Int32)); rw [e4, upd_self, e3, e2]; refine congrArg (fun z => I 26 &&& (z ^^^ (-1 : Int32))) ?_; first | exact (gn_4 (by omega)).symm | exact (gn_7 (by omega)).symm | exact (gn_0 (by omega)).symm | exact (gn_60 (by omega)).symm | exact (gn_63 (by omega)).symm | exact (gn_56 (by omega)).symm | exact (gn_n (by omega) (by omega) (by omega) (by omega) (by omega) (by omega)).symm)⟩
  ·
    replace c1 := ti_eqN c1 rfl (show (4 : Int32).toInt = 4 from rfl)
    refine ok_if (fun c5 => ?_) (fun c5 => ?_)
    ·
      replace c5 := ti_eqP c5 rfl (show (7 : Int32).toInt = 7 from rfl)
      unfold f_lose_60
      refine ok_bnd (fun v1 e6 => ?_)
      refine ok_bnd (fun v2 e7 => ?_)
      refine ok_bnd (fun I3 e8 => ?_)
      have hI_I3 : TJ I3 := e8.symm ▸ tj_w hI (k := 26) rfl
      exact ok_ret ⟨hI_I3, hA, (by show I3 26 = (I 26) &&& (gn x1.toInt ^^^ (-1 : Int32)); rw [e8, upd_self, e7, e6]; refine congrArg (fun z => I 26 &&& (z ^^^ (-1 : Int32))) ?_; first | exact (gn_4 (by omega)).symm | exact (gn_7 (by omega)).symm | exact (gn_0 (by omega)).symm | exact (gn_60 (by omega)).symm | exact (gn_63 (by omega)).symm | exact (gn_56 (by omega)).symm | exact (gn_n (by omega) (by omega) (by omega) (by omega) (by omega) (by omega)).symm)⟩
    ·
      replace c5 := ti_eqN c5 rfl (show (7 : Int32).toInt = 7 from rfl)
      refine ok_if (fun c9 => ?_) (fun c9 => ?_)
      ·
        replace c9 := ti_eqP c9 rfl (show (0 : Int32).toInt = 0 from rfl)
        unfold f_lose_60
        refine ok_bnd (fun v1 e10 => ?_)
        refine ok_bnd (fun v2 e11 => ?_)
        refine ok_bnd (fun I3 e12 => ?_)
        have hI_I3 : TJ I3 := e12.symm ▸ tj_w hI (k := 26) rfl
        exact ok_ret ⟨hI_I3, hA, (by show I3 26 = (I 26) &&& (gn x1.toInt ^^^ (-1 : Int32)); rw [e12, upd_self, e11, e10]; refine congrArg (fun z => I 26 &&& (z ^^^ (-1 : Int32))) ?_; first | exact (gn_4 (by omega)).symm | exact (gn_7 (by omega)).symm | exact (gn_0 (by omega)).symm | exact (gn_60 (by omega)).symm | exact (gn_63 (by omega)).symm | exact (gn_56 (by omega)).symm | exact (gn_n (by omega) (by omega) (by omega) (by omega) (by omega) (by omega)).symm)⟩
      ·
        replace c9 := ti_eqN c9 rfl (show (0 : Int32).toInt = 0 from rfl)
        refine ok_if (fun c13 => ?_) (fun c13 => ?_)
        ·
          replace c13 := ti_eqP c13 rfl (show (60 : Int32).toInt = 60 from rfl)
          unfold f_lose_60
          refine ok_bnd (fun v1 e14 => ?_)
          refine ok_bnd (fun v2 e15 => ?_)
          refine ok_bnd (fun I3 e16 => ?_)
          have hI_I3 : TJ I3 := e16.symm ▸ tj_w hI (k := 26) rfl
          exact ok_ret ⟨hI_I3, hA, (by show I3 26 = (I 26) &&& (gn x1.toInt ^^^ (-1 : Int32)); rw [e16, upd_self, e15, e14]; refine congrArg (fun z => I 26 &&& (z ^^^ (-1 : Int32))) ?_; first | exact (gn_4 (by omega)).symm | exact (gn_7 (by omega)).symm | exact (gn_0 (by omega)).symm | exact (gn_60 (by omega)).symm | exact (gn_63 (by omega)).symm | exact (gn_56 (by omega)).symm | exact (gn_n (by omega) (by omega) (by omega) (by omega) (by omega) (by omega)).symm)⟩
        ·
          replace c13 := ti_eqN c13 rfl (show (60 : Int32).toInt = 60 from rfl)
          refine ok_if (fun c17 => ?_) (fun c17 => ?_)
          ·
            replace c17 := ti_eqP c17 rfl (show (63 : Int32).toInt = 63 from rfl)
            unfold f_lose_60
            refine ok_bnd (fun v1 e18 => ?_)
            refine ok_bnd (fun v2 e19 => ?_)
            refine ok_bnd (fun I3 e20 => ?_)
            have hI_I3 : TJ I3 := e20.symm ▸ tj_w hI (k := 26) rfl
            exact ok_ret ⟨hI_I3, hA, (by show I3 26 = (I 26) &&& (gn x1.toInt ^^^ (-1 : Int32)); rw [e20, upd_self, e19, e18]; refine congrArg (fun z => I 26 &&& (z ^^^ (-1 : Int32))) ?_; first | exact (gn_4 (by omega)).symm | exact (gn_7 (by omega)).symm | exact (gn_0 (by omega)).symm | exact (gn_60 (by omega)).symm | exact (gn_63 (by omega)).symm | exact (gn_56 (by omega)).symm | exact (gn_n (by omega) (by omega) (by omega) (by omega) (by omega) (by omega)).symm)⟩
          ·
            replace c17 := ti_eqN c17 rfl (show (63 : Int32).toInt = 63 from rfl)
            refine ok_if (fun c21 => ?_) (fun c21 => ?_)
            ·
              replace c21 := ti_eqP c21 rfl (show (56 : Int32).toInt = 56 from rfl)
              unfold f_lose_60
              refine ok_bnd (fun v1 e22 => ?_)
              refine ok_bnd (fun v2 e23 => ?_)
              refine ok_bnd (fun I3 e24 => ?_)
              have hI_I3 : TJ I3 := e24.symm ▸ tj_w hI (k := 26) rfl
              exact ok_ret ⟨hI_I3, hA, (by show I3 26 = (I 26) &&& (gn x1.toInt ^^^ (-1 : Int32)); rw [e24, upd_self, e23, e22]; refine congrArg (fun z => I 26 &&& (z ^^^ (-1 : Int32))) ?_; first | exact (gn_4 (by omega)).symm | exact (gn_7 (by omega)).symm | exact (gn_0 (by omega)).symm | exact (gn_60 (by omega)).symm | exact (gn_63 (by omega)).symm | exact (gn_56 (by omega)).symm | exact (gn_n (by omega) (by omega) (by omega) (by omega) (by omega) (by omega)).symm)⟩
            ·
              replace c21 := ti_eqN c21 rfl (show (56 : Int32).toInt = 56 from rfl)
              unfold f_lose_60
              refine ok_bnd (fun v1 e25 => ?_)
              refine ok_bnd (fun v2 e26 => ?_)
              refine ok_bnd (fun I3 e27 => ?_)
              have hI_I3 : TJ I3 := e27.symm ▸ tj_w hI (k := 26) rfl
              exact ok_ret ⟨hI_I3, hA, (by show I3 26 = (I 26) &&& (gn x1.toInt ^^^ (-1 : Int32)); rw [e27, upd_self, e26, e25]; refine congrArg (fun z => I 26 &&& (z ^^^ (-1 : Int32))) ?_; first | exact (gn_4 (by omega)).symm | exact (gn_7 (by omega)).symm | exact (gn_0 (by omega)).symm | exact (gn_60 (by omega)).symm | exact (gn_63 (by omega)).symm | exact (gn_56 (by omega)).symm | exact (gn_n (by omega) (by omega) (by omega) (by omega) (by omega) (by omega)).symm)⟩
theorem x_lose  {I : Nat → Int32} {A : Nat → Nat → Int32} {x1 : Int32} (hI : TJ I) (hA : TK A) : Ok (f_lose x1 I A) (fun o => TJ o.2.1 ∧ TK o.2.2 ∧ (o.2.1 26 = (I 26) &&& (gn x1.toInt ^^^ (-1 : Int32)))) := x_lose_0  hI hA 
theorem x_make_319 {nn sd TP : Int} {TM : Int → Int} {TR r0 : Int32} {I : Nat → Int32} {A : Nat → Nat → Int32} (hI : TJ I) (hA : TK A) (q0 : (I 29).toInt = nn ∧ nn ≤ 1999 ∧ (I 25).toInt = sd) (q1 : mR A = TM) (q2 : I 26 = TR) (q3 : (I 27).toInt = TP) : Ok (f_make_319 I A) (fun o => TJ o.2.1 ∧ TK o.2.2 ∧ (mR o.2.2 = TM) ∧ (o.2.1 26 = TR) ∧ ((o.2.1 27).toInt = TP) ∧ ((o.2.1 29).toInt = nn + sd) ∧ ((o.2.1 25).toInt = 1 - sd)) := by
  unfold f_make_319
  have b_I_29 := tI_29 hI
  have b_I_25 := tI_25 hI
  refine ok_bnd (fun v1 e28 => ?_)
  have t_v1 : v1.toInt = (I 29).toInt + (I 25).toInt := ti_add e28 rfl rfl (by omega) (by omega)
  refine ok_bnd (fun I2 e29 => ?_)
  have hI_I2 : TJ I2 := e29.symm ▸ tj_u hI (k := 29) (show (-1 : Int) ≤ v1.toInt from (by omega)) (show v1.toInt ≤ (2000 : Int) from (by omega))
  have : (I2 29).toInt = v1.toInt := by rw [e29]; exact rfl
  have : (I2 25).toInt = (I 25).toInt := by rw [e29]; rfl
  have z_I2_26 : I2 26 = TR := by rw [e29]; exact (upd_ne (by decide)).trans q2
  have z2 : I2 26 = TR := by rw [e29]; exact (upd_ne (by decide)).trans q2
  have z7 : (I2 27).toInt = TP := by rw [e29]; exact q3
  refine ok_bnd (fun v3 e30 => ?_)
  have b_I2_25 := tI_25 hI_I2
  have t_v3 : v3.toInt = 1 - (I2 25).toInt := ti_sub e30 (show (1 : Int32).toInt = 1 from rfl) rfl (by omega) (by omega)
  refine ok_bnd (fun I4 e31 => ?_)
  have hI_I4 : TJ I4 := e31.symm ▸ tj_u hI_I2 (k := 25) (show (0 : Int) ≤ v3.toInt from (by omega)) (show v3.toInt ≤ (1 : Int) from (by omega))
  have : (I4 29).toInt = (I2 29).toInt := by rw [e31]; rfl
  have : (I4 25).toInt = v3.toInt := by rw [e31]; exact rfl
  have z_I4_26 : I4 26 = TR := by rw [e31]; exact (upd_ne (by decide)).trans z_I2_26
  have z4 : I4 26 = TR := by rw [e31]; exact (upd_ne (by decide)).trans z2
  have z8 : (I4 27).toInt = TP := by rw [e31]; exact z7
  exact ok_ret ⟨hI_I4, hA, q1, z_I4_26, (by show (I4 27).toInt = TP; exact z8), (by show (I4 29).toInt = nn + sd; have z : (0 : Int32).toInt = 0 := rfl; omega), (by show (I4 25).toInt = 1 - sd; have z : (0 : Int32).toInt = 0 := rfl; omega)⟩
theorem x_make_316 {nn sd TP : Int} {TM : Int → Int} {TR r0 : Int32} {I : Nat → Int32} {A : Nat → Nat → Int32} {t0 : Int32} (hI : TJ I) (hA : TK A) (q0 : (I 29).toInt = nn ∧ nn ≤ 1999 ∧ (I 25).toInt = sd) (q1 : mR A = TM) (q2 : I 26 = TR) (q3 : t0.toInt = TP) : Ok (f_make_316 t0 I A) (fun o => TJ o.2.1 ∧ TK o.2.2 ∧ (mR o.2.2 = TM) ∧ (o.2.1 26 = TR) ∧ ((o.2.1 27).toInt = TP) ∧ ((o.2.1 29).toInt = nn + sd) ∧ ((o.2.1 25).toInt = 1 - sd)) := by
  unfold f_make_316
  have b_I_29 := tI_29 hI
  have b_I_25 := tI_25 hI
  refine ok_bnd (fun I1 e32 => ?_)
  have hI_I1 : TJ I1 := e32.symm ▸ tj_w hI (k := 27) rfl
  have : (I1 29).toInt = (I 29).toInt := by rw [e32]; rfl
  have : (I1 25).toInt = (I 25).toInt := by rw [e32]; rfl
  have z_I1_26 : I1 26 = TR := by rw [e32]; exact (upd_ne (by decide)).trans q2
  have z1 : I1 26 = TR := by rw [e32]; exact (upd_ne (by decide)).trans q2
  have z7 : (I1 27).toInt = TP := by rw [e32, upd_self]; exact q3
  have b_I1_25 := tI_25 hI_I1
  have b_I1_29 := tI_29 hI_I1
  exact x_make_319 (nn := nn) (sd := sd) (TP := TP) (TM := TM) (TR := TR) (r0 := r0)    hI_I1 hA (by omega) q1 z1 z7
theorem x_make_263 {nn sd TP : Int} {TM : Int → Int} {TR r0 : Int32} {I : Nat → Int32} {A : Nat → Nat → Int32} {x2 : Int32} {x3 : Int32} (hI : TJ I) (hA : TK A) (r_x2 : (0 : Int) ≤ x2.toInt ∧ x2.toInt ≤ (63 : Int)) (r_x3 : (0 : Int) ≤ x3.toInt ∧ x3.toInt ≤ (63 : Int)) (q0 : (I 29).toInt = nn ∧ nn ≤ 1999 ∧ (I 25).toInt = sd) (q1 : mR A = TM) (q2 : I 26 = TR) (q3 : x3.toInt = x2.toInt + 16 ∨ x3.toInt = x2.toInt - 16) (q4 : TP = psF TM sd 1 x2.toInt x3.toInt) : Ok (f_make_263 x2 x3 I A) (fun o => TJ o.2.1 ∧ TK o.2.2 ∧ (mR o.2.2 = TM) ∧ (o.2.1 26 = TR) ∧ ((o.2.1 27).toInt = TP) ∧ ((o.2.1 29).toInt = nn + sd) ∧ ((o.2.1 25).toInt = 1 - sd)) := by
  unfold f_make_263
  have b_I_29 := tI_29 hI
  have b_I_25 := tI_25 hI
  refine ok_bnd (fun v1 e33 => ?_)
  have t_v1 : v1.toInt = 1 - (I 25).toInt := ti_sub e33 (show (1 : Int32).toInt = 1 from rfl) rfl (by omega) (by omega)
  refine ok_bnd (fun v2 e34 => ?_)
  have t_v2 : v2.toInt = 8 * v1.toInt := ti_mul e34 (show (8 : Int32).toInt = 8 from rfl) rfl (by omega) (by omega)
  refine ok_bnd (fun v3 e35 => ?_)
  have t_v3 : v3.toInt = 1 + v2.toInt := ti_add e35 (show (1 : Int32).toInt = 1 from rfl) rfl (by omega) (by omega)
  obtain ⟨r4, h_r4, p_r4⟩ := ro (t_step (x0 := x3) (x1 := (-1 : Int32)) (x2 := (0 : Int32))  hI hA r_x3 (by decide) (by decide))
  refine ok_clR h_r4 ?_
  dsimp only at p_r4
  obtain ⟨r5, h_r5, p_r5⟩ := ro (x_stands (x1 := r4) (x2 := v3)  hI hA (by omega))
  refine ok_clR h_r5 ?_
  dsimp only at p_r5
  refine ok_if (fun c36 => ?_) (fun c36 => ?_)
  ·
    replace c36 := ti_eqP c36 rfl (show (0 : Int32).toInt = 0 from rfl)
    obtain ⟨r6, h_r6, p_r6⟩ := ro (t_step (x0 := x3) (x1 := (1 : Int32)) (x2 := (0 : Int32))  hI hA r_x3 (by decide) (by decide))
    refine ok_clR h_r6 ?_
    dsimp only at p_r6
    obtain ⟨r7, h_r7, p_r7⟩ := ro (x_stands (x1 := r6) (x2 := v3)  hI hA (by omega))
    refine ok_clR h_r7 ?_
    dsimp only at p_r7
    refine ok_if (fun c37 => ?_) (fun c37 => ?_)
    ·
      replace c37 := ti_eqP c37 rfl (show (0 : Int32).toInt = 0 from rfl)
      exact x_make_316 (nn := nn) (sd := sd) (TP := TP) (TM := TM) (TR := TR) (r0 := r0)   (t0 := (-1 : Int32)) hI hA q0 q1 q2 (by rw [q4, psF_m (stp_of p_r4.2) (stp_of p_r6.2) (by have := p_r5.2; rw [q1] at this; omega) (by have := p_r7.2; rw [q1] at this; omega)]; rfl)
    ·
      replace c37 := ti_eqN c37 rfl (show (0 : Int32).toInt = 0 from rfl)
      unfold f_make_307
      refine ok_bnd (fun v1 e38 => ?_)
      have t_v1 : v1.toInt = x2.toInt + x3.toInt := ti_add e38 rfl rfl (by omega) (by omega)
      refine ok_bnd (fun v2 e39 => ?_)
      have t_v2 : v2.toInt = v1.toInt / 2 := ti_div e39 rfl (show (2 : Int32).toInt = 2 from rfl) (by omega) (by decide)
      exact x_make_316 (nn := nn) (sd := sd) (TP := TP) (TM := TM) (TR := TR) (r0 := r0)   (t0 := v2) hI hA q0 q1 q2 (by rw [q4]; have zz : v2.toInt = (x2.toInt + x3.toInt) / 2 := (by omega); rw [zz]; first | exact (psF_y ⟨rfl, q3⟩ (stp_of p_r6.2) (Or.inr rfl) (by have := p_r7.2; rw [q1] at this; omega)).symm | exact (psF_y ⟨rfl, q3⟩ (stp_of p_r4.2) (Or.inl rfl) (by have := p_r5.2; rw [q1] at this; omega)).symm)
  ·
    replace c36 := ti_eqN c36 rfl (show (0 : Int32).toInt = 0 from rfl)
    unfold f_make_307
    refine ok_bnd (fun v1 e40 => ?_)
    have t_v1 : v1.toInt = x2.toInt + x3.toInt := ti_add e40 rfl rfl (by omega) (by omega)
    refine ok_bnd (fun v2 e41 => ?_)
    have t_v2 : v2.toInt = v1.toInt / 2 := ti_div e41 rfl (show (2 : Int32).toInt = 2 from rfl) (by omega) (by decide)
    exact x_make_316 (nn := nn) (sd := sd) (TP := TP) (TM := TM) (TR := TR) (r0 := r0)   (t0 := v2) hI hA q0 q1 q2 (by rw [q4]; have zz : v2.toInt = (x2.toInt + x3.toInt) / 2 := (by omega); rw [zz]; first | exact (psF_y ⟨rfl, q3⟩ (stp_of p_r6.2) (Or.inr rfl) (by have := p_r7.2; rw [q1] at this; omega)).symm | exact (psF_y ⟨rfl, q3⟩ (stp_of p_r4.2) (Or.inl rfl) (by have := p_r5.2; rw [q1] at this; omega)).symm)
theorem x_make_226 {nn sd TP : Int} {TM : Int → Int} {TR r0 : Int32} {I : Nat → Int32} {A : Nat → Nat → Int32} {x2 : Int32} {x3 : Int32} {x6 : Int32} {t0 : Int32} {t1 : Int32} (hI : TJ I) (hA : TK A) (r_x2 : (0 : Int) ≤ x2.toInt ∧ x2.toInt ≤ (63 : Int)) (r_x3 : (0 : Int) ≤ x3.toInt ∧ x3.toInt ≤ (63 : Int)) (r_x6 : (0 : Int) ≤ x6.toInt ∧ x6.toInt ≤ (1 : Int)) (r_t1 : (0 : Int) ≤ t1.toInt ∧ t1.toInt ≤ (63 : Int)) (q0 : (I 29).toInt = nn ∧ nn ≤ 1999 ∧ (I 25).toInt = sd) (q1 : I 26 = r0) (q2 : TR = (r0 &&& (gn x2.toInt ^^^ (-1 : Int32))) &&& (gn x3.toInt ^^^ (-1 : Int32))) (q3 : TP = psF TM sd x6.toInt x2.toInt x3.toInt) (q4 : TM = up (mR A) t1.toInt t0.toInt) : Ok (f_make_226 x2 x3 x6 t0 t1 I A) (fun o => TJ o.2.1 ∧ TK o.2.2 ∧ (mR o.2.2 = TM) ∧ (o.2.1 26 = TR) ∧ ((o.2.1 27).toInt = TP) ∧ ((o.2.1 29).toInt = nn + sd) ∧ ((o.2.1 25).toInt = 1 - sd)) := by
  unfold f_make_226
  have b_I_29 := tI_29 hI
  have b_I_25 := tI_25 hI
  refine ok_chk (ti_in (by omega) (by omega)) ?_
  refine ok_bnd (fun A1 e42 => ?_)
  have hA_A1 : TK A1 := e42.symm ▸ tk_w hA (j := 24) rfl
  have y_A1 : mR A1 = up (mR A) t1.toInt t0.toInt := mR_up e42 (by omega) (by omega)
  obtain ⟨⟨r2, Ic2, Ac2⟩, h_r2, hI_Ic2, hA_Ac2, p_r2_0⟩ := x_lose (x1 := x2)  hI hA_A1 
  replace hI_Ic2 : TJ Ic2 := hI_Ic2
  replace hA_Ac2 : TK Ac2 := hA_Ac2
  dsimp only at p_r2_0
  refine ok_clR h_r2 ?_
  have f_r2 := fw_lose h_r2
  have : (Ic2 29).toInt = (I 29).toInt := congrArg Int32.toInt (f_r2.1 29 (by decide))
  have : (Ic2 25).toInt = (I 25).toInt := congrArg Int32.toInt (f_r2.1 25 (by decide))
  have y2 : mR Ac2 = mR A1 := mR_fr ((fw_lose h_r2).2 24 (by decide))
  obtain ⟨⟨r3, Ic3, Ac3⟩, h_r3, hI_Ic3, hA_Ac3, p_r3_0⟩ := x_lose (x1 := x3)  hI_Ic2 hA_Ac2 
  replace hI_Ic3 : TJ Ic3 := hI_Ic3
  replace hA_Ac3 : TK Ac3 := hA_Ac3
  dsimp only at p_r3_0
  refine ok_clR h_r3 ?_
  have f_r3 := fw_lose h_r3
  have : (Ic3 29).toInt = (Ic2 29).toInt := congrArg Int32.toInt (f_r3.1 29 (by decide))
  have : (Ic3 25).toInt = (Ic2 25).toInt := congrArg Int32.toInt (f_r3.1 25 (by decide))
  have y3 : mR Ac3 = TM := (mR_fr ((fw_lose h_r3).2 24 (by decide))).trans (y2.trans (y_A1.trans q4.symm))
  have z3 : Ic3 26 = TR := by rw [p_r3_0, p_r2_0, q1, q2]
  refine ok_bnd (fun I4 e43 => ?_)
  have hI_I4 : TJ I4 := e43.symm ▸ tj_w hI_Ic3 (k := 27) rfl
  have : (I4 29).toInt = (Ic3 29).toInt := by rw [e43]; rfl
  have : (I4 25).toInt = (Ic3 25).toInt := by rw [e43]; rfl
  have z4 : I4 26 = TR := by rw [e43]; exact (upd_ne (by decide)).trans z3
  have z5 : (I4 27).toInt = -1 := by rw [e43, upd_self]; rfl
  refine ok_if (fun c44 => ?_) (fun c44 => ?_)
  ·
    replace c44 := ti_eqP c44 rfl (show (0 : Int32).toInt = 0 from rfl)
    have b_I4_25 := tI_25 hI_I4
    have b_I4_29 := tI_29 hI_I4
    exact x_make_319 (nn := nn) (sd := sd) (TP := TP) (TM := TM) (TR := TR) (r0 := r0)    hI_I4 hA_Ac3 (by omega) y3 z4 (by rw [q3, psF_n (by omega)]; exact z5)
  ·
    replace c44 := ti_eqN c44 rfl (show (0 : Int32).toInt = 0 from rfl)
    refine ok_bnd (fun v5 e45 => ?_)
    have t_v5 : v5.toInt = x2.toInt + 16 := ti_add e45 rfl (show (16 : Int32).toInt = 16 from rfl) (by omega) (by omega)
    refine ok_if (fun c46 => ?_) (fun c46 => ?_)
    ·
      replace c46 := ti_eqP c46 rfl rfl
      have b_I4_25 := tI_25 hI_I4
      have b_I4_29 := tI_29 hI_I4
      exact x_make_263 (nn := nn) (sd := sd) (TP := TP) (TM := TM) (TR := TR) (r0 := r0)   (x2 := x2) (x3 := x3) hI_I4 hA_Ac3 r_x2 r_x3 (by omega) y3 z4 (by omega) (by rw [q3, show x6.toInt = 1 by omega])
    ·
      replace c46 := ti_eqN c46 rfl rfl
      refine ok_bnd (fun v6 e47 => ?_)
      have t_v6 : v6.toInt = x2.toInt - 16 := ti_sub e47 rfl (show (16 : Int32).toInt = 16 from rfl) (by omega) (by omega)
      refine ok_if (fun c48 => ?_) (fun c48 => ?_)
      ·
        replace c48 := ti_eqP c48 rfl rfl
        have b_I4_25 := tI_25 hI_I4
        have b_I4_29 := tI_29 hI_I4
        exact x_make_263 (nn := nn) (sd := sd) (TP := TP) (TM := TM) (TR := TR) (r0 := r0)   (x2 := x2) (x3 := x3) hI_I4 hA_Ac3 r_x2 r_x3 (by omega) y3 z4 (by omega) (by rw [q3, show x6.toInt = 1 by omega])
      ·
        replace c48 := ti_eqN c48 rfl rfl
        have b_I4_25 := tI_25 hI_I4
        have b_I4_29 := tI_29 hI_I4
        exact x_make_319 (nn := nn) (sd := sd) (TP := TP) (TM := TM) (TR := TR) (r0 := r0)    hI_I4 hA_Ac3 (by omega) y3 z4 (by rw [q3, psF_n (by omega)]; exact z5)
theorem x_make_194 {nn sd TP : Int} {TM : Int → Int} {TR r0 : Int32} {I : Nat → Int32} {A : Nat → Nat → Int32} {x2 : Int32} {x3 : Int32} {x4 : Int32} {x5 : Int32} {x6 : Int32} (hI : TJ I) (hA : TK A) (r_x2 : (0 : Int) ≤ x2.toInt ∧ x2.toInt ≤ (63 : Int)) (r_x3 : (0 : Int) ≤ x3.toInt ∧ x3.toInt ≤ (63 : Int)) (r_x4 : (0 : Int) ≤ x4.toInt ∧ x4.toInt ≤ (6 : Int)) (r_x5 : (0 : Int) ≤ x5.toInt ∧ x5.toInt ≤ (14 : Int)) (r_x6 : (0 : Int) ≤ x6.toInt ∧ x6.toInt ≤ (1 : Int)) (q0 : (I 29).toInt = nn ∧ nn ≤ 1999 ∧ (I 25).toInt = sd) (q1 : I 26 = r0) (q2 : TR = (r0 &&& (gn x2.toInt ^^^ (-1 : Int32))) &&& (gn x3.toInt ^^^ (-1 : Int32))) (q3 : TP = psF TM sd x6.toInt x2.toInt x3.toInt) (q4 : TM = k3 (mR A) sd x4.toInt x5.toInt x2.toInt x3.toInt) : Ok (f_make_194 x2 x3 x4 x5 x6 I A) (fun o => TJ o.2.1 ∧ TK o.2.2 ∧ (mR o.2.2 = TM) ∧ (o.2.1 26 = TR) ∧ ((o.2.1 27).toInt = TP) ∧ ((o.2.1 29).toInt = nn + sd) ∧ ((o.2.1 25).toInt = 1 - sd)) := by
  unfold f_make_194
  have b_I_29 := tI_29 hI
  have b_I_25 := tI_25 hI
  refine ok_chk (ti_in (by omega) (by omega)) ?_
  refine ok_bnd (fun A1 e49 => ?_)
  have hA_A1 : TK A1 := e49.symm ▸ tk_w hA (j := 24) rfl
  have y_A1 : mR A1 = up (mR A) x2.toInt 0 := mR_up e49 (by omega) (by omega)
  refine ok_if (fun c50 => ?_) (fun c50 => ?_)
  ·
    replace c50 := ti_leP c50 rfl (show (0 : Int32).toInt = 0 from rfl)
    exact x_make_226 (nn := nn) (sd := sd) (TP := TP) (TM := TM) (TR := TR) (r0 := r0)   (x2 := x2) (x3 := x3) (x6 := x6) (t0 := x5) (t1 := x3) hI hA_A1 r_x2 r_x3 r_x6 r_x3 q0 q1 q2 q3 (by rw [q4, y_A1]; unfold k3; rw [if_neg (by omega)])
  ·
    replace c50 := ti_leN c50 rfl (show (0 : Int32).toInt = 0 from rfl)
    refine ok_bnd (fun v2 e51 => ?_)
    have t_v2 : v2.toInt = 8 * (I 25).toInt := ti_mul e51 (show (8 : Int32).toInt = 8 from rfl) rfl (by omega) (by omega)
    refine ok_bnd (fun v3 e52 => ?_)
    have t_v3 : v3.toInt = x4.toInt + v2.toInt := ti_add e52 rfl rfl (by omega) (by omega)
    exact x_make_226 (nn := nn) (sd := sd) (TP := TP) (TM := TM) (TR := TR) (r0 := r0)   (x2 := x2) (x3 := x3) (x6 := x6) (t0 := v3) (t1 := x3) hI hA_A1 r_x2 r_x3 r_x6 r_x3 q0 q1 q2 q3 (by rw [q4, y_A1]; unfold k3; rw [if_pos (by omega), show v3.toInt = x4.toInt + 8 * sd by omega])
theorem x_make_167 {nn sd TP : Int} {TM : Int → Int} {TR r0 : Int32} {I : Nat → Int32} {A : Nat → Nat → Int32} {x2 : Int32} {x3 : Int32} {x4 : Int32} {x5 : Int32} {x6 : Int32} {t0 : Int32} (hI : TJ I) (hA : TK A) (r_x2 : (0 : Int) ≤ x2.toInt ∧ x2.toInt ≤ (63 : Int)) (r_x3 : (0 : Int) ≤ x3.toInt ∧ x3.toInt ≤ (63 : Int)) (r_x4 : (0 : Int) ≤ x4.toInt ∧ x4.toInt ≤ (6 : Int)) (r_x5 : (0 : Int) ≤ x5.toInt ∧ x5.toInt ≤ (14 : Int)) (r_x6 : (0 : Int) ≤ x6.toInt ∧ x6.toInt ≤ (1 : Int)) (r_t0 : (0 : Int) ≤ t0.toInt ∧ t0.toInt ≤ (63 : Int)) (q0 : (I 29).toInt = nn ∧ nn ≤ 1999 ∧ (I 25).toInt = sd) (q1 : I 26 = r0) (q2 : TR = (r0 &&& (gn x2.toInt ^^^ (-1 : Int32))) &&& (gn x3.toInt ^^^ (-1 : Int32))) (q3 : TP = psF TM sd x6.toInt x2.toInt x3.toInt) (q4 : TM = k3 (up (up (mR A) ((x2.toInt + x3.toInt) / 2) (mR A t0.toInt)) t0.toInt 0) sd x4.toInt x5.toInt x2.toInt x3.toInt) : Ok (f_make_167 x2 x3 x4 x5 x6 t0 I A) (fun o => TJ o.2.1 ∧ TK o.2.2 ∧ (mR o.2.2 = TM) ∧ (o.2.1 26 = TR) ∧ ((o.2.1 27).toInt = TP) ∧ ((o.2.1 29).toInt = nn + sd) ∧ ((o.2.1 25).toInt = 1 - sd)) := by
  unfold f_make_167
  have b_I_29 := tI_29 hI
  have b_I_25 := tI_25 hI
  refine ok_bnd (fun v1 e53 => ?_)
  have t_v1 : v1.toInt = x2.toInt + x3.toInt := ti_add e53 rfl rfl (by omega) (by omega)
  refine ok_bnd (fun v2 e54 => ?_)
  have t_v2 : v2.toInt = v1.toInt / 2 := ti_div e54 rfl (show (2 : Int32).toInt = 2 from rfl) (by omega) (by decide)
  refine ok_chk (ti_in (by omega) (by omega)) ?_
  refine ok_bnd (fun v3 e55 => ?_)
  have u_v3 : v3.toInt = mR A t0.toInt := mR_at e55 (by omega) (by omega)
  refine ok_chk (ti_in (by omega) (by omega)) ?_
  refine ok_bnd (fun A4 e56 => ?_)
  have hA_A4 : TK A4 := e56.symm ▸ tk_w hA (j := 24) rfl
  have y_A4 : mR A4 = up (mR A) v2.toInt v3.toInt := mR_up e56 (by omega) (by omega)
  refine ok_chk (ti_in (by omega) (by omega)) ?_
  refine ok_bnd (fun A5 e57 => ?_)
  have hA_A5 : TK A5 := e57.symm ▸ tk_w hA_A4 (j := 24) rfl
  have y_A5 : mR A5 = up (mR A4) t0.toInt 0 := mR_up e57 (by omega) (by omega)
  exact x_make_194 (nn := nn) (sd := sd) (TP := TP) (TM := TM) (TR := TR) (r0 := r0)   (x2 := x2) (x3 := x3) (x4 := x4) (x5 := x5) (x6 := x6) hI hA_A5 r_x2 r_x3 r_x4 r_x5 r_x6 q0 q1 q2 q3 (by rw [q4, y_A5, y_A4, ← u_v3, show v2.toInt = (x2.toInt + x3.toInt) / 2 by omega])
theorem x_make_149 {nn sd TP : Int} {TM : Int → Int} {TR r0 : Int32} {I : Nat → Int32} {A : Nat → Nat → Int32} {x2 : Int32} {x3 : Int32} {x4 : Int32} {x5 : Int32} {x6 : Int32} (hI : TJ I) (hA : TK A) (r_x2 : (0 : Int) ≤ x2.toInt ∧ x2.toInt ≤ (63 : Int)) (r_x3 : (0 : Int) ≤ x3.toInt ∧ x3.toInt ≤ (63 : Int)) (r_x4 : (0 : Int) ≤ x4.toInt ∧ x4.toInt ≤ (6 : Int)) (r_x5 : (0 : Int) ≤ x5.toInt ∧ x5.toInt ≤ (14 : Int)) (r_x6 : (0 : Int) ≤ x6.toInt ∧ x6.toInt ≤ (1 : Int)) (q0 : (I 29).toInt = nn ∧ nn ≤ 1999 ∧ (I 25).toInt = sd) (q1 : I 26 = r0) (q2 : TR = (r0 &&& (gn x2.toInt ^^^ (-1 : Int32))) &&& (gn x3.toInt ^^^ (-1 : Int32))) (q3 : TP = psF TM sd x6.toInt x2.toInt x3.toInt) (q4 : TM = k3 (k2 (mR A) x5.toInt x2.toInt x3.toInt) sd x4.toInt x5.toInt x2.toInt x3.toInt) (q5 : x5.toInt % 8 = 6 ∧ x2.toInt % 8 = 4 ∧ (x3.toInt % 8 = 6 ∨ x3.toInt % 8 = 2)) : Ok (f_make_149 x2 x3 x4 x5 x6 I A) (fun o => TJ o.2.1 ∧ TK o.2.2 ∧ (mR o.2.2 = TM) ∧ (o.2.1 26 = TR) ∧ ((o.2.1 27).toInt = TP) ∧ ((o.2.1 29).toInt = nn + sd) ∧ ((o.2.1 25).toInt = 1 - sd)) := by
  unfold f_make_149
  have b_I_29 := tI_29 hI
  have b_I_25 := tI_25 hI
  refine ok_bnd (fun v1 e58 => ?_)
  have t_v1 : v1.toInt = x3.toInt % 8 := ti_rem e58 rfl (show (8 : Int32).toInt = 8 from rfl) (by omega) (by decide)
  refine ok_if (fun c59 => ?_) (fun c59 => ?_)
  ·
    replace c59 := ti_eqP c59 rfl (show (6 : Int32).toInt = 6 from rfl)
    refine ok_bnd (fun v3 e60 => ?_)
    have t_v3 : v3.toInt = x2.toInt + 3 := ti_add e60 rfl (show (3 : Int32).toInt = 3 from rfl) (by omega) (by omega)
    exact x_make_167 (nn := nn) (sd := sd) (TP := TP) (TM := TM) (TR := TR) (r0 := r0)   (x2 := x2) (x3 := x3) (x4 := x4) (x5 := x5) (x6 := x6) (t0 := v3) hI hA r_x2 r_x3 r_x4 r_x5 r_x6 (by omega) q0 q1 q2 q3 (by rw [q4, k2_y (c := v3.toInt) q5 (by omega)])
  ·
    replace c59 := ti_eqN c59 rfl (show (6 : Int32).toInt = 6 from rfl)
    refine ok_bnd (fun v2 e61 => ?_)
    have t_v2 : v2.toInt = x2.toInt - 4 := ti_sub e61 rfl (show (4 : Int32).toInt = 4 from rfl) (by omega) (by omega)
    exact x_make_167 (nn := nn) (sd := sd) (TP := TP) (TM := TM) (TR := TR) (r0 := r0)   (x2 := x2) (x3 := x3) (x4 := x4) (x5 := x5) (x6 := x6) (t0 := v2) hI hA r_x2 r_x3 r_x4 r_x5 r_x6 (by omega) q0 q1 q2 q3 (by rw [q4, k2_y (c := v2.toInt) q5 (by omega)])
theorem x_make_114 {nn sd TP : Int} {TM : Int → Int} {TR r0 : Int32} {I : Nat → Int32} {A : Nat → Nat → Int32} {x2 : Int32} {x3 : Int32} {x4 : Int32} {x5 : Int32} {x6 : Int32} (hI : TJ I) (hA : TK A) (r_x2 : (0 : Int) ≤ x2.toInt ∧ x2.toInt ≤ (63 : Int)) (r_x3 : (0 : Int) ≤ x3.toInt ∧ x3.toInt ≤ (63 : Int)) (r_x4 : (0 : Int) ≤ x4.toInt ∧ x4.toInt ≤ (6 : Int)) (r_x5 : (0 : Int) ≤ x5.toInt ∧ x5.toInt ≤ (14 : Int)) (r_x6 : (0 : Int) ≤ x6.toInt ∧ x6.toInt ≤ (1 : Int)) (q0 : (I 29).toInt = nn ∧ nn ≤ 1999 ∧ (I 25).toInt = sd) (q1 : I 26 = r0) (q2 : TR = (r0 &&& (gn x2.toInt ^^^ (-1 : Int32))) &&& (gn x3.toInt ^^^ (-1 : Int32))) (q3 : TP = psF TM sd x6.toInt x2.toInt x3.toInt) (q4 : TM = k3 (k2 (mR A) x5.toInt x2.toInt x3.toInt) sd x4.toInt x5.toInt x2.toInt x3.toInt) : Ok (f_make_114 x2 x3 x4 x5 x6 I A) (fun o => TJ o.2.1 ∧ TK o.2.2 ∧ (mR o.2.2 = TM) ∧ (o.2.1 26 = TR) ∧ ((o.2.1 27).toInt = TP) ∧ ((o.2.1 29).toInt = nn + sd) ∧ ((o.2.1 25).toInt = 1 - sd)) := by
  unfold f_make_114
  have b_I_29 := tI_29 hI
  have b_I_25 := tI_25 hI
  obtain ⟨r1, h_r1, p_r1⟩ := ro (x_kind (x0 := x5)  hI hA r_x5)
  refine ok_clR h_r1 ?_
  dsimp only at p_r1
  refine ok_if (fun c62 => ?_) (fun c62 => ?_)
  ·
    replace c62 := ti_eqP c62 rfl (show (6 : Int32).toInt = 6 from rfl)
    refine ok_bnd (fun v2 e63 => ?_)
    have t_v2 : v2.toInt = x2.toInt % 8 := ti_rem e63 rfl (show (8 : Int32).toInt = 8 from rfl) (by omega) (by decide)
    refine ok_if (fun c64 => ?_) (fun c64 => ?_)
    ·
      replace c64 := ti_eqP c64 rfl (show (4 : Int32).toInt = 4 from rfl)
      refine ok_bnd (fun v3 e65 => ?_)
      have t_v3 : v3.toInt = x3.toInt % 8 := ti_rem e65 rfl (show (8 : Int32).toInt = 8 from rfl) (by omega) (by decide)
      refine ok_if (fun c66 => ?_) (fun c66 => ?_)
      ·
        replace c66 := ti_eqP c66 rfl (show (6 : Int32).toInt = 6 from rfl)
        exact x_make_149 (nn := nn) (sd := sd) (TP := TP) (TM := TM) (TR := TR) (r0 := r0)   (x2 := x2) (x3 := x3) (x4 := x4) (x5 := x5) (x6 := x6) hI hA r_x2 r_x3 r_x4 r_x5 r_x6 q0 q1 q2 q3 q4 (by omega)
      ·
        replace c66 := ti_eqN c66 rfl (show (6 : Int32).toInt = 6 from rfl)
        refine ok_bnd (fun v4 e67 => ?_)
        have t_v4 : v4.toInt = x3.toInt % 8 := ti_rem e67 rfl (show (8 : Int32).toInt = 8 from rfl) (by omega) (by decide)
        refine ok_if (fun c68 => ?_) (fun c68 => ?_)
        ·
          replace c68 := ti_eqP c68 rfl (show (2 : Int32).toInt = 2 from rfl)
          exact x_make_149 (nn := nn) (sd := sd) (TP := TP) (TM := TM) (TR := TR) (r0 := r0)   (x2 := x2) (x3 := x3) (x4 := x4) (x5 := x5) (x6 := x6) hI hA r_x2 r_x3 r_x4 r_x5 r_x6 q0 q1 q2 q3 q4 (by omega)
        ·
          replace c68 := ti_eqN c68 rfl (show (2 : Int32).toInt = 2 from rfl)
          exact x_make_194 (nn := nn) (sd := sd) (TP := TP) (TM := TM) (TR := TR) (r0 := r0)   (x2 := x2) (x3 := x3) (x4 := x4) (x5 := x5) (x6 := x6) hI hA r_x2 r_x3 r_x4 r_x5 r_x6 q0 q1 q2 q3 (by rw [q4, k2_n (by omega)])
    ·
      replace c64 := ti_eqN c64 rfl (show (4 : Int32).toInt = 4 from rfl)
      exact x_make_194 (nn := nn) (sd := sd) (TP := TP) (TM := TM) (TR := TR) (r0 := r0)   (x2 := x2) (x3 := x3) (x4 := x4) (x5 := x5) (x6 := x6) hI hA r_x2 r_x3 r_x4 r_x5 r_x6 q0 q1 q2 q3 (by rw [q4, k2_n (by omega)])
  ·
    replace c62 := ti_eqN c62 rfl (show (6 : Int32).toInt = 6 from rfl)
    exact x_make_194 (nn := nn) (sd := sd) (TP := TP) (TM := TM) (TR := TR) (r0 := r0)   (x2 := x2) (x3 := x3) (x4 := x4) (x5 := x5) (x6 := x6) hI hA r_x2 r_x3 r_x4 r_x5 r_x6 q0 q1 q2 q3 (by rw [q4, k2_n (by omega)])
theorem x_make_68 {nn sd TP : Int} {TM : Int → Int} {TR r0 : Int32} {I : Nat → Int32} {A : Nat → Nat → Int32} {x2 : Int32} {x3 : Int32} {x4 : Int32} {x5 : Int32} {x6 : Int32} {t0 : Int32} (hI : TJ I) (hA : TK A) (r_x2 : (0 : Int) ≤ x2.toInt ∧ x2.toInt ≤ (63 : Int)) (r_x3 : (0 : Int) ≤ x3.toInt ∧ x3.toInt ≤ (63 : Int)) (r_x4 : (0 : Int) ≤ x4.toInt ∧ x4.toInt ≤ (6 : Int)) (r_x5 : (0 : Int) ≤ x5.toInt ∧ x5.toInt ≤ (14 : Int)) (r_x6 : (0 : Int) ≤ x6.toInt ∧ x6.toInt ≤ (1 : Int)) (q0 : (I 29).toInt = nn ∧ nn ≤ 1999 ∧ (I 25).toInt = sd) (q1 : I 26 = r0) (q2 : TR = (r0 &&& (gn x2.toInt ^^^ (-1 : Int32))) &&& (gn x3.toInt ^^^ (-1 : Int32))) (q3 : TP = psF TM sd x6.toInt x2.toInt x3.toInt) (q4 : TM = k3 (k2 (k1 (mR A) x6.toInt x2.toInt x3.toInt) x5.toInt x2.toInt x3.toInt) sd x4.toInt x5.toInt x2.toInt x3.toInt) : Ok (f_make_68 x2 x3 x4 x5 x6 t0 I A) (fun o => TJ o.2.1 ∧ TK o.2.2 ∧ (mR o.2.2 = TM) ∧ (o.2.1 26 = TR) ∧ ((o.2.1 27).toInt = TP) ∧ ((o.2.1 29).toInt = nn + sd) ∧ ((o.2.1 25).toInt = 1 - sd)) := by
  unfold f_make_68
  have b_I_29 := tI_29 hI
  have b_I_25 := tI_25 hI
  refine ok_bnd (fun I1 e69 => ?_)
  have hI_I1 : TJ I1 := e69.symm ▸ tj_w hI (k := 28) rfl
  have : (I1 29).toInt = (I 29).toInt := by rw [e69]; rfl
  have : (I1 25).toInt = (I 25).toInt := by rw [e69]; rfl
  have z_I1_26 : I1 26 = r0 := by rw [e69]; exact (upd_ne (by decide)).trans q1
  refine ok_if (fun c70 => ?_) (fun c70 => ?_)
  ·
    replace c70 := ti_eqP c70 rfl (show (0 : Int32).toInt = 0 from rfl)
    have b_I1_25 := tI_25 hI_I1
    have b_I1_29 := tI_29 hI_I1
    exact x_make_114 (nn := nn) (sd := sd) (TP := TP) (TM := TM) (TR := TR) (r0 := r0)   (x2 := x2) (x3 := x3) (x4 := x4) (x5 := x5) (x6 := x6) hI_I1 hA r_x2 r_x3 r_x4 r_x5 r_x6 (by omega) z_I1_26 q2 q3 (by rw [q4]; first | rw [k1_n (by omega)] | rw [k1_y (by omega), y_A9, show v8.toInt = x2.toInt / 8 * 8 + x3.toInt % 8 by omega])
  ·
    replace c70 := ti_eqN c70 rfl (show (0 : Int32).toInt = 0 from rfl)
    refine ok_chk (ti_in (by omega) (by omega)) ?_
    refine ok_bnd (fun v2 e71 => ?_)
    have u_v2 : v2.toInt = mR A x3.toInt := mR_at e71 (by omega) (by omega)
    refine ok_if (fun c72 => ?_) (fun c72 => ?_)
    ·
      replace c72 := ti_eqP c72 rfl (show (0 : Int32).toInt = 0 from rfl)
      refine ok_bnd (fun v3 e73 => ?_)
      have t_v3 : v3.toInt = x2.toInt % 8 := ti_rem e73 rfl (show (8 : Int32).toInt = 8 from rfl) (by omega) (by decide)
      refine ok_bnd (fun v4 e74 => ?_)
      have t_v4 : v4.toInt = x3.toInt % 8 := ti_rem e74 rfl (show (8 : Int32).toInt = 8 from rfl) (by omega) (by decide)
      refine ok_if (fun c75 => ?_) (fun c75 => ?_)
      ·
        replace c75 := ti_eqP c75 rfl rfl
        have b_I1_25 := tI_25 hI_I1
        have b_I1_29 := tI_29 hI_I1
        exact x_make_114 (nn := nn) (sd := sd) (TP := TP) (TM := TM) (TR := TR) (r0 := r0)   (x2 := x2) (x3 := x3) (x4 := x4) (x5 := x5) (x6 := x6) hI_I1 hA r_x2 r_x3 r_x4 r_x5 r_x6 (by omega) z_I1_26 q2 q3 (by rw [q4]; first | rw [k1_n (by omega)] | rw [k1_y (by omega), y_A9, show v8.toInt = x2.toInt / 8 * 8 + x3.toInt % 8 by omega])
      ·
        replace c75 := ti_eqN c75 rfl rfl
        refine ok_bnd (fun v5 e76 => ?_)
        have t_v5 : v5.toInt = x2.toInt / 8 := ti_div e76 rfl (show (8 : Int32).toInt = 8 from rfl) (by omega) (by decide)
        refine ok_bnd (fun v6 e77 => ?_)
        have t_v6 : v6.toInt = v5.toInt * 8 := ti_mul e77 rfl (show (8 : Int32).toInt = 8 from rfl) (by omega) (by omega)
        refine ok_bnd (fun v7 e78 => ?_)
        have t_v7 : v7.toInt = x3.toInt % 8 := ti_rem e78 rfl (show (8 : Int32).toInt = 8 from rfl) (by omega) (by decide)
        refine ok_bnd (fun v8 e79 => ?_)
        have t_v8 : v8.toInt = v6.toInt + v7.toInt := ti_add e79 rfl rfl (by omega) (by omega)
        refine ok_chk (ti_in (by omega) (by omega)) ?_
        refine ok_bnd (fun A9 e80 => ?_)
        have hA_A9 : TK A9 := e80.symm ▸ tk_w hA (j := 24) rfl
        have y_A9 : mR A9 = up (mR A) v8.toInt 0 := mR_up e80 (by omega) (by omega)
        have b_I1_25 := tI_25 hI_I1
        have b_I1_29 := tI_29 hI_I1
        exact x_make_114 (nn := nn) (sd := sd) (TP := TP) (TM := TM) (TR := TR) (r0 := r0)   (x2 := x2) (x3 := x3) (x4 := x4) (x5 := x5) (x6 := x6) hI_I1 hA_A9 r_x2 r_x3 r_x4 r_x5 r_x6 (by omega) z_I1_26 q2 q3 (by rw [q4]; first | rw [k1_n (by omega)] | rw [k1_y (by omega), y_A9, show v8.toInt = x2.toInt / 8 * 8 + x3.toInt % 8 by omega])
    ·
      replace c72 := ti_eqN c72 rfl (show (0 : Int32).toInt = 0 from rfl)
      have b_I1_25 := tI_25 hI_I1
      have b_I1_29 := tI_29 hI_I1
      exact x_make_114 (nn := nn) (sd := sd) (TP := TP) (TM := TM) (TR := TR) (r0 := r0)   (x2 := x2) (x3 := x3) (x4 := x4) (x5 := x5) (x6 := x6) hI_I1 hA r_x2 r_x3 r_x4 r_x5 r_x6 (by omega) z_I1_26 q2 q3 (by rw [q4]; first | rw [k1_n (by omega)] | rw [k1_y (by omega), y_A9, show v8.toInt = x2.toInt / 8 * 8 + x3.toInt % 8 by omega])
theorem x_make_42 {nn sd TP : Int} {TM : Int → Int} {TR r0 : Int32} {I : Nat → Int32} {A : Nat → Nat → Int32} {x1 : Int32} {x2 : Int32} {x3 : Int32} {x4 : Int32} {x5 : Int32} {t0 : Int32} (hI : TJ I) (hA : TK A) (r_x1 : (0 : Int) ≤ x1.toInt ∧ x1.toInt ≤ (24575 : Int)) (r_x2 : (0 : Int) ≤ x2.toInt ∧ x2.toInt ≤ (63 : Int)) (r_x3 : (0 : Int) ≤ x3.toInt ∧ x3.toInt ≤ (63 : Int)) (r_x4 : (0 : Int) ≤ x4.toInt ∧ x4.toInt ≤ (6 : Int)) (r_x5 : (0 : Int) ≤ x5.toInt ∧ x5.toInt ≤ (14 : Int)) (r_t0 : (0 : Int) ≤ t0.toInt ∧ t0.toInt ≤ (1 : Int)) (q0 : (I 29).toInt = nn ∧ nn ≤ 1999 ∧ (I 25).toInt = sd) (q1 : I 26 = r0) (q2 : TR = (r0 &&& (gn x2.toInt ^^^ (-1 : Int32))) &&& (gn x3.toInt ^^^ (-1 : Int32))) (q3 : TP = psF TM sd t0.toInt x2.toInt x3.toInt) (q4 : TM = k3 (k2 (k1 (mR A) t0.toInt x2.toInt x3.toInt) x5.toInt x2.toInt x3.toInt) sd x4.toInt x5.toInt x2.toInt x3.toInt) : Ok (f_make_42 x1 x2 x3 x4 x5 t0 I A) (fun o => TJ o.2.1 ∧ TK o.2.2 ∧ (mR o.2.2 = TM) ∧ (o.2.1 26 = TR) ∧ ((o.2.1 27).toInt = TP) ∧ ((o.2.1 29).toInt = nn + sd) ∧ ((o.2.1 25).toInt = 1 - sd)) := by
  unfold f_make_42
  have b_I_29 := tI_29 hI
  have b_I_25 := tI_25 hI
  refine ok_if (fun c81 => ?_) (fun c81 => ?_)
  ·
    replace c81 := ti_eqP c81 rfl (show (0 : Int32).toInt = 0 from rfl)
    obtain ⟨r1, h_r1, p_r1⟩ := ro (t_isTaking (x1 := x1)  hI hA r_x1)
    refine ok_clR h_r1 ?_
    dsimp only at p_r1
    refine ok_if (fun c82 => ?_) (fun c82 => ?_)
    ·
      replace c82 := ti_eqP c82 rfl (show (0 : Int32).toInt = 0 from rfl)
      refine ok_bnd (fun v2 e83 => ?_)
      exact x_make_68 (nn := nn) (sd := sd) (TP := TP) (TM := TM) (TR := TR) (r0 := r0)   (x2 := x2) (x3 := x3) (x4 := x4) (x5 := x5) (x6 := t0) (t0 := v2) hI hA r_x2 r_x3 r_x4 r_x5 r_t0 q0 q1 q2 q3 q4
    ·
      replace c82 := ti_eqN c82 rfl (show (0 : Int32).toInt = 0 from rfl)
      unfold f_make_58
      exact x_make_68 (nn := nn) (sd := sd) (TP := TP) (TM := TM) (TR := TR) (r0 := r0)   (x2 := x2) (x3 := x3) (x4 := x4) (x5 := x5) (x6 := t0) (t0 := (0 : Int32)) hI hA r_x2 r_x3 r_x4 r_x5 r_t0 q0 q1 q2 q3 q4
  ·
    replace c81 := ti_eqN c81 rfl (show (0 : Int32).toInt = 0 from rfl)
    unfold f_make_58
    exact x_make_68 (nn := nn) (sd := sd) (TP := TP) (TM := TM) (TR := TR) (r0 := r0)   (x2 := x2) (x3 := x3) (x4 := x4) (x5 := x5) (x6 := t0) (t0 := (0 : Int32)) hI hA r_x2 r_x3 r_x4 r_x5 r_t0 q0 q1 q2 q3 q4
theorem x_make_0 {nn sd TP : Int} {TM : Int → Int} {TR r0 : Int32} {I : Nat → Int32} {A : Nat → Nat → Int32} {x1 : Int32} (hI : TJ I) (hA : TK A) (r_x1 : (0 : Int) ≤ x1.toInt ∧ x1.toInt ≤ (24575 : Int)) (q0 : MBd (mR A)) (q1 : I 26 = r0) (q2 : TR = (r0 &&& (gn (x1.toInt % 64) ^^^ (-1 : Int32))) &&& (gn (x1.toInt / 64 % 64) ^^^ (-1 : Int32))) (q3 : TP = psF TM sd (pwb (mR A) (x1.toInt % 64)) (x1.toInt % 64) (x1.toInt / 64 % 64)) (q4 : TM = mkR (mR A) sd (x1.toInt % 64) (x1.toInt / 64 % 64) (x1.toInt / 4096)) (q5 : (I 29).toInt = nn ∧ nn ≤ 1999 ∧ (I 25).toInt = sd) : Ok (f_make_0 x1 I A) (fun o => TJ o.2.1 ∧ TK o.2.2 ∧ (mR o.2.2 = TM) ∧ (o.2.1 26 = TR) ∧ ((o.2.1 27).toInt = TP) ∧ ((o.2.1 29).toInt = nn + sd) ∧ ((o.2.1 25).toInt = 1 - sd)) := by
  unfold f_make_0
  have b_I_29 := tI_29 hI
  have b_I_25 := tI_25 hI
  refine ok_bnd (fun v1 e84 => ?_)
  have t_v1 : v1.toInt = x1.toInt % 64 := ti_rem e84 rfl (show (64 : Int32).toInt = 64 from rfl) (by omega) (by decide)
  refine ok_bnd (fun v2 e85 => ?_)
  have t_v2 : v2.toInt = x1.toInt / 64 := ti_div e85 rfl (show (64 : Int32).toInt = 64 from rfl) (by omega) (by decide)
  refine ok_bnd (fun v3 e86 => ?_)
  have t_v3 : v3.toInt = v2.toInt % 64 := ti_rem e86 rfl (show (64 : Int32).toInt = 64 from rfl) (by omega) (by decide)
  refine ok_bnd (fun v4 e87 => ?_)
  have t_v4 : v4.toInt = x1.toInt / 4096 := ti_div e87 rfl (show (4096 : Int32).toInt = 4096 from rfl) (by omega) (by decide)
  refine ok_chk (ti_in (by omega) (by omega)) ?_
  refine ok_bnd (fun v5 e88 => ?_)
  have u_v5 : v5.toInt = mR A v1.toInt := mR_at e88 (by omega) (by omega)
  have w_v5 := q0 (v1.toInt)
  obtain ⟨r6, h_r6, p_r6⟩ := ro (x_kind (x0 := v5)  hI hA (by omega))
  refine ok_clR h_r6 ?_
  dsimp only at p_r6
  refine ok_if (fun c89 => ?_) (fun c89 => ?_)
  ·
    replace c89 := ti_eqP c89 rfl (show (1 : Int32).toInt = 1 from rfl)
    exact x_make_42 (nn := nn) (sd := sd) (TP := TP) (TM := TM) (TR := TR) (r0 := r0)   (x1 := x1) (x2 := v1) (x3 := v3) (x4 := v4) (x5 := v5) (t0 := (1 : Int32)) hI hA r_x1 (by omega) (by omega) (by omega) (by omega) (by decide) q5 q1 (by rw [q2, ← t_v1, show x1.toInt / 64 % 64 = v3.toInt by omega]) (by rw [q3, ← t_v1, show x1.toInt / 64 % 64 = v3.toInt by omega]; unfold pwb; first | rw [if_pos (by omega)]; rfl | rw [if_neg (by omega)]; rfl) (by rw [q4]; unfold mkR; rw [← t_v1, show x1.toInt / 64 % 64 = v3.toInt by omega, show x1.toInt / 4096 = v4.toInt by omega, ← u_v5]; unfold pwb; rw [← u_v5]; first | rw [if_pos (by omega)]; rfl | rw [if_neg (by omega)]; rfl)
  ·
    replace c89 := ti_eqN c89 rfl (show (1 : Int32).toInt = 1 from rfl)
    exact x_make_42 (nn := nn) (sd := sd) (TP := TP) (TM := TM) (TR := TR) (r0 := r0)   (x1 := x1) (x2 := v1) (x3 := v3) (x4 := v4) (x5 := v5) (t0 := (0 : Int32)) hI hA r_x1 (by omega) (by omega) (by omega) (by omega) (by decide) q5 q1 (by rw [q2, ← t_v1, show x1.toInt / 64 % 64 = v3.toInt by omega]) (by rw [q3, ← t_v1, show x1.toInt / 64 % 64 = v3.toInt by omega]; unfold pwb; first | rw [if_pos (by omega)]; rfl | rw [if_neg (by omega)]; rfl) (by rw [q4]; unfold mkR; rw [← t_v1, show x1.toInt / 64 % 64 = v3.toInt by omega, show x1.toInt / 4096 = v4.toInt by omega, ← u_v5]; unfold pwb; rw [← u_v5]; first | rw [if_pos (by omega)]; rfl | rw [if_neg (by omega)]; rfl)
theorem x_make {nn sd TP : Int} {TM : Int → Int} {TR r0 : Int32} {I : Nat → Int32} {A : Nat → Nat → Int32} {x1 : Int32} (hI : TJ I) (hA : TK A) (r_x1 : (0 : Int) ≤ x1.toInt ∧ x1.toInt ≤ (24575 : Int)) (q0 : MBd (mR A)) (q1 : I 26 = r0) (q2 : TR = (r0 &&& (gn (x1.toInt % 64) ^^^ (-1 : Int32))) &&& (gn (x1.toInt / 64 % 64) ^^^ (-1 : Int32))) (q3 : TP = psF TM sd (pwb (mR A) (x1.toInt % 64)) (x1.toInt % 64) (x1.toInt / 64 % 64)) (q4 : TM = mkR (mR A) sd (x1.toInt % 64) (x1.toInt / 64 % 64) (x1.toInt / 4096)) (q5 : (I 29).toInt = nn ∧ nn ≤ 1999 ∧ (I 25).toInt = sd) : Ok (f_make x1 I A) (fun o => TJ o.2.1 ∧ TK o.2.2 ∧ (mR o.2.2 = TM) ∧ (o.2.1 26 = TR) ∧ ((o.2.1 27).toInt = TP) ∧ ((o.2.1 29).toInt = nn + sd) ∧ ((o.2.1 25).toInt = 1 - sd)) := x_make_0 (nn := nn) (sd := sd) (TP := TP) (TM := TM) (TR := TR) (r0 := r0) hI hA r_x1 q0 q1 q2 q3 q4 q5
end
section
noncomputable def cas (m : Int → Int) (a b : Int) : Prop := m a % 8 = 6 ∧ a / 8 = b / 8 ∧ (b = a + 2 ∨ b = a - 2)
noncomputable def rch (m : Int → Int) (sd rt ps a b : Int) : Prop := (m a ≠ 0 ∧ m a / 8 = sd) ∧ ¬ (m b ≠ 0 ∧ m b / 8 = sd) ∧ ((m a % 8 = 1 ∧ pwn m sd ps a b) ∨ (m a % 8 ≠ 1 ∧ (attk m a b ∨ (cas m a b ∧ csl m sd rt a b))))
noncomputable def pat (m : Int → Int) (s w : Int) : Prop := 0 ≤ s + (16 * w - 8) ∧ s + (16 * w - 8) < 64 ∧ ((0 < (s + (16 * w - 8)) % 8 ∧ m (s + (16 * w - 8) - 1) = 1 + 8 * w) ∨ ((s + (16 * w - 8)) % 8 < 7 ∧ m (s + (16 * w - 8) + 1) = 1 + 8 * w))
section CLB
variable {P Q : Prop} {m : Int → Int}
theorem ad_s {i k b w : Int} (h : P ↔ ∃ a : Int, i ≤ a ∧ a < 64 ∧ m a ≠ 0 ∧ m a / 8 = w ∧ attk m a b) (hk : k = i + 1) (hn : ¬ (m i ≠ 0 ∧ m i / 8 = w ∧ attk m i b)) : P ↔ ∃ a : Int, k ≤ a ∧ a < 64 ∧ m a ≠ 0 ∧ m a / 8 = w ∧ attk m a b := by
  rw [h, hk]
  constructor
  · rintro ⟨a, h1, h2, h3⟩
    by_cases e : a = i
    · rw [e] at h3; exact absurd h3 hn
    · exact ⟨a, by omega, h2, h3⟩
  · rintro ⟨a, h1, h2, h3⟩
    exact ⟨a, by omega, h2, h3⟩
theorem ad_y {i b w : Int} (h : P ↔ ∃ a : Int, i ≤ a ∧ a < 64 ∧ m a ≠ 0 ∧ m a / 8 = w ∧ attk m a b) (hi : i < 64) (hn : m i ≠ 0 ∧ m i / 8 = w ∧ attk m i b) : (1 : Int32).toInt = 1 ↔ P := lf_ye h ⟨i, Int.le_refl _, hi, hn⟩
theorem ad_e {i b w : Int} (h : P ↔ ∃ a : Int, i ≤ a ∧ a < 64 ∧ m a ≠ 0 ∧ m a / 8 = w ∧ attk m a b) (hi : 64 ≤ i) : (0 : Int32).toInt = 1 ↔ P := lf_no h (fun ⟨a, h1, h2, _⟩ => by omega)
theorem pw_att {a b : Int} (h : m a % 8 = 1) : attk m a b ↔ paw (m a) (b % 8 - a % 8) (b / 8 - a / 8) := ac_54 (P := attk m a b) Iff.rfl rfl h
end CLB
theorem and_rb {t x v : Int32} (e : v = t &&& x) (ht : 0 ≤ t.toInt ∧ t.toInt ≤ 15) {i : Int} (hx : (x = 1 ∧ i = 0) ∨ (x = 2 ∧ i = 1) ∨ (x = 4 ∧ i = 2) ∨ (x = 8 ∧ i = 3)) : v.toInt = 0 ↔ ¬ rb t.toInt i := by
  rw [e]
  unfold rb
  rcases hx with ⟨h, g⟩ | ⟨h, g⟩ | ⟨h, g⟩ | ⟨h, g⟩ <;> subst h <;> subst g
  · have k := sq_all (P := fun x => (x &&& (1 : Int32)).toInt = x.toInt % 2) (by decide +kernel) (x := t) (by omega)
    omega
  · have k := sq_all (P := fun x => (x &&& (2 : Int32)).toInt = 2 * (x.toInt / 2 % 2)) (by decide +kernel) (x := t) (by omega)
    omega
  · have k := sq_all (P := fun x => (x &&& (4 : Int32)).toInt = 4 * (x.toInt / 4 % 2)) (by decide +kernel) (x := t) (by omega)
    omega
  · have k := sq_all (P := fun x => (x &&& (8 : Int32)).toInt = 8 * (x.toInt / 8 % 2)) (by decide +kernel) (x := t) (by omega)
    omega
theorem shl_v {t1 t0 v : Int32} (e : v = t1 <<< (t0 &&& 31)) {n i : Int} (h1 : (t1.toInt = 1 ∧ n = 0) ∨ (t1.toInt = 2 ∧ n = 1)) (h0 : t0.toInt = 0 ∨ t0.toInt = 2) (hi : i = t0.toInt + n) : (v = 1 ∧ i = 0) ∨ (v = 2 ∧ i = 1) ∨ (v = 4 ∧ i = 2) ∨ (v = 8 ∧ i = 3) := by
  rcases h1 with ⟨h, hn⟩ | ⟨h, hn⟩ <;> rcases h0 with g | g
  · have e1 : t1 = 1 := Int32.toInt_inj.mp h
    have e0 : t0 = 0 := Int32.toInt_inj.mp g
    subst e1
    subst e0
    exact Or.inl ⟨by rw [e]; decide, by omega⟩
  · have e1 : t1 = 1 := Int32.toInt_inj.mp h
    have e0 : t0 = 2 := Int32.toInt_inj.mp g
    subst e1
    subst e0
    exact Or.inr (Or.inr (Or.inl ⟨by rw [e]; decide, by omega⟩))
  · have e1 : t1 = 2 := Int32.toInt_inj.mp h
    have e0 : t0 = 0 := Int32.toInt_inj.mp g
    subst e1
    subst e0
    exact Or.inr (Or.inl ⟨by rw [e]; decide, by omega⟩)
  · have e1 : t1 = 2 := Int32.toInt_inj.mp h
    have e0 : t0 = 2 := Int32.toInt_inj.mp g
    subst e1
    subst e0
    exact Or.inr (Or.inr (Or.inr ⟨by rw [e]; decide, by omega⟩))
theorem csl_near {m : Int → Int} {sd rt a b : Int} (h : b = a + 2) : csl m sd rt a b ↔ a = 4 + 56 * sd ∧ rb rt (2 * sd) ∧ m (a + 1) = 0 ∧ m (a + 2) = 0 := by
  unfold csl
  exact ⟨fun g => ⟨g.1, g.2.elim (fun z => z.2) (fun z => by omega)⟩, fun g => ⟨g.1, Or.inl ⟨h, g.2⟩⟩⟩
theorem csl_far {m : Int → Int} {sd rt a b : Int} (h : b = a - 2) : csl m sd rt a b ↔ a = 4 + 56 * sd ∧ rb rt (2 * sd + 1) ∧ m (a - 1) = 0 ∧ m (a - 2) = 0 ∧ m (a - 3) = 0 := by
  unfold csl
  exact ⟨fun g => ⟨g.1, g.2.elim (fun z => by omega) (fun z => z.2)⟩, fun g => ⟨g.1, Or.inr ⟨h, g.2⟩⟩⟩
theorem rv_n {v rt sd a b : Int} (h : v = 0 ↔ ¬ rb rt (2 * sd + (if a < b then 0 else 1))) (hb : a < b) : rb rt (2 * sd) ↔ v ≠ 0 := by
  rw [if_pos hb, show (2 * sd + 0 : Int) = 2 * sd by omega] at h
  exact ⟨fun g e => h.1 e g, fun g => Classical.not_not.mp (fun n => g (h.2 n))⟩
theorem rv_f {v rt sd a b : Int} (h : v = 0 ↔ ¬ rb rt (2 * sd + (if a < b then 0 else 1))) (hb : ¬ a < b) : rb rt (2 * sd + 1) ↔ v ≠ 0 := by
  rw [if_neg hb] at h
  exact ⟨fun g e => h.1 e g, fun g => Classical.not_not.mp (fun n => g (h.2 n))⟩
section RCH
variable {P Q : Prop} {m : Int → Int}
theorem rc_1 {sd rt ps a b v : Int} (hv : v = m a) (h : v = 0 ∨ v / 8 ≠ sd) : (0 : Int32).toInt = 1 ↔ rch m sd rt ps a b := lf_no Iff.rfl (fun g => by have := g.1; omega)
theorem rc_2 {sd rt ps a b v : Int} (hv : v = m b) (h : v ≠ 0 ∧ v / 8 = sd) : (0 : Int32).toInt = 1 ↔ rch m sd rt ps a b := lf_no Iff.rfl (fun g => g.2.1 (by omega))
theorem rc_p {sd rt ps a b v : Int} (h1 : m a ≠ 0 ∧ m a / 8 = sd) (h2 : ¬ (m b ≠ 0 ∧ m b / 8 = sd)) (hk : m a % 8 = 1) (hv : v = 1 ↔ pwn m sd ps a b) : v = 1 ↔ rch m sd rt ps a b := by
  rw [hv]
  exact ⟨fun g => ⟨h1, h2, Or.inl ⟨hk, g⟩⟩, fun g => g.2.2.elim (fun z => z.2) (fun z => absurd hk z.1)⟩
theorem rc_k {sd rt ps a b : Int} (h1 : m a ≠ 0 ∧ m a / 8 = sd) (h2 : ¬ (m b ≠ 0 ∧ m b / 8 = sd)) (hk : m a % 8 ≠ 1) : rch m sd rt ps a b ↔ attk m a b ∨ (cas m a b ∧ csl m sd rt a b) :=
  ⟨fun g => g.2.2.elim (fun z => absurd z.1 hk) (fun z => z.2), fun g => ⟨h1, h2, Or.inr ⟨hk, g⟩⟩⟩
end RCH
theorem xo_gn {x v v2 w : Int32} (e1 : v = x) (e2 : v2 = w) : v = x := e1
theorem y_f_X0_attacks {S : ZS} {x0 : Nat} {x1 x2 : Int32} (hT : ZT S) (r_x0 : zK S x0 = 0) (r_x1 : (0 : Int) ≤ x1.toInt ∧ x1.toInt ≤ (63 : Int)) (r_x2 : (0 : Int) ≤ x2.toInt ∧ x2.toInt ≤ (63 : Int)) (hM : MBd (mCb S x0)) : Ok (f_X0_attacks x0 x1 x2 S) (fun o => o.2 = S ∧ ((0 : Int) ≤ o.1.toInt ∧ o.1.toInt ≤ (1 : Int)) ∧ (o.1.toInt = 1 ↔ attk (mCb S x0) x1.toInt x2.toInt)) := x_f_X0_attacks hT r_x0 r_x1 r_x2 Iff.rfl hM
theorem x_f_X0_attacked_2s {P : Prop} {S : ZS} {self2 : Nat → Int32 → Int32 → Int32 → ZS → Option (Int32 × ZS)} {N2 : Nat} (hself2 : ∀ (x0 : Nat) (x1 : Int32) (x2 : Int32) (x3 : Int32),  (zK S x0 = 0) → ((0 : Int) ≤ x1.toInt ∧ x1.toInt ≤ (63 : Int)) → ((0 : Int) ≤ x2.toInt ∧ x2.toInt ≤ (1 : Int)) → ((0 : Int) ≤ x3.toInt ∧ x3.toInt ≤ (64 : Int)) → (P ↔ ∃ a : Int, x3.toInt ≤ a ∧ a < 64 ∧ mCb S x0 a ≠ 0 ∧ mCb S x0 a / 8 = x2.toInt ∧ attk (mCb S x0) a x1.toInt) → (MBd (mCb S x0)) → (65 - x3.toInt) < (N2 : Int) → Ok (self2 x0 x1 x2 x3 S) (fun o => o.2 = S ∧ ((0 : Int) ≤ o.1.toInt ∧ o.1.toInt ≤ (1 : Int)) ∧ ((o.1.toInt = 1 ↔ P)))) {x0 : Nat} {x1 : Int32} {x2 : Int32} {x3 : Int32} (hT : ZT S) (r_x0 : zK S x0 = 0) (r_x1 : (0 : Int) ≤ x1.toInt ∧ x1.toInt ≤ (63 : Int)) (r_x2 : (0 : Int) ≤ x2.toInt ∧ x2.toInt ≤ (1 : Int)) (r_x3 : (0 : Int) ≤ x3.toInt ∧ x3.toInt ≤ (64 : Int)) (q0 : P ↔ ∃ a : Int, x3.toInt ≤ a ∧ a < 64 ∧ mCb S x0 a ≠ 0 ∧ mCb S x0 a / 8 = x2.toInt ∧ attk (mCb S x0) a x1.toInt) (q1 : MBd (mCb S x0)) (m2 : (65 - x3.toInt) ≤ (N2 : Int)) : Ok (f_X0_attacked_2s self2 x0 x1 x2 x3 S) (fun o => o.2 = S ∧ ((0 : Int) ≤ o.1.toInt ∧ o.1.toInt ≤ (1 : Int)) ∧ ((o.1.toInt = 1 ↔ P))) := by
  unfold f_X0_attacked_2s
  refine ok_if (fun c1 => ?_) (fun c1 => ?_)
  ·
    replace c1 := ti_leP (a := (64 : Int32)) (b := x3) c1 (show (64 : Int32).toInt = 64 from rfl) rfl
    refine ok_chk (by decide) ?_
    exact ok_ret ⟨rfl, (show (0 : Int) ≤ (0 : Int32).toInt ∧ (0 : Int32).toInt ≤ (1 : Int) from (by decide)), (by show ((0 : Int32).toInt = 1 ↔ P); first | exact ad_e q0 (by omega) | exact ad_y q0 (by omega) ⟨by omega, by omega, p_r6.2.1 (by omega)⟩)⟩
  ·
    replace c1 := ti_leN (a := (64 : Int32)) (b := x3) c1 (show (64 : Int32).toInt = 64 from rfl) rfl
    refine ok_chk r_x0 ?_
    obtain ⟨b1, p_b1, k_b1, n_b1⟩ := T_0_0 hT r_x0
    refine ok_calR p_b1 ?_
    refine ok_chk k_b1 ?_
    refine ok_chk (ti_inN (v := x3) (n := 64) n_b1 (by omega) (by omega)) ?_
    refine ok_bnd (fun v2 e2 => ?_)
    have u_v2 : v2.toInt = mCb S x0 x3.toInt := mB_at (x := x3) p_b1 e2 (by omega) (by omega)
    have w_v2 := q1 (x3.toInt)
    refine ok_if (fun c3 => ?_) (fun c3 => ?_)
    ·
      replace c3 := ti_eqP (a := v2) (b := (0 : Int32)) c3 rfl (show (0 : Int32).toInt = 0 from rfl)
      unfold f_X0_attacked_40
      refine ok_bnd (fun v1 e4 => ?_)
      have t_v1 : v1.toInt = x3.toInt + 1 := ti_add e4 rfl (show (1 : Int32).toInt = 1 from rfl) (by omega) (by omega)
      exact hself2 x0 x1 x2 v1  r_x0 r_x1 r_x2 (by omega) (ad_s q0 t_v1 (by intro h; first | omega | (have hh := p_r6.2.2 h.2.2; omega))) q1 (by omega)
    ·
      replace c3 := ti_eqN (a := v2) (b := (0 : Int32)) c3 rfl (show (0 : Int32).toInt = 0 from rfl)
      refine ok_chk r_x0 ?_
      obtain ⟨b3, p_b3, k_b3, n_b3⟩ := T_0_0 hT r_x0
      refine ok_calR p_b3 ?_
      refine ok_chk k_b3 ?_
      refine ok_chk (ti_inN (v := x3) (n := 64) n_b3 (by omega) (by omega)) ?_
      refine ok_bnd (fun v4 e5 => ?_)
      have u_v4 : v4.toInt = mCb S x0 x3.toInt := mB_at (x := x3) p_b3 e5 (by omega) (by omega)
      have w_v4 := q1 (x3.toInt)
      refine ok_bnd (fun v5 e6 => ?_)
      have t_v5 : v5.toInt = v4.toInt / 8 := b_sh3 e6 (by omega)
      refine ok_if (fun c7 => ?_) (fun c7 => ?_)
      ·
        replace c7 := ti_eqP (a := v5) (b := x2) c7 rfl rfl
        refine ok_chk r_x0 ?_
        obtain ⟨r6, h_r6, p_r6⟩ := roz (y_f_X0_attacks (x0 := x0) (x1 := x3) (x2 := x1) hT r_x0 (by omega) r_x1 q1)
        dsimp only at p_r6
        refine ok_calR h_r6 ?_
        refine ok_if (fun c8 => ?_) (fun c8 => ?_)
        ·
          replace c8 := ti_eqP (a := r6) (b := (0 : Int32)) c8 rfl (show (0 : Int32).toInt = 0 from rfl)
          unfold f_X0_attacked_40
          refine ok_bnd (fun v1 e9 => ?_)
          have t_v1 : v1.toInt = x3.toInt + 1 := ti_add e9 rfl (show (1 : Int32).toInt = 1 from rfl) (by omega) (by omega)
          exact hself2 x0 x1 x2 v1  r_x0 r_x1 r_x2 (by omega) (ad_s q0 t_v1 (by intro h; first | omega | (have hh := p_r6.2.2 h.2.2; omega))) q1 (by omega)
        ·
          replace c8 := ti_eqN (a := r6) (b := (0 : Int32)) c8 rfl (show (0 : Int32).toInt = 0 from rfl)
          refine ok_chk (by decide) ?_
          exact ok_ret ⟨rfl, (show (0 : Int) ≤ (1 : Int32).toInt ∧ (1 : Int32).toInt ≤ (1 : Int) from (by decide)), (by show ((1 : Int32).toInt = 1 ↔ P); first | exact ad_e q0 (by omega) | exact ad_y q0 (by omega) ⟨by omega, by omega, p_r6.2.1 (by omega)⟩)⟩
      ·
        replace c7 := ti_eqN (a := v5) (b := x2) c7 rfl rfl
        unfold f_X0_attacked_40
        refine ok_bnd (fun v1 e10 => ?_)
        have t_v1 : v1.toInt = x3.toInt + 1 := ti_add e10 rfl (show (1 : Int32).toInt = 1 from rfl) (by omega) (by omega)
        exact hself2 x0 x1 x2 v1  r_x0 r_x1 r_x2 (by omega) (ad_s q0 t_v1 (by intro h; first | omega | (have hh := p_r6.2.2 h.2.2; omega))) q1 (by omega)
theorem x_f_X0_attacked_2 {P : Prop} {S : ZS} (hT : ZT S) : ∀ (n : Nat) (x0 : Nat) (x1 : Int32) (x2 : Int32) (x3 : Int32),  (zK S x0 = 0) → ((0 : Int) ≤ x1.toInt ∧ x1.toInt ≤ (63 : Int)) → ((0 : Int) ≤ x2.toInt ∧ x2.toInt ≤ (1 : Int)) → ((0 : Int) ≤ x3.toInt ∧ x3.toInt ≤ (64 : Int)) → (P ↔ ∃ a : Int, x3.toInt ≤ a ∧ a < 64 ∧ mCb S x0 a ≠ 0 ∧ mCb S x0 a / 8 = x2.toInt ∧ attk (mCb S x0) a x1.toInt) → (MBd (mCb S x0)) → (65 - x3.toInt) < (n : Int) → Ok (f_X0_attacked_2  n x0 x1 x2 x3 S) (fun o => o.2 = S ∧ ((0 : Int) ≤ o.1.toInt ∧ o.1.toInt ≤ (1 : Int)) ∧ ((o.1.toInt = 1 ↔ P))) := by
  intro n
  induction n with
  | zero => intro x0 x1 x2 x3 g0 g1 g2 g3 g4 g5  hm; exfalso; omega
  | succ n ih =>
    intro x0 x1 x2 x3 g0 g1 g2 g3 g4 g5  hm
    exact x_f_X0_attacked_2s (P := P) (N2 := n)  ih hT g0 g1 g2 g3 g4 g5  (by omega)
theorem x_f_X0_attacked_0 {P : Prop} {S : ZS} {x0 : Nat} {x1 : Int32} {x2 : Int32} (hT : ZT S) (r_x0 : zK S x0 = 0) (r_x1 : (0 : Int) ≤ x1.toInt ∧ x1.toInt ≤ (63 : Int)) (r_x2 : (0 : Int) ≤ x2.toInt ∧ x2.toInt ≤ (1 : Int)) (q0 : P ↔ attd (mCb S x0) x1.toInt x2.toInt) (q1 : MBd (mCb S x0)) : Ok (f_X0_attacked_0 x0 x1 x2 S) (fun o => o.2 = S ∧ ((0 : Int) ≤ o.1.toInt ∧ o.1.toInt ≤ (1 : Int)) ∧ ((o.1.toInt = 1 ↔ P))) := by
  unfold f_X0_attacked_0
  exact x_f_X0_attacked_2 (P := P)  hT mFuel x0 x1 x2 (0 : Int32)  r_x0 r_x1 r_x2 (by decide) q0 q1 (by show _ < ((200000 : Nat) : Int); have z0 : (0 : Int32).toInt = 0 := rfl; omega)
theorem x_f_X0_attacked {P : Prop} {S : ZS} {x0 : Nat} {x1 : Int32} {x2 : Int32} (hT : ZT S) (r_x0 : zK S x0 = 0) (r_x1 : (0 : Int) ≤ x1.toInt ∧ x1.toInt ≤ (63 : Int)) (r_x2 : (0 : Int) ≤ x2.toInt ∧ x2.toInt ≤ (1 : Int)) (q0 : P ↔ attd (mCb S x0) x1.toInt x2.toInt) (q1 : MBd (mCb S x0)) : Ok (f_X0_attacked x0 x1 x2 S) (fun o => o.2 = S ∧ ((0 : Int) ≤ o.1.toInt ∧ o.1.toInt ≤ (1 : Int)) ∧ ((o.1.toInt = 1 ↔ P))) := x_f_X0_attacked_0 (P := P) hT r_x0 r_x1 r_x2 q0 q1
theorem y_f_X0_attacked {S : ZS} {x0 : Nat} {x1 x2 : Int32} (hT : ZT S) (r_x0 : zK S x0 = 0) (r_x1 : (0 : Int) ≤ x1.toInt ∧ x1.toInt ≤ (63 : Int)) (r_x2 : (0 : Int) ≤ x2.toInt ∧ x2.toInt ≤ (1 : Int)) (hM : MBd (mCb S x0)) : Ok (f_X0_attacked x0 x1 x2 S) (fun o => o.2 = S ∧ ((0 : Int) ≤ o.1.toInt ∧ o.1.toInt ≤ (1 : Int)) ∧ (o.1.toInt = 1 ↔ attd (mCb S x0) x1.toInt x2.toInt)) := x_f_X0_attacked hT r_x0 r_x1 r_x2 Iff.rfl hM
theorem x_f_X0_kingOf_0 {S : ZS} {x0 : Nat} {x1 : Int32} (hT : ZT S) (r_x0 : zK S x0 = 0) : Ok (f_X0_kingOf_0 x0 x1 S) (fun o => o.2 = S ∧ ((0 : Int) ≤ o.1.toInt ∧ o.1.toInt ≤ (63 : Int)) ∧ (o.1.toInt = (if x1.toInt = 0 then (zI S 1 x0).toInt else (zI S 2 x0).toInt))) := by
  unfold f_X0_kingOf_0
  refine ok_if (fun c1 => ?_) (fun c1 => ?_)
  ·
    replace c1 := ti_eqP (a := x1) (b := (0 : Int32)) c1 rfl (show (0 : Int32).toInt = 0 from rfl)
    refine ok_chk r_x0 ?_
    unfold f_X0_kingOf_15
    have j2 := J_0_1 hT r_x0
    exact ok_ret ⟨rfl, (show (0 : Int) ≤ (zI S 1 x0).toInt ∧ (zI S 1 x0).toInt ≤ (63 : Int) from (by omega)), (by show (zI S 1 x0).toInt = (if x1.toInt = 0 then (zI S 1 x0).toInt else (zI S 2 x0).toInt); omega)⟩
  ·
    replace c1 := ti_eqN (a := x1) (b := (0 : Int32)) c1 rfl (show (0 : Int32).toInt = 0 from rfl)
    refine ok_chk r_x0 ?_
    unfold f_X0_kingOf_15
    have j3 := J_0_2 hT r_x0
    exact ok_ret ⟨rfl, (show (0 : Int) ≤ (zI S 2 x0).toInt ∧ (zI S 2 x0).toInt ≤ (63 : Int) from (by omega)), (by show (zI S 2 x0).toInt = (if x1.toInt = 0 then (zI S 1 x0).toInt else (zI S 2 x0).toInt); omega)⟩
theorem x_f_X0_kingOf {S : ZS} {x0 : Nat} {x1 : Int32} (hT : ZT S) (r_x0 : zK S x0 = 0) : Ok (f_X0_kingOf x0 x1 S) (fun o => o.2 = S ∧ ((0 : Int) ≤ o.1.toInt ∧ o.1.toInt ≤ (63 : Int)) ∧ (o.1.toInt = (if x1.toInt = 0 then (zI S 1 x0).toInt else (zI S 2 x0).toInt))) := x_f_X0_kingOf_0 hT r_x0
theorem x_f_X0_pawnReaches_62 {S : ZS} {x0 : Nat} {x1 : Int32} {x2 : Int32} {x3 : Int32} {t0 : Int32} {t1 : Int32} (hT : ZT S) (r_x0 : zK S x0 = 0) (r_x1 : (0 : Int) ≤ x1.toInt ∧ x1.toInt ≤ (63 : Int)) (r_x2 : (0 : Int) ≤ x2.toInt ∧ x2.toInt ≤ (63 : Int)) (r_x3 : (-8 : Int) ≤ x3.toInt ∧ x3.toInt ≤ (8 : Int)) (r_t0 : (1 : Int) ≤ t0.toInt ∧ t0.toInt ≤ (6 : Int)) (q0 : x2.toInt = x1.toInt + 2 * x3.toInt) (q1 : t1.toInt = x1.toInt / 8 ∧ ((x3.toInt = 8 ∧ t0.toInt = 1 ∧ (zI S 3 x0).toInt = 0) ∨ (x3.toInt = -8 ∧ t0.toInt = 6 ∧ (zI S 3 x0).toInt = 1))) : Ok (f_X0_pawnReaches_62 x0 x1 x2 x3 t0 t1 S) (fun o => o.2 = S ∧ ((0 : Int) ≤ o.1.toInt ∧ o.1.toInt ≤ (1 : Int)) ∧ ((o.1.toInt = 1 ↔ pwn (mCb S x0) (zI S 3 x0).toInt (zI S 5 x0).toInt x1.toInt x2.toInt))) := by
  unfold f_X0_pawnReaches_62
  refine ok_if (fun c1 => ?_) (fun c1 => ?_)
  ·
    replace c1 := ti_eqP (a := t1) (b := t0) c1 rfl rfl
    refine ok_chk r_x0 ?_
    obtain ⟨b1, p_b1, k_b1, n_b1⟩ := T_0_0 hT r_x0
    refine ok_calR p_b1 ?_
    refine ok_bnd (fun v2 e2 => ?_)
    have t_v2 : v2.toInt = x1.toInt + x3.toInt := ti_add e2 rfl rfl (by omega) (by omega)
    have a1 : x1.toInt + (8 - 16 * (zI S 3 x0).toInt) = v2.toInt := by omega
    refine ok_chk k_b1 ?_
    refine ok_chk (ti_inN (v := v2) (n := 64) n_b1 (by omega) (by omega)) ?_
    refine ok_bnd (fun v3 e3 => ?_)
    have u_v3 : v3.toInt = mCb S x0 v2.toInt := mB_at (x := v2) p_b1 e3 (by omega) (by omega)
    refine ok_if (fun c4 => ?_) (fun c4 => ?_)
    ·
      replace c4 := ti_eqP (a := v3) (b := (0 : Int32)) c4 rfl (show (0 : Int32).toInt = 0 from rfl)
      refine ok_chk r_x0 ?_
      obtain ⟨b4, p_b4, k_b4, n_b4⟩ := T_0_0 hT r_x0
      refine ok_calR p_b4 ?_
      refine ok_chk k_b4 ?_
      refine ok_chk (ti_inN (v := x2) (n := 64) n_b4 (by omega) (by omega)) ?_
      refine ok_bnd (fun v5 e5 => ?_)
      have u_v5 : v5.toInt = mCb S x0 x2.toInt := mB_at (x := x2) p_b4 e5 (by omega) (by omega)
      refine ok_if (fun c6 => ?_) (fun c6 => ?_)
      ·
        replace c6 := ti_eqP (a := v5) (b := (0 : Int32)) c6 rfl (show (0 : Int32).toInt = 0 from rfl)
        unfold f_X0_pawnReaches_90
        refine ok_chk (by decide) ?_
        exact ok_ret ⟨rfl, (show (0 : Int) ≤ (1 : Int32).toInt ∧ (1 : Int32).toInt ≤ (1 : Int) from (by decide)), (by show ((1 : Int32).toInt = 1 ↔ pwn (mCb S x0) (zI S 3 x0).toInt (zI S 5 x0).toInt x1.toInt x2.toInt); have z0 : (0 : Int32).toInt = 0 := rfl; have z1 : (1 : Int32).toInt = 1 := rfl; have z2 : (-1 : Int32).toInt = -1 := rfl; first | (unfold pwn; rw [a1]; omega) | (unfold pwn; omega))⟩
      ·
        replace c6 := ti_eqN (a := v5) (b := (0 : Int32)) c6 rfl (show (0 : Int32).toInt = 0 from rfl)
        unfold f_X0_pawnReaches_89
        unfold f_X0_pawnReaches_90
        refine ok_chk (by decide) ?_
        exact ok_ret ⟨rfl, (show (0 : Int) ≤ (0 : Int32).toInt ∧ (0 : Int32).toInt ≤ (1 : Int) from (by decide)), (by show ((0 : Int32).toInt = 1 ↔ pwn (mCb S x0) (zI S 3 x0).toInt (zI S 5 x0).toInt x1.toInt x2.toInt); have z0 : (0 : Int32).toInt = 0 := rfl; have z1 : (1 : Int32).toInt = 1 := rfl; have z2 : (-1 : Int32).toInt = -1 := rfl; first | (unfold pwn; rw [a1]; omega) | (unfold pwn; omega))⟩
    ·
      replace c4 := ti_eqN (a := v3) (b := (0 : Int32)) c4 rfl (show (0 : Int32).toInt = 0 from rfl)
      unfold f_X0_pawnReaches_89
      unfold f_X0_pawnReaches_90
      refine ok_chk (by decide) ?_
      exact ok_ret ⟨rfl, (show (0 : Int) ≤ (0 : Int32).toInt ∧ (0 : Int32).toInt ≤ (1 : Int) from (by decide)), (by show ((0 : Int32).toInt = 1 ↔ pwn (mCb S x0) (zI S 3 x0).toInt (zI S 5 x0).toInt x1.toInt x2.toInt); have z0 : (0 : Int32).toInt = 0 := rfl; have z1 : (1 : Int32).toInt = 1 := rfl; have z2 : (-1 : Int32).toInt = -1 := rfl; first | (unfold pwn; rw [a1]; omega) | (unfold pwn; omega))⟩
  ·
    replace c1 := ti_eqN (a := t1) (b := t0) c1 rfl rfl
    unfold f_X0_pawnReaches_89
    unfold f_X0_pawnReaches_90
    refine ok_chk (by decide) ?_
    exact ok_ret ⟨rfl, (show (0 : Int) ≤ (0 : Int32).toInt ∧ (0 : Int32).toInt ≤ (1 : Int) from (by decide)), (by show ((0 : Int32).toInt = 1 ↔ pwn (mCb S x0) (zI S 3 x0).toInt (zI S 5 x0).toInt x1.toInt x2.toInt); have z0 : (0 : Int32).toInt = 0 := rfl; have z1 : (1 : Int32).toInt = 1 := rfl; have z2 : (-1 : Int32).toInt = -1 := rfl; first | (unfold pwn; rw [a1]; omega) | (unfold pwn; omega))⟩
theorem x_f_X0_pawnReaches_14 {S : ZS} {x0 : Nat} {x1 : Int32} {x2 : Int32} {t0 : Int32} (hT : ZT S) (r_x0 : zK S x0 = 0) (r_x1 : (0 : Int) ≤ x1.toInt ∧ x1.toInt ≤ (63 : Int)) (r_x2 : (0 : Int) ≤ x2.toInt ∧ x2.toInt ≤ (63 : Int)) (r_t0 : (-8 : Int) ≤ t0.toInt ∧ t0.toInt ≤ (8 : Int)) (q0 : (t0.toInt = 8 ∧ (zI S 3 x0).toInt = 0) ∨ (t0.toInt = -8 ∧ (zI S 3 x0).toInt = 1)) (q1 : MBd (mCb S x0)) (q2 : mCb S x0 x1.toInt % 8 = 1 ∧ mCb S x0 x1.toInt / 8 = (zI S 3 x0).toInt ∧ mCb S x0 x1.toInt ≠ 0) (q3 : ¬ (mCb S x0 x2.toInt ≠ 0 ∧ mCb S x0 x2.toInt / 8 = (zI S 3 x0).toInt)) : Ok (f_X0_pawnReaches_14 x0 x1 x2 t0 S) (fun o => o.2 = S ∧ ((0 : Int) ≤ o.1.toInt ∧ o.1.toInt ≤ (1 : Int)) ∧ ((o.1.toInt = 1 ↔ pwn (mCb S x0) (zI S 3 x0).toInt (zI S 5 x0).toInt x1.toInt x2.toInt))) := by
  unfold f_X0_pawnReaches_14
  refine ok_bnd (fun v1 e7 => ?_)
  have t_v1 : v1.toInt = x1.toInt + t0.toInt := ti_add e7 rfl rfl (by omega) (by omega)
  refine ok_if (fun c8 => ?_) (fun c8 => ?_)
  ·
    replace c8 := ti_eqP (a := x2) (b := v1) c8 rfl rfl
    refine ok_chk r_x0 ?_
    obtain ⟨b8, p_b8, k_b8, n_b8⟩ := T_0_0 hT r_x0
    refine ok_calR p_b8 ?_
    refine ok_chk k_b8 ?_
    refine ok_chk (ti_inN (v := x2) (n := 64) n_b8 (by omega) (by omega)) ?_
    refine ok_bnd (fun v9 e9 => ?_)
    have u_v9 : v9.toInt = mCb S x0 x2.toInt := mB_at (x := x2) p_b8 e9 (by omega) (by omega)
    have w_v9 := q1 (x2.toInt)
    refine ok_if (fun c10 => ?_) (fun c10 => ?_)
    ·
      replace c10 := ti_eqP (a := v9) (b := (0 : Int32)) c10 rfl (show (0 : Int32).toInt = 0 from rfl)
      unfold f_X0_pawnReaches_36
      refine ok_chk (by decide) ?_
      exact ok_ret ⟨rfl, (show (0 : Int) ≤ (1 : Int32).toInt ∧ (1 : Int32).toInt ≤ (1 : Int) from (by decide)), (by show ((1 : Int32).toInt = 1 ↔ pwn (mCb S x0) (zI S 3 x0).toInt (zI S 5 x0).toInt x1.toInt x2.toInt); have z0 : (0 : Int32).toInt = 0 := rfl; have z1 : (1 : Int32).toInt = 1 := rfl; have z2 : (-1 : Int32).toInt = -1 := rfl; first | (have pb := pa.1 (by omega); exact ⟨fun _ => Or.inr (Or.inr ⟨by omega, by omega, by first | exact Or.inr (by omega) | exact Or.inl ⟨by omega, by omega⟩⟩), fun _ => rfl⟩) | (unfold pwn; omega))⟩
    ·
      replace c10 := ti_eqN (a := v9) (b := (0 : Int32)) c10 rfl (show (0 : Int32).toInt = 0 from rfl)
      unfold f_X0_pawnReaches_36
      refine ok_chk (by decide) ?_
      exact ok_ret ⟨rfl, (show (0 : Int) ≤ (0 : Int32).toInt ∧ (0 : Int32).toInt ≤ (1 : Int) from (by decide)), (by show ((0 : Int32).toInt = 1 ↔ pwn (mCb S x0) (zI S 3 x0).toInt (zI S 5 x0).toInt x1.toInt x2.toInt); have z0 : (0 : Int32).toInt = 0 := rfl; have z1 : (1 : Int32).toInt = 1 := rfl; have z2 : (-1 : Int32).toInt = -1 := rfl; first | (have pb := pa.1 (by omega); exact ⟨fun _ => Or.inr (Or.inr ⟨by omega, by omega, by first | exact Or.inr (by omega) | exact Or.inl ⟨by omega, by omega⟩⟩), fun _ => rfl⟩) | (unfold pwn; omega))⟩
  ·
    replace c8 := ti_eqN (a := x2) (b := v1) c8 rfl rfl
    refine ok_bnd (fun v2 e11 => ?_)
    have t_v2 : v2.toInt = 2 * t0.toInt := ti_mul e11 (show (2 : Int32).toInt = 2 from rfl) rfl (by omega) (by omega)
    refine ok_bnd (fun v3 e12 => ?_)
    have t_v3 : v3.toInt = x1.toInt + v2.toInt := ti_add e12 rfl rfl (by omega) (by omega)
    refine ok_if (fun c13 => ?_) (fun c13 => ?_)
    ·
      replace c13 := ti_eqP (a := x2) (b := v3) c13 rfl rfl
      refine ok_bnd (fun v7 e14 => ?_)
      have t_v7 : v7.toInt = x1.toInt / 8 := b_sh3 e14 (by omega)
      refine ok_chk r_x0 ?_
      have j15 := J_0_3 hT r_x0
      refine ok_if (fun c16 => ?_) (fun c16 => ?_)
      ·
        replace c16 := ti_eqP (a := (zI S 3 x0)) (b := (0 : Int32)) c16 rfl (show (0 : Int32).toInt = 0 from rfl)
        exact x_f_X0_pawnReaches_62 (S := S)  (x0 := x0) (x1 := x1) (x2 := x2) (x3 := t0) (t0 := (1 : Int32)) (t1 := v7) hT r_x0 r_x1 r_x2 r_t0 (by decide) (by have z0 : (1 : Int32).toInt = 1 := rfl; omega) (by have z0 : (1 : Int32).toInt = 1 := rfl; omega)
      ·
        replace c16 := ti_eqN (a := (zI S 3 x0)) (b := (0 : Int32)) c16 rfl (show (0 : Int32).toInt = 0 from rfl)
        exact x_f_X0_pawnReaches_62 (S := S)  (x0 := x0) (x1 := x1) (x2 := x2) (x3 := t0) (t0 := (6 : Int32)) (t1 := v7) hT r_x0 r_x1 r_x2 r_t0 (by decide) (by have z0 : (6 : Int32).toInt = 6 := rfl; omega) (by have z0 : (6 : Int32).toInt = 6 := rfl; omega)
    ·
      replace c13 := ti_eqN (a := x2) (b := v3) c13 rfl rfl
      refine ok_chk r_x0 ?_
      obtain ⟨r4, h_r4, p_r4⟩ := roz (y_f_X0_attacks (x0 := x0) (x1 := x1) (x2 := x2) hT r_x0 r_x1 r_x2 q1)
      dsimp only at p_r4
      refine ok_calR h_r4 ?_
      have pa := p_r4.2.trans (pw_att q2.1)
      unfold paw at pa
      have w2 := q1 x2.toInt
      refine ok_if (fun c17 => ?_) (fun c17 => ?_)
      ·
        replace c17 := ti_eqP (a := r4) (b := (0 : Int32)) c17 rfl (show (0 : Int32).toInt = 0 from rfl)
        unfold f_X0_pawnReaches_121
        unfold f_X0_pawnReaches_122
        refine ok_chk (by decide) ?_
        exact ok_ret ⟨rfl, (show (0 : Int) ≤ (0 : Int32).toInt ∧ (0 : Int32).toInt ≤ (1 : Int) from (by decide)), (by show ((0 : Int32).toInt = 1 ↔ pwn (mCb S x0) (zI S 3 x0).toInt (zI S 5 x0).toInt x1.toInt x2.toInt); have z0 : (0 : Int32).toInt = 0 := rfl; have z1 : (1 : Int32).toInt = 1 := rfl; have z2 : (-1 : Int32).toInt = -1 := rfl; first | (have pb := pa.1 (by omega); exact ⟨fun _ => Or.inr (Or.inr ⟨by omega, by omega, by first | exact Or.inr (by omega) | exact Or.inl ⟨by omega, by omega⟩⟩), fun _ => rfl⟩) | (unfold pwn; omega))⟩
      ·
        replace c17 := ti_eqN (a := r4) (b := (0 : Int32)) c17 rfl (show (0 : Int32).toInt = 0 from rfl)
        refine ok_chk r_x0 ?_
        obtain ⟨b5, p_b5, k_b5, n_b5⟩ := T_0_0 hT r_x0
        refine ok_calR p_b5 ?_
        refine ok_chk k_b5 ?_
        refine ok_chk (ti_inN (v := x2) (n := 64) n_b5 (by omega) (by omega)) ?_
        refine ok_bnd (fun v6 e18 => ?_)
        have u_v6 : v6.toInt = mCb S x0 x2.toInt := mB_at (x := x2) p_b5 e18 (by omega) (by omega)
        have w_v6 := q1 (x2.toInt)
        refine ok_if (fun c19 => ?_) (fun c19 => ?_)
        ·
          replace c19 := ti_eqP (a := v6) (b := (0 : Int32)) c19 rfl (show (0 : Int32).toInt = 0 from rfl)
          refine ok_chk r_x0 ?_
          have j20 := J_0_5 hT r_x0
          refine ok_if (fun c21 => ?_) (fun c21 => ?_)
          ·
            replace c21 := ti_eqP (a := x2) (b := (zI S 5 x0)) c21 rfl rfl
            unfold f_X0_pawnReaches_117
            unfold f_X0_pawnReaches_122
            refine ok_chk (by decide) ?_
            exact ok_ret ⟨rfl, (show (0 : Int) ≤ (1 : Int32).toInt ∧ (1 : Int32).toInt ≤ (1 : Int) from (by decide)), (by show ((1 : Int32).toInt = 1 ↔ pwn (mCb S x0) (zI S 3 x0).toInt (zI S 5 x0).toInt x1.toInt x2.toInt); have z0 : (0 : Int32).toInt = 0 := rfl; have z1 : (1 : Int32).toInt = 1 := rfl; have z2 : (-1 : Int32).toInt = -1 := rfl; first | (have pb := pa.1 (by omega); exact ⟨fun _ => Or.inr (Or.inr ⟨by omega, by omega, by first | exact Or.inr (by omega) | exact Or.inl ⟨by omega, by omega⟩⟩), fun _ => rfl⟩) | (unfold pwn; omega))⟩
          ·
            replace c21 := ti_eqN (a := x2) (b := (zI S 5 x0)) c21 rfl rfl
            unfold f_X0_pawnReaches_121
            unfold f_X0_pawnReaches_122
            refine ok_chk (by decide) ?_
            exact ok_ret ⟨rfl, (show (0 : Int) ≤ (0 : Int32).toInt ∧ (0 : Int32).toInt ≤ (1 : Int) from (by decide)), (by show ((0 : Int32).toInt = 1 ↔ pwn (mCb S x0) (zI S 3 x0).toInt (zI S 5 x0).toInt x1.toInt x2.toInt); have z0 : (0 : Int32).toInt = 0 := rfl; have z1 : (1 : Int32).toInt = 1 := rfl; have z2 : (-1 : Int32).toInt = -1 := rfl; first | (have pb := pa.1 (by omega); exact ⟨fun _ => Or.inr (Or.inr ⟨by omega, by omega, by first | exact Or.inr (by omega) | exact Or.inl ⟨by omega, by omega⟩⟩), fun _ => rfl⟩) | (unfold pwn; omega))⟩
        ·
          replace c19 := ti_eqN (a := v6) (b := (0 : Int32)) c19 rfl (show (0 : Int32).toInt = 0 from rfl)
          unfold f_X0_pawnReaches_117
          unfold f_X0_pawnReaches_122
          refine ok_chk (by decide) ?_
          exact ok_ret ⟨rfl, (show (0 : Int) ≤ (1 : Int32).toInt ∧ (1 : Int32).toInt ≤ (1 : Int) from (by decide)), (by show ((1 : Int32).toInt = 1 ↔ pwn (mCb S x0) (zI S 3 x0).toInt (zI S 5 x0).toInt x1.toInt x2.toInt); have z0 : (0 : Int32).toInt = 0 := rfl; have z1 : (1 : Int32).toInt = 1 := rfl; have z2 : (-1 : Int32).toInt = -1 := rfl; first | (have pb := pa.1 (by omega); exact ⟨fun _ => Or.inr (Or.inr ⟨by omega, by omega, by first | exact Or.inr (by omega) | exact Or.inl ⟨by omega, by omega⟩⟩), fun _ => rfl⟩) | (unfold pwn; omega))⟩
theorem x_f_X0_pawnReaches_0 {S : ZS} {x0 : Nat} {x1 : Int32} {x2 : Int32} (hT : ZT S) (r_x0 : zK S x0 = 0) (r_x1 : (0 : Int) ≤ x1.toInt ∧ x1.toInt ≤ (63 : Int)) (r_x2 : (0 : Int) ≤ x2.toInt ∧ x2.toInt ≤ (63 : Int)) (q0 : MBd (mCb S x0)) (q1 : mCb S x0 x1.toInt % 8 = 1 ∧ mCb S x0 x1.toInt / 8 = (zI S 3 x0).toInt ∧ mCb S x0 x1.toInt ≠ 0) (q2 : ¬ (mCb S x0 x2.toInt ≠ 0 ∧ mCb S x0 x2.toInt / 8 = (zI S 3 x0).toInt)) : Ok (f_X0_pawnReaches_0 x0 x1 x2 S) (fun o => o.2 = S ∧ ((0 : Int) ≤ o.1.toInt ∧ o.1.toInt ≤ (1 : Int)) ∧ ((o.1.toInt = 1 ↔ pwn (mCb S x0) (zI S 3 x0).toInt (zI S 5 x0).toInt x1.toInt x2.toInt))) := by
  unfold f_X0_pawnReaches_0
  refine ok_chk r_x0 ?_
  have j22 := J_0_3 hT r_x0
  refine ok_if (fun c23 => ?_) (fun c23 => ?_)
  ·
    replace c23 := ti_eqP (a := (zI S 3 x0)) (b := (0 : Int32)) c23 rfl (show (0 : Int32).toInt = 0 from rfl)
    exact x_f_X0_pawnReaches_14 (S := S)  (x0 := x0) (x1 := x1) (x2 := x2) (t0 := (8 : Int32)) hT r_x0 r_x1 r_x2 (by decide) (by have z0 : (8 : Int32).toInt = 8 := rfl; omega) q0 q1 q2
  ·
    replace c23 := ti_eqN (a := (zI S 3 x0)) (b := (0 : Int32)) c23 rfl (show (0 : Int32).toInt = 0 from rfl)
    exact x_f_X0_pawnReaches_14 (S := S)  (x0 := x0) (x1 := x1) (x2 := x2) (t0 := (-8 : Int32)) hT r_x0 r_x1 r_x2 (by decide) (by have z0 : (-8 : Int32).toInt = -8 := rfl; omega) q0 q1 q2
theorem x_f_X0_pawnReaches {S : ZS} {x0 : Nat} {x1 : Int32} {x2 : Int32} (hT : ZT S) (r_x0 : zK S x0 = 0) (r_x1 : (0 : Int) ≤ x1.toInt ∧ x1.toInt ≤ (63 : Int)) (r_x2 : (0 : Int) ≤ x2.toInt ∧ x2.toInt ≤ (63 : Int)) (q0 : MBd (mCb S x0)) (q1 : mCb S x0 x1.toInt % 8 = 1 ∧ mCb S x0 x1.toInt / 8 = (zI S 3 x0).toInt ∧ mCb S x0 x1.toInt ≠ 0) (q2 : ¬ (mCb S x0 x2.toInt ≠ 0 ∧ mCb S x0 x2.toInt / 8 = (zI S 3 x0).toInt)) : Ok (f_X0_pawnReaches x0 x1 x2 S) (fun o => o.2 = S ∧ ((0 : Int) ≤ o.1.toInt ∧ o.1.toInt ≤ (1 : Int)) ∧ ((o.1.toInt = 1 ↔ pwn (mCb S x0) (zI S 3 x0).toInt (zI S 5 x0).toInt x1.toInt x2.toInt))) := x_f_X0_pawnReaches_0 hT r_x0 r_x1 r_x2 q0 q1 q2
theorem x_f_X0_castles_0 {S : ZS} {x0 : Nat} {x1 : Int32} {x2 : Int32} (hT : ZT S) (r_x0 : zK S x0 = 0) (r_x1 : (0 : Int) ≤ x1.toInt ∧ x1.toInt ≤ (63 : Int)) (r_x2 : (0 : Int) ≤ x2.toInt ∧ x2.toInt ≤ (63 : Int)) (q0 : MBd (mCb S x0)) : Ok (f_X0_castles_0 x0 x1 x2 S) (fun o => o.2 = S ∧ ((0 : Int) ≤ o.1.toInt ∧ o.1.toInt ≤ (1 : Int)) ∧ ((o.1.toInt = 1 ↔ cas (mCb S x0) x1.toInt x2.toInt))) := by
  unfold f_X0_castles_0
  refine ok_chk r_x0 ?_
  obtain ⟨b1, p_b1, k_b1, n_b1⟩ := T_0_0 hT r_x0
  refine ok_calR p_b1 ?_
  refine ok_chk k_b1 ?_
  refine ok_chk (ti_inN (v := x1) (n := 64) n_b1 (by omega) (by omega)) ?_
  refine ok_bnd (fun v2 e1 => ?_)
  have u_v2 : v2.toInt = mCb S x0 x1.toInt := mB_at (x := x1) p_b1 e1 (by omega) (by omega)
  have w_v2 := q0 (x1.toInt)
  refine ok_bnd (fun v3 e2 => ?_)
  have t_v3 : v3.toInt = v2.toInt % 8 := b_and7 e2 (by omega)
  refine ok_if (fun c3 => ?_) (fun c3 => ?_)
  ·
    replace c3 := ti_eqP (a := v3) (b := (6 : Int32)) c3 rfl (show (6 : Int32).toInt = 6 from rfl)
    refine ok_bnd (fun v4 e4 => ?_)
    have t_v4 : v4.toInt = x1.toInt / 8 := b_sh3 e4 (by omega)
    refine ok_bnd (fun v5 e5 => ?_)
    have t_v5 : v5.toInt = x2.toInt / 8 := b_sh3 e5 (by omega)
    refine ok_if (fun c6 => ?_) (fun c6 => ?_)
    ·
      replace c6 := ti_eqP (a := v4) (b := v5) c6 rfl rfl
      refine ok_bnd (fun v6 e7 => ?_)
      have t_v6 : v6.toInt = x1.toInt + 2 := ti_add e7 rfl (show (2 : Int32).toInt = 2 from rfl) (by omega) (by omega)
      refine ok_if (fun c8 => ?_) (fun c8 => ?_)
      ·
        replace c8 := ti_eqP (a := x2) (b := v6) c8 rfl rfl
        unfold f_X0_castles_37
        unfold f_X0_castles_42
        refine ok_chk (by decide) ?_
        exact ok_ret ⟨rfl, (show (0 : Int) ≤ (1 : Int32).toInt ∧ (1 : Int32).toInt ≤ (1 : Int) from (by decide)), (by show ((1 : Int32).toInt = 1 ↔ cas (mCb S x0) x1.toInt x2.toInt); have z0 : (0 : Int32).toInt = 0 := rfl; have z1 : (1 : Int32).toInt = 1 := rfl; have z2 : (-1 : Int32).toInt = -1 := rfl; unfold cas; omega)⟩
      ·
        replace c8 := ti_eqN (a := x2) (b := v6) c8 rfl rfl
        refine ok_bnd (fun v7 e9 => ?_)
        have t_v7 : v7.toInt = x1.toInt - 2 := ti_sub e9 rfl (show (2 : Int32).toInt = 2 from rfl) (by omega) (by omega)
        refine ok_if (fun c10 => ?_) (fun c10 => ?_)
        ·
          replace c10 := ti_eqP (a := x2) (b := v7) c10 rfl rfl
          unfold f_X0_castles_37
          unfold f_X0_castles_42
          refine ok_chk (by decide) ?_
          exact ok_ret ⟨rfl, (show (0 : Int) ≤ (1 : Int32).toInt ∧ (1 : Int32).toInt ≤ (1 : Int) from (by decide)), (by show ((1 : Int32).toInt = 1 ↔ cas (mCb S x0) x1.toInt x2.toInt); have z0 : (0 : Int32).toInt = 0 := rfl; have z1 : (1 : Int32).toInt = 1 := rfl; have z2 : (-1 : Int32).toInt = -1 := rfl; unfold cas; omega)⟩
        ·
          replace c10 := ti_eqN (a := x2) (b := v7) c10 rfl rfl
          unfold f_X0_castles_41
          unfold f_X0_castles_42
          refine ok_chk (by decide) ?_
          exact ok_ret ⟨rfl, (show (0 : Int) ≤ (0 : Int32).toInt ∧ (0 : Int32).toInt ≤ (1 : Int) from (by decide)), (by show ((0 : Int32).toInt = 1 ↔ cas (mCb S x0) x1.toInt x2.toInt); have z0 : (0 : Int32).toInt = 0 := rfl; have z1 : (1 : Int32).toInt = 1 := rfl; have z2 : (-1 : Int32).toInt = -1 := rfl; unfold cas; omega)⟩
    ·
      replace c6 := ti_eqN (a := v4) (b := v5) c6 rfl rfl
      unfold f_X0_castles_41
      unfold f_X0_castles_42
      refine ok_chk (by decide) ?_
      exact ok_ret ⟨rfl, (show (0 : Int) ≤ (0 : Int32).toInt ∧ (0 : Int32).toInt ≤ (1 : Int) from (by decide)), (by show ((0 : Int32).toInt = 1 ↔ cas (mCb S x0) x1.toInt x2.toInt); have z0 : (0 : Int32).toInt = 0 := rfl; have z1 : (1 : Int32).toInt = 1 := rfl; have z2 : (-1 : Int32).toInt = -1 := rfl; unfold cas; omega)⟩
  ·
    replace c3 := ti_eqN (a := v3) (b := (6 : Int32)) c3 rfl (show (6 : Int32).toInt = 6 from rfl)
    unfold f_X0_castles_41
    unfold f_X0_castles_42
    refine ok_chk (by decide) ?_
    exact ok_ret ⟨rfl, (show (0 : Int) ≤ (0 : Int32).toInt ∧ (0 : Int32).toInt ≤ (1 : Int) from (by decide)), (by show ((0 : Int32).toInt = 1 ↔ cas (mCb S x0) x1.toInt x2.toInt); have z0 : (0 : Int32).toInt = 0 := rfl; have z1 : (1 : Int32).toInt = 1 := rfl; have z2 : (-1 : Int32).toInt = -1 := rfl; unfold cas; omega)⟩
theorem x_f_X0_castles {S : ZS} {x0 : Nat} {x1 : Int32} {x2 : Int32} (hT : ZT S) (r_x0 : zK S x0 = 0) (r_x1 : (0 : Int) ≤ x1.toInt ∧ x1.toInt ≤ (63 : Int)) (r_x2 : (0 : Int) ≤ x2.toInt ∧ x2.toInt ≤ (63 : Int)) (q0 : MBd (mCb S x0)) : Ok (f_X0_castles x0 x1 x2 S) (fun o => o.2 = S ∧ ((0 : Int) ≤ o.1.toInt ∧ o.1.toInt ≤ (1 : Int)) ∧ ((o.1.toInt = 1 ↔ cas (mCb S x0) x1.toInt x2.toInt))) := x_f_X0_castles_0 hT r_x0 r_x1 r_x2 q0
theorem x_f_X0_castlingIsOpen_38 {S : ZS} {x0 : Nat} {x1 : Int32} {x2 : Int32} {x3 : Int32} {t0 : Int32} {t1 : Int32} (hT : ZT S) (r_x0 : zK S x0 = 0) (r_x1 : (0 : Int) ≤ x1.toInt ∧ x1.toInt ≤ (63 : Int)) (r_x2 : (0 : Int) ≤ x2.toInt ∧ x2.toInt ≤ (63 : Int)) (r_t0 : (4 : Int) ≤ t0.toInt ∧ t0.toInt ≤ (60 : Int)) (q0 : x2.toInt = x1.toInt + 2 ∨ x2.toInt = x1.toInt - 2) (q1 : t1.toInt = x1.toInt ∧ (t0.toInt = 4 ∨ t0.toInt = 60)) (q2 : MBd (mCb S x0)) (q3 : 0 ≤ (zI S 4 x0).toInt ∧ (zI S 4 x0).toInt ≤ 15) (q4 : t0.toInt = 4 + 56 * (zI S 3 x0).toInt) (q5 : ((zI S 4 x0) &&& x3).toInt = 0 ↔ ¬ rb (zI S 4 x0).toInt (2 * (zI S 3 x0).toInt + (if x1.toInt < x2.toInt then 0 else 1))) : Ok (f_X0_castlingIsOpen_38 x0 x1 x2 x3 t0 t1 S) (fun o => o.2 = S ∧ ((0 : Int) ≤ o.1.toInt ∧ o.1.toInt ≤ (1 : Int)) ∧ ((o.1.toInt = 1 ↔ csl (mCb S x0) (zI S 3 x0).toInt (zI S 4 x0).toInt x1.toInt x2.toInt))) := by
  unfold f_X0_castlingIsOpen_38
  refine ok_if (fun c1 => ?_) (fun c1 => ?_)
  ·
    replace c1 := ti_eqP (a := t1) (b := t0) c1 rfl rfl
    refine ok_chk r_x0 ?_
    refine ok_bnd (fun v1 e2 => ?_)
    have rv : v1.toInt = 0 ↔ ¬ rb (zI S 4 x0).toInt (2 * (zI S 3 x0).toInt + (if x1.toInt < x2.toInt then 0 else 1)) := by rw [e2]; exact q5
    refine ok_if (fun c3 => ?_) (fun c3 => ?_)
    ·
      replace c3 := ti_eqP (a := v1) (b := (0 : Int32)) c3 rfl (show (0 : Int32).toInt = 0 from rfl)
      unfold f_X0_castlingIsOpen_50
      refine ok_chk (by decide) ?_
      exact ok_ret ⟨rfl, (show (0 : Int) ≤ (0 : Int32).toInt ∧ (0 : Int32).toInt ≤ (1 : Int) from (by decide)), (by show ((0 : Int32).toInt = 1 ↔ csl (mCb S x0) (zI S 3 x0).toInt (zI S 4 x0).toInt x1.toInt x2.toInt); have z0 : (0 : Int32).toInt = 0 := rfl; have z1 : (1 : Int32).toInt = 1 := rfl; have z2 : (-1 : Int32).toInt = -1 := rfl; first | (rcases q0 with e9 | e9; exact lf_no Iff.rfl (fun h => by rw [csl_near e9, rv_n rv (by omega)] at h; omega); exact lf_no Iff.rfl (fun h => by rw [csl_far e9, rv_f rv (by omega)] at h; omega)) | exact lf_no Iff.rfl (fun h => by have := h.1; omega) | (rw [csl_near (by omega), rv_n rv (by omega)]; omega) | (rw [csl_far (by omega), rv_f rv (by omega)]; omega))⟩
    ·
      replace c3 := ti_eqN (a := v1) (b := (0 : Int32)) c3 rfl (show (0 : Int32).toInt = 0 from rfl)
      refine ok_if (fun c4 => ?_) (fun c4 => ?_)
      ·
        replace c4 := ti_leP (a := x2) (b := x1) c4 rfl rfl
        refine ok_chk r_x0 ?_
        obtain ⟨b2, p_b2, k_b2, n_b2⟩ := T_0_0 hT r_x0
        refine ok_calR p_b2 ?_
        refine ok_bnd (fun v3 e5 => ?_)
        have t_v3 : v3.toInt = x1.toInt - 1 := ti_sub e5 rfl (show (1 : Int32).toInt = 1 from rfl) (by omega) (by omega)
        refine ok_chk k_b2 ?_
        refine ok_chk (ti_inN (v := v3) (n := 64) n_b2 (by omega) (by omega)) ?_
        refine ok_bnd (fun v4 e6 => ?_)
        have u_v4 : v4.toInt = mCb S x0 v3.toInt := mB_at (x := v3) p_b2 e6 (by omega) (by omega)
        have w_v4 := q2 (v3.toInt)
        have n4 : mCb S x0 (x1.toInt - 1) = v4.toInt := by rw [u_v4, t_v3]
        refine ok_if (fun c7 => ?_) (fun c7 => ?_)
        ·
          replace c7 := ti_eqP (a := v4) (b := (0 : Int32)) c7 rfl (show (0 : Int32).toInt = 0 from rfl)
          refine ok_chk r_x0 ?_
          obtain ⟨b5, p_b5, k_b5, n_b5⟩ := T_0_0 hT r_x0
          refine ok_calR p_b5 ?_
          refine ok_bnd (fun v6 e8 => ?_)
          have t_v6 : v6.toInt = x1.toInt - 2 := ti_sub e8 rfl (show (2 : Int32).toInt = 2 from rfl) (by omega) (by omega)
          refine ok_chk k_b5 ?_
          refine ok_chk (ti_inN (v := v6) (n := 64) n_b5 (by omega) (by omega)) ?_
          refine ok_bnd (fun v7 e9 => ?_)
          have u_v7 : v7.toInt = mCb S x0 v6.toInt := mB_at (x := v6) p_b5 e9 (by omega) (by omega)
          have w_v7 := q2 (v6.toInt)
          have n7 : mCb S x0 (x1.toInt - 2) = v7.toInt := by rw [u_v7, t_v6]
          refine ok_if (fun c10 => ?_) (fun c10 => ?_)
          ·
            replace c10 := ti_eqP (a := v7) (b := (0 : Int32)) c10 rfl (show (0 : Int32).toInt = 0 from rfl)
            refine ok_chk r_x0 ?_
            obtain ⟨b8, p_b8, k_b8, n_b8⟩ := T_0_0 hT r_x0
            refine ok_calR p_b8 ?_
            refine ok_bnd (fun v9 e11 => ?_)
            have t_v9 : v9.toInt = x1.toInt - 3 := ti_sub e11 rfl (show (3 : Int32).toInt = 3 from rfl) (by omega) (by omega)
            refine ok_chk k_b8 ?_
            refine ok_chk (ti_inN (v := v9) (n := 64) n_b8 (by omega) (by omega)) ?_
            refine ok_bnd (fun v10 e12 => ?_)
            have u_v10 : v10.toInt = mCb S x0 v9.toInt := mB_at (x := v9) p_b8 e12 (by omega) (by omega)
            have w_v10 := q2 (v9.toInt)
            have n10 : mCb S x0 (x1.toInt - 3) = v10.toInt := by rw [u_v10, t_v9]
            refine ok_if (fun c13 => ?_) (fun c13 => ?_)
            ·
              replace c13 := ti_eqP (a := v10) (b := (0 : Int32)) c13 rfl (show (0 : Int32).toInt = 0 from rfl)
              unfold f_X0_castlingIsOpen_123
              refine ok_chk (by decide) ?_
              exact ok_ret ⟨rfl, (show (0 : Int) ≤ (1 : Int32).toInt ∧ (1 : Int32).toInt ≤ (1 : Int) from (by decide)), (by show ((1 : Int32).toInt = 1 ↔ csl (mCb S x0) (zI S 3 x0).toInt (zI S 4 x0).toInt x1.toInt x2.toInt); have z0 : (0 : Int32).toInt = 0 := rfl; have z1 : (1 : Int32).toInt = 1 := rfl; have z2 : (-1 : Int32).toInt = -1 := rfl; first | (rcases q0 with e9 | e9; exact lf_no Iff.rfl (fun h => by rw [csl_near e9, rv_n rv (by omega)] at h; omega); exact lf_no Iff.rfl (fun h => by rw [csl_far e9, rv_f rv (by omega)] at h; omega)) | exact lf_no Iff.rfl (fun h => by have := h.1; omega) | (rw [csl_near (by omega), rv_n rv (by omega)]; omega) | (rw [csl_far (by omega), rv_f rv (by omega)]; omega))⟩
            ·
              replace c13 := ti_eqN (a := v10) (b := (0 : Int32)) c13 rfl (show (0 : Int32).toInt = 0 from rfl)
              unfold f_X0_castlingIsOpen_122
              unfold f_X0_castlingIsOpen_123
              refine ok_chk (by decide) ?_
              exact ok_ret ⟨rfl, (show (0 : Int) ≤ (0 : Int32).toInt ∧ (0 : Int32).toInt ≤ (1 : Int) from (by decide)), (by show ((0 : Int32).toInt = 1 ↔ csl (mCb S x0) (zI S 3 x0).toInt (zI S 4 x0).toInt x1.toInt x2.toInt); have z0 : (0 : Int32).toInt = 0 := rfl; have z1 : (1 : Int32).toInt = 1 := rfl; have z2 : (-1 : Int32).toInt = -1 := rfl; first | (rcases q0 with e9 | e9; exact lf_no Iff.rfl (fun h => by rw [csl_near e9, rv_n rv (by omega)] at h; omega); exact lf_no Iff.rfl (fun h => by rw [csl_far e9, rv_f rv (by omega)] at h; omega)) | exact lf_no Iff.rfl (fun h => by have := h.1; omega) | (rw [csl_near (by omega), rv_n rv (by omega)]; omega) | (rw [csl_far (by omega), rv_f rv (by omega)]; omega))⟩
          ·
            replace c10 := ti_eqN (a := v7) (b := (0 : Int32)) c10 rfl (show (0 : Int32).toInt = 0 from rfl)
            unfold f_X0_castlingIsOpen_122
            unfold f_X0_castlingIsOpen_123
            refine ok_chk (by decide) ?_
            exact ok_ret ⟨rfl, (show (0 : Int) ≤ (0 : Int32).toInt ∧ (0 : Int32).toInt ≤ (1 : Int) from (by decide)), (by show ((0 : Int32).toInt = 1 ↔ csl (mCb S x0) (zI S 3 x0).toInt (zI S 4 x0).toInt x1.toInt x2.toInt); have z0 : (0 : Int32).toInt = 0 := rfl; have z1 : (1 : Int32).toInt = 1 := rfl; have z2 : (-1 : Int32).toInt = -1 := rfl; first | (rcases q0 with e9 | e9; exact lf_no Iff.rfl (fun h => by rw [csl_near e9, rv_n rv (by omega)] at h; omega); exact lf_no Iff.rfl (fun h => by rw [csl_far e9, rv_f rv (by omega)] at h; omega)) | exact lf_no Iff.rfl (fun h => by have := h.1; omega) | (rw [csl_near (by omega), rv_n rv (by omega)]; omega) | (rw [csl_far (by omega), rv_f rv (by omega)]; omega))⟩
        ·
          replace c7 := ti_eqN (a := v4) (b := (0 : Int32)) c7 rfl (show (0 : Int32).toInt = 0 from rfl)
          unfold f_X0_castlingIsOpen_122
          unfold f_X0_castlingIsOpen_123
          refine ok_chk (by decide) ?_
          exact ok_ret ⟨rfl, (show (0 : Int) ≤ (0 : Int32).toInt ∧ (0 : Int32).toInt ≤ (1 : Int) from (by decide)), (by show ((0 : Int32).toInt = 1 ↔ csl (mCb S x0) (zI S 3 x0).toInt (zI S 4 x0).toInt x1.toInt x2.toInt); have z0 : (0 : Int32).toInt = 0 := rfl; have z1 : (1 : Int32).toInt = 1 := rfl; have z2 : (-1 : Int32).toInt = -1 := rfl; first | (rcases q0 with e9 | e9; exact lf_no Iff.rfl (fun h => by rw [csl_near e9, rv_n rv (by omega)] at h; omega); exact lf_no Iff.rfl (fun h => by rw [csl_far e9, rv_f rv (by omega)] at h; omega)) | exact lf_no Iff.rfl (fun h => by have := h.1; omega) | (rw [csl_near (by omega), rv_n rv (by omega)]; omega) | (rw [csl_far (by omega), rv_f rv (by omega)]; omega))⟩
      ·
        replace c4 := ti_leN (a := x2) (b := x1) c4 rfl rfl
        refine ok_chk r_x0 ?_
        obtain ⟨b11, p_b11, k_b11, n_b11⟩ := T_0_0 hT r_x0
        refine ok_calR p_b11 ?_
        refine ok_bnd (fun v12 e14 => ?_)
        have t_v12 : v12.toInt = x1.toInt + 1 := ti_add e14 rfl (show (1 : Int32).toInt = 1 from rfl) (by omega) (by omega)
        refine ok_chk k_b11 ?_
        refine ok_chk (ti_inN (v := v12) (n := 64) n_b11 (by omega) (by omega)) ?_
        refine ok_bnd (fun v13 e15 => ?_)
        have u_v13 : v13.toInt = mCb S x0 v12.toInt := mB_at (x := v12) p_b11 e15 (by omega) (by omega)
        have w_v13 := q2 (v12.toInt)
        have n13 : mCb S x0 (x1.toInt + 1) = v13.toInt := by rw [u_v13, t_v12]
        refine ok_if (fun c16 => ?_) (fun c16 => ?_)
        ·
          replace c16 := ti_eqP (a := v13) (b := (0 : Int32)) c16 rfl (show (0 : Int32).toInt = 0 from rfl)
          refine ok_chk r_x0 ?_
          obtain ⟨b14, p_b14, k_b14, n_b14⟩ := T_0_0 hT r_x0
          refine ok_calR p_b14 ?_
          refine ok_bnd (fun v15 e17 => ?_)
          have t_v15 : v15.toInt = x1.toInt + 2 := ti_add e17 rfl (show (2 : Int32).toInt = 2 from rfl) (by omega) (by omega)
          refine ok_chk k_b14 ?_
          refine ok_chk (ti_inN (v := v15) (n := 64) n_b14 (by omega) (by omega)) ?_
          refine ok_bnd (fun v16 e18 => ?_)
          have u_v16 : v16.toInt = mCb S x0 v15.toInt := mB_at (x := v15) p_b14 e18 (by omega) (by omega)
          have w_v16 := q2 (v15.toInt)
          have n16 : mCb S x0 (x1.toInt + 2) = v16.toInt := by rw [u_v16, t_v15]
          refine ok_if (fun c19 => ?_) (fun c19 => ?_)
          ·
            replace c19 := ti_eqP (a := v16) (b := (0 : Int32)) c19 rfl (show (0 : Int32).toInt = 0 from rfl)
            unfold f_X0_castlingIsOpen_84
            refine ok_chk (by decide) ?_
            exact ok_ret ⟨rfl, (show (0 : Int) ≤ (1 : Int32).toInt ∧ (1 : Int32).toInt ≤ (1 : Int) from (by decide)), (by show ((1 : Int32).toInt = 1 ↔ csl (mCb S x0) (zI S 3 x0).toInt (zI S 4 x0).toInt x1.toInt x2.toInt); have z0 : (0 : Int32).toInt = 0 := rfl; have z1 : (1 : Int32).toInt = 1 := rfl; have z2 : (-1 : Int32).toInt = -1 := rfl; first | (rcases q0 with e9 | e9; exact lf_no Iff.rfl (fun h => by rw [csl_near e9, rv_n rv (by omega)] at h; omega); exact lf_no Iff.rfl (fun h => by rw [csl_far e9, rv_f rv (by omega)] at h; omega)) | exact lf_no Iff.rfl (fun h => by have := h.1; omega) | (rw [csl_near (by omega), rv_n rv (by omega)]; omega) | (rw [csl_far (by omega), rv_f rv (by omega)]; omega))⟩
          ·
            replace c19 := ti_eqN (a := v16) (b := (0 : Int32)) c19 rfl (show (0 : Int32).toInt = 0 from rfl)
            unfold f_X0_castlingIsOpen_83
            unfold f_X0_castlingIsOpen_84
            refine ok_chk (by decide) ?_
            exact ok_ret ⟨rfl, (show (0 : Int) ≤ (0 : Int32).toInt ∧ (0 : Int32).toInt ≤ (1 : Int) from (by decide)), (by show ((0 : Int32).toInt = 1 ↔ csl (mCb S x0) (zI S 3 x0).toInt (zI S 4 x0).toInt x1.toInt x2.toInt); have z0 : (0 : Int32).toInt = 0 := rfl; have z1 : (1 : Int32).toInt = 1 := rfl; have z2 : (-1 : Int32).toInt = -1 := rfl; first | (rcases q0 with e9 | e9; exact lf_no Iff.rfl (fun h => by rw [csl_near e9, rv_n rv (by omega)] at h; omega); exact lf_no Iff.rfl (fun h => by rw [csl_far e9, rv_f rv (by omega)] at h; omega)) | exact lf_no Iff.rfl (fun h => by have := h.1; omega) | (rw [csl_near (by omega), rv_n rv (by omega)]; omega) | (rw [csl_far (by omega), rv_f rv (by omega)]; omega))⟩
        ·
          replace c16 := ti_eqN (a := v13) (b := (0 : Int32)) c16 rfl (show (0 : Int32).toInt = 0 from rfl)
          unfold f_X0_castlingIsOpen_83
          unfold f_X0_castlingIsOpen_84
          refine ok_chk (by decide) ?_
          exact ok_ret ⟨rfl, (show (0 : Int) ≤ (0 : Int32).toInt ∧ (0 : Int32).toInt ≤ (1 : Int) from (by decide)), (by show ((0 : Int32).toInt = 1 ↔ csl (mCb S x0) (zI S 3 x0).toInt (zI S 4 x0).toInt x1.toInt x2.toInt); have z0 : (0 : Int32).toInt = 0 := rfl; have z1 : (1 : Int32).toInt = 1 := rfl; have z2 : (-1 : Int32).toInt = -1 := rfl; first | (rcases q0 with e9 | e9; exact lf_no Iff.rfl (fun h => by rw [csl_near e9, rv_n rv (by omega)] at h; omega); exact lf_no Iff.rfl (fun h => by rw [csl_far e9, rv_f rv (by omega)] at h; omega)) | exact lf_no Iff.rfl (fun h => by have := h.1; omega) | (rw [csl_near (by omega), rv_n rv (by omega)]; omega) | (rw [csl_far (by omega), rv_f rv (by omega)]; omega))⟩
  ·
    replace c1 := ti_eqN (a := t1) (b := t0) c1 rfl rfl
    unfold f_X0_castlingIsOpen_50
    refine ok_chk (by decide) ?_
    exact ok_ret ⟨rfl, (show (0 : Int) ≤ (0 : Int32).toInt ∧ (0 : Int32).toInt ≤ (1 : Int) from (by decide)), (by show ((0 : Int32).toInt = 1 ↔ csl (mCb S x0) (zI S 3 x0).toInt (zI S 4 x0).toInt x1.toInt x2.toInt); have z0 : (0 : Int32).toInt = 0 := rfl; have z1 : (1 : Int32).toInt = 1 := rfl; have z2 : (-1 : Int32).toInt = -1 := rfl; first | (rcases q0 with e9 | e9; exact lf_no Iff.rfl (fun h => by rw [csl_near e9, rv_n rv (by omega)] at h; omega); exact lf_no Iff.rfl (fun h => by rw [csl_far e9, rv_f rv (by omega)] at h; omega)) | exact lf_no Iff.rfl (fun h => by have := h.1; omega) | (rw [csl_near (by omega), rv_n rv (by omega)]; omega) | (rw [csl_far (by omega), rv_f rv (by omega)]; omega))⟩
theorem x_f_X0_castlingIsOpen_22 {S : ZS} {x0 : Nat} {x1 : Int32} {x2 : Int32} {t0 : Int32} {t1 : Int32} (hT : ZT S) (r_x0 : zK S x0 = 0) (r_x1 : (0 : Int) ≤ x1.toInt ∧ x1.toInt ≤ (63 : Int)) (r_x2 : (0 : Int) ≤ x2.toInt ∧ x2.toInt ≤ (63 : Int)) (r_t0 : (0 : Int) ≤ t0.toInt ∧ t0.toInt ≤ (2 : Int)) (r_t1 : (1 : Int) ≤ t1.toInt ∧ t1.toInt ≤ (2 : Int)) (q0 : x2.toInt = x1.toInt + 2 ∨ x2.toInt = x1.toInt - 2) (q1 : MBd (mCb S x0)) (q2 : 0 ≤ (zI S 4 x0).toInt ∧ (zI S 4 x0).toInt ≤ 15) (q3 : (t1.toInt = 1 ∧ x1.toInt < x2.toInt) ∨ (t1.toInt = 2 ∧ x2.toInt < x1.toInt)) (q4 : t0.toInt = 2 * (zI S 3 x0).toInt) : Ok (f_X0_castlingIsOpen_22 x0 x1 x2 t0 t1 S) (fun o => o.2 = S ∧ ((0 : Int) ≤ o.1.toInt ∧ o.1.toInt ≤ (1 : Int)) ∧ ((o.1.toInt = 1 ↔ csl (mCb S x0) (zI S 3 x0).toInt (zI S 4 x0).toInt x1.toInt x2.toInt))) := by
  unfold f_X0_castlingIsOpen_22
  refine ok_bnd (fun v1 e20 => ?_)
  refine ok_chk r_x0 ?_
  have j21 := J_0_3 hT r_x0
  refine ok_if (fun c22 => ?_) (fun c22 => ?_)
  ·
    replace c22 := ti_eqP (a := (zI S 3 x0)) (b := (0 : Int32)) c22 rfl (show (0 : Int32).toInt = 0 from rfl)
    exact x_f_X0_castlingIsOpen_38 (S := S)  (x0 := x0) (x1 := x1) (x2 := x2) (x3 := v1) (t0 := (4 : Int32)) (t1 := x1) hT r_x0 r_x1 r_x2 (by decide) q0 (by have z0 : (4 : Int32).toInt = 4 := rfl; omega) q1 q2 (by have z0 : (4 : Int32).toInt = 4 := rfl; omega) (and_rb rfl q2 (shl_v (n := if x1.toInt < x2.toInt then 0 else 1) e20 (by omega) (by omega) (by omega)))
  ·
    replace c22 := ti_eqN (a := (zI S 3 x0)) (b := (0 : Int32)) c22 rfl (show (0 : Int32).toInt = 0 from rfl)
    exact x_f_X0_castlingIsOpen_38 (S := S)  (x0 := x0) (x1 := x1) (x2 := x2) (x3 := v1) (t0 := (60 : Int32)) (t1 := x1) hT r_x0 r_x1 r_x2 (by decide) q0 (by have z0 : (60 : Int32).toInt = 60 := rfl; omega) q1 q2 (by have z0 : (60 : Int32).toInt = 60 := rfl; omega) (and_rb rfl q2 (shl_v (n := if x1.toInt < x2.toInt then 0 else 1) e20 (by omega) (by omega) (by omega)))
theorem x_f_X0_castlingIsOpen_10 {S : ZS} {x0 : Nat} {x1 : Int32} {x2 : Int32} {t0 : Int32} (hT : ZT S) (r_x0 : zK S x0 = 0) (r_x1 : (0 : Int) ≤ x1.toInt ∧ x1.toInt ≤ (63 : Int)) (r_x2 : (0 : Int) ≤ x2.toInt ∧ x2.toInt ≤ (63 : Int)) (r_t0 : (1 : Int) ≤ t0.toInt ∧ t0.toInt ≤ (2 : Int)) (q0 : x2.toInt = x1.toInt + 2 ∨ x2.toInt = x1.toInt - 2) (q1 : MBd (mCb S x0)) (q2 : 0 ≤ (zI S 4 x0).toInt ∧ (zI S 4 x0).toInt ≤ 15) (q3 : (t0.toInt = 1 ∧ x1.toInt < x2.toInt) ∨ (t0.toInt = 2 ∧ x2.toInt < x1.toInt)) : Ok (f_X0_castlingIsOpen_10 x0 x1 x2 t0 S) (fun o => o.2 = S ∧ ((0 : Int) ≤ o.1.toInt ∧ o.1.toInt ≤ (1 : Int)) ∧ ((o.1.toInt = 1 ↔ csl (mCb S x0) (zI S 3 x0).toInt (zI S 4 x0).toInt x1.toInt x2.toInt))) := by
  unfold f_X0_castlingIsOpen_10
  refine ok_chk r_x0 ?_
  have j23 := J_0_3 hT r_x0
  refine ok_if (fun c24 => ?_) (fun c24 => ?_)
  ·
    replace c24 := ti_eqP (a := (zI S 3 x0)) (b := (0 : Int32)) c24 rfl (show (0 : Int32).toInt = 0 from rfl)
    exact x_f_X0_castlingIsOpen_22 (S := S)  (x0 := x0) (x1 := x1) (x2 := x2) (t0 := (0 : Int32)) (t1 := t0) hT r_x0 r_x1 r_x2 (by decide) r_t0 q0 q1 q2 q3 (by have z0 : (0 : Int32).toInt = 0 := rfl; omega)
  ·
    replace c24 := ti_eqN (a := (zI S 3 x0)) (b := (0 : Int32)) c24 rfl (show (0 : Int32).toInt = 0 from rfl)
    exact x_f_X0_castlingIsOpen_22 (S := S)  (x0 := x0) (x1 := x1) (x2 := x2) (t0 := (2 : Int32)) (t1 := t0) hT r_x0 r_x1 r_x2 (by decide) r_t0 q0 q1 q2 q3 (by have z0 : (2 : Int32).toInt = 2 := rfl; omega)
theorem x_f_X0_castlingIsOpen_0 {S : ZS} {x0 : Nat} {x1 : Int32} {x2 : Int32} (hT : ZT S) (r_x0 : zK S x0 = 0) (r_x1 : (0 : Int) ≤ x1.toInt ∧ x1.toInt ≤ (63 : Int)) (r_x2 : (0 : Int) ≤ x2.toInt ∧ x2.toInt ≤ (63 : Int)) (q0 : x2.toInt = x1.toInt + 2 ∨ x2.toInt = x1.toInt - 2) (q1 : MBd (mCb S x0)) (q2 : 0 ≤ (zI S 4 x0).toInt ∧ (zI S 4 x0).toInt ≤ 15) : Ok (f_X0_castlingIsOpen_0 x0 x1 x2 S) (fun o => o.2 = S ∧ ((0 : Int) ≤ o.1.toInt ∧ o.1.toInt ≤ (1 : Int)) ∧ ((o.1.toInt = 1 ↔ csl (mCb S x0) (zI S 3 x0).toInt (zI S 4 x0).toInt x1.toInt x2.toInt))) := by
  unfold f_X0_castlingIsOpen_0
  refine ok_if (fun c25 => ?_) (fun c25 => ?_)
  ·
    replace c25 := ti_leP (a := x2) (b := x1) c25 rfl rfl
    exact x_f_X0_castlingIsOpen_10 (S := S)  (x0 := x0) (x1 := x1) (x2 := x2) (t0 := (2 : Int32)) hT r_x0 r_x1 r_x2 (by decide) q0 q1 q2 (by have z0 : (2 : Int32).toInt = 2 := rfl; omega)
  ·
    replace c25 := ti_leN (a := x2) (b := x1) c25 rfl rfl
    exact x_f_X0_castlingIsOpen_10 (S := S)  (x0 := x0) (x1 := x1) (x2 := x2) (t0 := (1 : Int32)) hT r_x0 r_x1 r_x2 (by decide) q0 q1 q2 (by have z0 : (1 : Int32).toInt = 1 := rfl; omega)
theorem x_f_X0_castlingIsOpen {S : ZS} {x0 : Nat} {x1 : Int32} {x2 : Int32} (hT : ZT S) (r_x0 : zK S x0 = 0) (r_x1 : (0 : Int) ≤ x1.toInt ∧ x1.toInt ≤ (63 : Int)) (r_x2 : (0 : Int) ≤ x2.toInt ∧ x2.toInt ≤ (63 : Int)) (q0 : x2.toInt = x1.toInt + 2 ∨ x2.toInt = x1.toInt - 2) (q1 : MBd (mCb S x0)) (q2 : 0 ≤ (zI S 4 x0).toInt ∧ (zI S 4 x0).toInt ≤ 15) : Ok (f_X0_castlingIsOpen x0 x1 x2 S) (fun o => o.2 = S ∧ ((0 : Int) ≤ o.1.toInt ∧ o.1.toInt ≤ (1 : Int)) ∧ ((o.1.toInt = 1 ↔ csl (mCb S x0) (zI S 3 x0).toInt (zI S 4 x0).toInt x1.toInt x2.toInt))) := x_f_X0_castlingIsOpen_0 hT r_x0 r_x1 r_x2 q0 q1 q2
theorem x_f_X0_reaches_47 {S : ZS} {x0 : Nat} {x1 : Int32} {x2 : Int32} (hT : ZT S) (r_x0 : zK S x0 = 0) (r_x1 : (0 : Int) ≤ x1.toInt ∧ x1.toInt ≤ (63 : Int)) (r_x2 : (0 : Int) ≤ x2.toInt ∧ x2.toInt ≤ (63 : Int)) (q0 : MBd (mCb S x0)) (q1 : 0 ≤ (zI S 4 x0).toInt ∧ (zI S 4 x0).toInt ≤ 15) (q2 : mCb S x0 x1.toInt ≠ 0 ∧ mCb S x0 x1.toInt / 8 = (zI S 3 x0).toInt) (q3 : ¬ (mCb S x0 x2.toInt ≠ 0 ∧ mCb S x0 x2.toInt / 8 = (zI S 3 x0).toInt)) : Ok (f_X0_reaches_47 x0 x1 x2 S) (fun o => o.2 = S ∧ ((0 : Int) ≤ o.1.toInt ∧ o.1.toInt ≤ (1 : Int)) ∧ ((o.1.toInt = 1 ↔ rch (mCb S x0) (zI S 3 x0).toInt (zI S 4 x0).toInt (zI S 5 x0).toInt x1.toInt x2.toInt))) := by
  unfold f_X0_reaches_47
  refine ok_chk r_x0 ?_
  obtain ⟨r1, h_r1, p_r1⟩ := roz (x_f_X0_kindAt (x0 := x0) (x1 := x1) hT r_x0 r_x1 q0)
  dsimp only at p_r1
  refine ok_calR h_r1 ?_
  have k1 : mCb S x0 x1.toInt % 8 = r1.toInt := by have := p_r1.2; omega
  refine ok_if (fun c1 => ?_) (fun c1 => ?_)
  ·
    replace c1 := ti_eqP (a := r1) (b := (1 : Int32)) c1 rfl (show (1 : Int32).toInt = 1 from rfl)
    refine ok_chk r_x0 ?_
    have j2 := J_0_3 hT r_x0
    obtain ⟨r5, h_r5, p_r5⟩ := roz (x_f_X0_pawnReaches (x0 := x0) (x1 := x1) (x2 := x2) hT r_x0 r_x1 r_x2 q0 (by omega) q3)
    dsimp only at p_r5
    refine ok_calR h_r5 ?_
    refine ok_chk (nar_b (v := r5) (by omega) (by omega)) ?_
    exact ok_ret ⟨rfl, (show (0 : Int) ≤ r5.toInt ∧ r5.toInt ≤ (1 : Int) from (by omega)), (by show (r5.toInt = 1 ↔ rch (mCb S x0) (zI S 3 x0).toInt (zI S 4 x0).toInt (zI S 5 x0).toInt x1.toInt x2.toInt); exact rc_p q2 q3 (by omega) p_r5.2)⟩
  ·
    replace c1 := ti_eqN (a := r1) (b := (1 : Int32)) c1 rfl (show (1 : Int32).toInt = 1 from rfl)
    have rk := rc_k (rt := (zI S 4 x0).toInt) (ps := (zI S 5 x0).toInt) q2 q3 (by omega)
    refine ok_chk r_x0 ?_
    obtain ⟨r2, h_r2, p_r2⟩ := roz (y_f_X0_attacks (x0 := x0) (x1 := x1) (x2 := x2) hT r_x0 r_x1 r_x2 q0)
    dsimp only at p_r2
    refine ok_calR h_r2 ?_
    refine ok_if (fun c3 => ?_) (fun c3 => ?_)
    ·
      replace c3 := ti_eqP (a := r2) (b := (0 : Int32)) c3 rfl (show (0 : Int32).toInt = 0 from rfl)
      refine ok_chk r_x0 ?_
      obtain ⟨r3, h_r3, p_r3⟩ := roz (x_f_X0_castles (x0 := x0) (x1 := x1) (x2 := x2) hT r_x0 r_x1 r_x2 q0)
      dsimp only at p_r3
      refine ok_calR h_r3 ?_
      refine ok_if (fun c4 => ?_) (fun c4 => ?_)
      ·
        replace c4 := ti_eqP (a := r3) (b := (0 : Int32)) c4 rfl (show (0 : Int32).toInt = 0 from rfl)
        unfold f_X0_reaches_94
        unfold f_X0_reaches_95
        refine ok_chk (by decide) ?_
        exact ok_ret ⟨rfl, (show (0 : Int) ≤ (0 : Int32).toInt ∧ (0 : Int32).toInt ≤ (1 : Int) from (by decide)), (by show ((0 : Int32).toInt = 1 ↔ rch (mCb S x0) (zI S 3 x0).toInt (zI S 4 x0).toInt (zI S 5 x0).toInt x1.toInt x2.toInt); rw [rk]; first | exact lf_ye Iff.rfl (Or.inl (p_r2.2.1 (by omega))) | exact lf_ye Iff.rfl (Or.inr ⟨p_r3.2.1 (by omega), p_r4.2.1 (by omega)⟩) | exact lf_no Iff.rfl (fun h => h.elim (fun z => by have := p_r2.2.2 z; omega) (fun z => by first | (have := p_r3.2.2 z.1; omega) | (have := p_r4.2.2 z.2; omega))))⟩
      ·
        replace c4 := ti_eqN (a := r3) (b := (0 : Int32)) c4 rfl (show (0 : Int32).toInt = 0 from rfl)
        refine ok_chk r_x0 ?_
        obtain ⟨r4, h_r4, p_r4⟩ := roz (x_f_X0_castlingIsOpen (x0 := x0) (x1 := x1) (x2 := x2) hT r_x0 r_x1 r_x2 (by have := p_r3.2.1 (by omega); unfold cas at this; omega) q0 q1)
        dsimp only at p_r4
        refine ok_calR h_r4 ?_
        refine ok_if (fun c5 => ?_) (fun c5 => ?_)
        ·
          replace c5 := ti_eqP (a := r4) (b := (0 : Int32)) c5 rfl (show (0 : Int32).toInt = 0 from rfl)
          unfold f_X0_reaches_94
          unfold f_X0_reaches_95
          refine ok_chk (by decide) ?_
          exact ok_ret ⟨rfl, (show (0 : Int) ≤ (0 : Int32).toInt ∧ (0 : Int32).toInt ≤ (1 : Int) from (by decide)), (by show ((0 : Int32).toInt = 1 ↔ rch (mCb S x0) (zI S 3 x0).toInt (zI S 4 x0).toInt (zI S 5 x0).toInt x1.toInt x2.toInt); rw [rk]; first | exact lf_ye Iff.rfl (Or.inl (p_r2.2.1 (by omega))) | exact lf_ye Iff.rfl (Or.inr ⟨p_r3.2.1 (by omega), p_r4.2.1 (by omega)⟩) | exact lf_no Iff.rfl (fun h => h.elim (fun z => by have := p_r2.2.2 z; omega) (fun z => by first | (have := p_r3.2.2 z.1; omega) | (have := p_r4.2.2 z.2; omega))))⟩
        ·
          replace c5 := ti_eqN (a := r4) (b := (0 : Int32)) c5 rfl (show (0 : Int32).toInt = 0 from rfl)
          unfold f_X0_reaches_90
          unfold f_X0_reaches_95
          refine ok_chk (by decide) ?_
          exact ok_ret ⟨rfl, (show (0 : Int) ≤ (1 : Int32).toInt ∧ (1 : Int32).toInt ≤ (1 : Int) from (by decide)), (by show ((1 : Int32).toInt = 1 ↔ rch (mCb S x0) (zI S 3 x0).toInt (zI S 4 x0).toInt (zI S 5 x0).toInt x1.toInt x2.toInt); rw [rk]; first | exact lf_ye Iff.rfl (Or.inl (p_r2.2.1 (by omega))) | exact lf_ye Iff.rfl (Or.inr ⟨p_r3.2.1 (by omega), p_r4.2.1 (by omega)⟩) | exact lf_no Iff.rfl (fun h => h.elim (fun z => by have := p_r2.2.2 z; omega) (fun z => by first | (have := p_r3.2.2 z.1; omega) | (have := p_r4.2.2 z.2; omega))))⟩
    ·
      replace c3 := ti_eqN (a := r2) (b := (0 : Int32)) c3 rfl (show (0 : Int32).toInt = 0 from rfl)
      unfold f_X0_reaches_90
      unfold f_X0_reaches_95
      refine ok_chk (by decide) ?_
      exact ok_ret ⟨rfl, (show (0 : Int) ≤ (1 : Int32).toInt ∧ (1 : Int32).toInt ≤ (1 : Int) from (by decide)), (by show ((1 : Int32).toInt = 1 ↔ rch (mCb S x0) (zI S 3 x0).toInt (zI S 4 x0).toInt (zI S 5 x0).toInt x1.toInt x2.toInt); rw [rk]; first | exact lf_ye Iff.rfl (Or.inl (p_r2.2.1 (by omega))) | exact lf_ye Iff.rfl (Or.inr ⟨p_r3.2.1 (by omega), p_r4.2.1 (by omega)⟩) | exact lf_no Iff.rfl (fun h => h.elim (fun z => by have := p_r2.2.2 z; omega) (fun z => by first | (have := p_r3.2.2 z.1; omega) | (have := p_r4.2.2 z.2; omega))))⟩
theorem x_f_X0_reaches_0 {S : ZS} {x0 : Nat} {x1 : Int32} {x2 : Int32} (hT : ZT S) (r_x0 : zK S x0 = 0) (r_x1 : (0 : Int) ≤ x1.toInt ∧ x1.toInt ≤ (63 : Int)) (r_x2 : (0 : Int) ≤ x2.toInt ∧ x2.toInt ≤ (63 : Int)) (q0 : MBd (mCb S x0)) (q1 : 0 ≤ (zI S 4 x0).toInt ∧ (zI S 4 x0).toInt ≤ 15) : Ok (f_X0_reaches_0 x0 x1 x2 S) (fun o => o.2 = S ∧ ((0 : Int) ≤ o.1.toInt ∧ o.1.toInt ≤ (1 : Int)) ∧ ((o.1.toInt = 1 ↔ rch (mCb S x0) (zI S 3 x0).toInt (zI S 4 x0).toInt (zI S 5 x0).toInt x1.toInt x2.toInt))) := by
  unfold f_X0_reaches_0
  refine ok_chk r_x0 ?_
  obtain ⟨b1, p_b1, k_b1, n_b1⟩ := T_0_0 hT r_x0
  refine ok_calR p_b1 ?_
  refine ok_chk k_b1 ?_
  refine ok_chk (ti_inN (v := x1) (n := 64) n_b1 (by omega) (by omega)) ?_
  refine ok_bnd (fun v2 e6 => ?_)
  have u_v2 : v2.toInt = mCb S x0 x1.toInt := mB_at (x := x1) p_b1 e6 (by omega) (by omega)
  have w_v2 := q0 (x1.toInt)
  refine ok_if (fun c7 => ?_) (fun c7 => ?_)
  ·
    replace c7 := ti_eqP (a := v2) (b := (0 : Int32)) c7 rfl (show (0 : Int32).toInt = 0 from rfl)
    unfold f_X0_reaches_45
    refine ok_chk (by decide) ?_
    exact ok_ret ⟨rfl, (show (0 : Int) ≤ (0 : Int32).toInt ∧ (0 : Int32).toInt ≤ (1 : Int) from (by decide)), (by show ((0 : Int32).toInt = 1 ↔ rch (mCb S x0) (zI S 3 x0).toInt (zI S 4 x0).toInt (zI S 5 x0).toInt x1.toInt x2.toInt); first | exact rc_1 u_v2 (by omega) | exact rc_2 u_v5 (by omega))⟩
  ·
    replace c7 := ti_eqN (a := v2) (b := (0 : Int32)) c7 rfl (show (0 : Int32).toInt = 0 from rfl)
    refine ok_bnd (fun v3 e8 => ?_)
    have t_v3 : v3.toInt = v2.toInt / 8 := b_sh3 e8 (by omega)
    refine ok_chk r_x0 ?_
    have j9 := J_0_3 hT r_x0
    refine ok_if (fun c10 => ?_) (fun c10 => ?_)
    ·
      replace c10 := ti_eqP (a := v3) (b := (zI S 3 x0)) c10 rfl rfl
      refine ok_chk r_x0 ?_
      obtain ⟨b4, p_b4, k_b4, n_b4⟩ := T_0_0 hT r_x0
      refine ok_calR p_b4 ?_
      refine ok_chk k_b4 ?_
      refine ok_chk (ti_inN (v := x2) (n := 64) n_b4 (by omega) (by omega)) ?_
      refine ok_bnd (fun v5 e11 => ?_)
      have u_v5 : v5.toInt = mCb S x0 x2.toInt := mB_at (x := x2) p_b4 e11 (by omega) (by omega)
      have w_v5 := q0 (x2.toInt)
      refine ok_if (fun c12 => ?_) (fun c12 => ?_)
      ·
        replace c12 := ti_eqP (a := v5) (b := (0 : Int32)) c12 rfl (show (0 : Int32).toInt = 0 from rfl)
        exact x_f_X0_reaches_47 (S := S)  (x0 := x0) (x1 := x1) (x2 := x2) hT r_x0 r_x1 r_x2 q0 q1 (by omega) (by omega)
      ·
        replace c12 := ti_eqN (a := v5) (b := (0 : Int32)) c12 rfl (show (0 : Int32).toInt = 0 from rfl)
        refine ok_chk r_x0 ?_
        obtain ⟨b6, p_b6, k_b6, n_b6⟩ := T_0_0 hT r_x0
        refine ok_calR p_b6 ?_
        refine ok_chk k_b6 ?_
        refine ok_chk (ti_inN (v := x2) (n := 64) n_b6 (by omega) (by omega)) ?_
        refine ok_bnd (fun v7 e13 => ?_)
        have u_v7 : v7.toInt = mCb S x0 x2.toInt := mB_at (x := x2) p_b6 e13 (by omega) (by omega)
        have w_v7 := q0 (x2.toInt)
        refine ok_bnd (fun v8 e14 => ?_)
        have t_v8 : v8.toInt = v7.toInt / 8 := b_sh3 e14 (by omega)
        refine ok_chk r_x0 ?_
        refine ok_if (fun c15 => ?_) (fun c15 => ?_)
        ·
          replace c15 := ti_eqP (a := v8) (b := (zI S 3 x0)) c15 rfl rfl
          unfold f_X0_reaches_45
          refine ok_chk (by decide) ?_
          exact ok_ret ⟨rfl, (show (0 : Int) ≤ (0 : Int32).toInt ∧ (0 : Int32).toInt ≤ (1 : Int) from (by decide)), (by show ((0 : Int32).toInt = 1 ↔ rch (mCb S x0) (zI S 3 x0).toInt (zI S 4 x0).toInt (zI S 5 x0).toInt x1.toInt x2.toInt); first | exact rc_1 u_v2 (by omega) | exact rc_2 u_v5 (by omega))⟩
        ·
          replace c15 := ti_eqN (a := v8) (b := (zI S 3 x0)) c15 rfl rfl
          exact x_f_X0_reaches_47 (S := S)  (x0 := x0) (x1 := x1) (x2 := x2) hT r_x0 r_x1 r_x2 q0 q1 (by omega) (by omega)
    ·
      replace c10 := ti_eqN (a := v3) (b := (zI S 3 x0)) c10 rfl rfl
      unfold f_X0_reaches_45
      refine ok_chk (by decide) ?_
      exact ok_ret ⟨rfl, (show (0 : Int) ≤ (0 : Int32).toInt ∧ (0 : Int32).toInt ≤ (1 : Int) from (by decide)), (by show ((0 : Int32).toInt = 1 ↔ rch (mCb S x0) (zI S 3 x0).toInt (zI S 4 x0).toInt (zI S 5 x0).toInt x1.toInt x2.toInt); first | exact rc_1 u_v2 (by omega) | exact rc_2 u_v5 (by omega))⟩
theorem x_f_X0_reaches {S : ZS} {x0 : Nat} {x1 : Int32} {x2 : Int32} (hT : ZT S) (r_x0 : zK S x0 = 0) (r_x1 : (0 : Int) ≤ x1.toInt ∧ x1.toInt ≤ (63 : Int)) (r_x2 : (0 : Int) ≤ x2.toInt ∧ x2.toInt ≤ (63 : Int)) (q0 : MBd (mCb S x0)) (q1 : 0 ≤ (zI S 4 x0).toInt ∧ (zI S 4 x0).toInt ≤ 15) : Ok (f_X0_reaches x0 x1 x2 S) (fun o => o.2 = S ∧ ((0 : Int) ≤ o.1.toInt ∧ o.1.toInt ≤ (1 : Int)) ∧ ((o.1.toInt = 1 ↔ rch (mCb S x0) (zI S 3 x0).toInt (zI S 4 x0).toInt (zI S 5 x0).toInt x1.toInt x2.toInt))) := x_f_X0_reaches_0 hT r_x0 r_x1 r_x2 q0 q1
theorem x_f_X0_takes_0 {S : ZS} {x0 : Nat} {x1 : Int32} {x2 : Int32} (hT : ZT S) (r_x0 : zK S x0 = 0) (r_x1 : (0 : Int) ≤ x1.toInt ∧ x1.toInt ≤ (63 : Int)) (r_x2 : (0 : Int) ≤ x2.toInt ∧ x2.toInt ≤ (63 : Int)) (q0 : MBd (mCb S x0)) : Ok (f_X0_takes_0 x0 x1 x2 S) (fun o => o.2 = S ∧ ((0 : Int) ≤ o.1.toInt ∧ o.1.toInt ≤ (1 : Int)) ∧ ((o.1.toInt = 1 ↔ tkg (mCb S x0) x1.toInt x2.toInt))) := by
  unfold f_X0_takes_0
  refine ok_chk r_x0 ?_
  obtain ⟨b1, p_b1, k_b1, n_b1⟩ := T_0_0 hT r_x0
  refine ok_calR p_b1 ?_
  refine ok_chk k_b1 ?_
  refine ok_chk (ti_inN (v := x2) (n := 64) n_b1 (by omega) (by omega)) ?_
  refine ok_bnd (fun v2 e1 => ?_)
  have u_v2 : v2.toInt = mCb S x0 x2.toInt := mB_at (x := x2) p_b1 e1 (by omega) (by omega)
  have w_v2 := q0 (x2.toInt)
  refine ok_if (fun c2 => ?_) (fun c2 => ?_)
  ·
    replace c2 := ti_eqP (a := v2) (b := (0 : Int32)) c2 rfl (show (0 : Int32).toInt = 0 from rfl)
    refine ok_chk r_x0 ?_
    obtain ⟨r3, h_r3, p_r3⟩ := roz (x_f_X0_kindAt (x0 := x0) (x1 := x1) hT r_x0 r_x1 q0)
    dsimp only at p_r3
    refine ok_calR h_r3 ?_
    refine ok_if (fun c3 => ?_) (fun c3 => ?_)
    ·
      replace c3 := ti_eqP (a := r3) (b := (1 : Int32)) c3 rfl (show (1 : Int32).toInt = 1 from rfl)
      refine ok_bnd (fun v4 e4 => ?_)
      have t_v4 : v4.toInt = x1.toInt % 8 := b_and7 e4 (by omega)
      refine ok_bnd (fun v5 e5 => ?_)
      have t_v5 : v5.toInt = x2.toInt % 8 := b_and7 e5 (by omega)
      refine ok_if (fun c6 => ?_) (fun c6 => ?_)
      ·
        replace c6 := ti_eqP (a := v4) (b := v5) c6 rfl rfl
        unfold f_X0_takes_33
        unfold f_X0_takes_34
        refine ok_chk (by decide) ?_
        exact ok_ret ⟨rfl, (show (0 : Int) ≤ (0 : Int32).toInt ∧ (0 : Int32).toInt ≤ (1 : Int) from (by decide)), (by show ((0 : Int32).toInt = 1 ↔ tkg (mCb S x0) x1.toInt x2.toInt); have z0 : (0 : Int32).toInt = 0 := rfl; have z1 : (1 : Int32).toInt = 1 := rfl; have z2 : (-1 : Int32).toInt = -1 := rfl; unfold tkg; omega)⟩
      ·
        replace c6 := ti_eqN (a := v4) (b := v5) c6 rfl rfl
        unfold f_X0_takes_29
        unfold f_X0_takes_34
        refine ok_chk (by decide) ?_
        exact ok_ret ⟨rfl, (show (0 : Int) ≤ (1 : Int32).toInt ∧ (1 : Int32).toInt ≤ (1 : Int) from (by decide)), (by show ((1 : Int32).toInt = 1 ↔ tkg (mCb S x0) x1.toInt x2.toInt); have z0 : (0 : Int32).toInt = 0 := rfl; have z1 : (1 : Int32).toInt = 1 := rfl; have z2 : (-1 : Int32).toInt = -1 := rfl; unfold tkg; omega)⟩
    ·
      replace c3 := ti_eqN (a := r3) (b := (1 : Int32)) c3 rfl (show (1 : Int32).toInt = 1 from rfl)
      unfold f_X0_takes_33
      unfold f_X0_takes_34
      refine ok_chk (by decide) ?_
      exact ok_ret ⟨rfl, (show (0 : Int) ≤ (0 : Int32).toInt ∧ (0 : Int32).toInt ≤ (1 : Int) from (by decide)), (by show ((0 : Int32).toInt = 1 ↔ tkg (mCb S x0) x1.toInt x2.toInt); have z0 : (0 : Int32).toInt = 0 := rfl; have z1 : (1 : Int32).toInt = 1 := rfl; have z2 : (-1 : Int32).toInt = -1 := rfl; unfold tkg; omega)⟩
  ·
    replace c2 := ti_eqN (a := v2) (b := (0 : Int32)) c2 rfl (show (0 : Int32).toInt = 0 from rfl)
    unfold f_X0_takes_29
    unfold f_X0_takes_34
    refine ok_chk (by decide) ?_
    exact ok_ret ⟨rfl, (show (0 : Int) ≤ (1 : Int32).toInt ∧ (1 : Int32).toInt ≤ (1 : Int) from (by decide)), (by show ((1 : Int32).toInt = 1 ↔ tkg (mCb S x0) x1.toInt x2.toInt); have z0 : (0 : Int32).toInt = 0 := rfl; have z1 : (1 : Int32).toInt = 1 := rfl; have z2 : (-1 : Int32).toInt = -1 := rfl; unfold tkg; omega)⟩
theorem x_f_X0_takes {S : ZS} {x0 : Nat} {x1 : Int32} {x2 : Int32} (hT : ZT S) (r_x0 : zK S x0 = 0) (r_x1 : (0 : Int) ≤ x1.toInt ∧ x1.toInt ≤ (63 : Int)) (r_x2 : (0 : Int) ≤ x2.toInt ∧ x2.toInt ≤ (63 : Int)) (q0 : MBd (mCb S x0)) : Ok (f_X0_takes x0 x1 x2 S) (fun o => o.2 = S ∧ ((0 : Int) ≤ o.1.toInt ∧ o.1.toInt ≤ (1 : Int)) ∧ ((o.1.toInt = 1 ↔ tkg (mCb S x0) x1.toInt x2.toInt))) := x_f_X0_takes_0 hT r_x0 r_x1 r_x2 q0
theorem x_f_X0_becomesAnother_0 {S : ZS} {x0 : Nat} {x1 : Int32} {x2 : Int32} (hT : ZT S) (r_x0 : zK S x0 = 0) (r_x1 : (0 : Int) ≤ x1.toInt ∧ x1.toInt ≤ (63 : Int)) (q0 : MBd (mCb S x0)) : Ok (f_X0_becomesAnother_0 x0 x1 x2 S) (fun o => o.2 = S ∧ ((0 : Int) ≤ o.1.toInt ∧ o.1.toInt ≤ (1 : Int)) ∧ ((o.1.toInt = 1 ↔ mCb S x0 x1.toInt % 8 = 1 ∧ (x2.toInt < 8 ∨ 56 ≤ x2.toInt)))) := by
  unfold f_X0_becomesAnother_0
  refine ok_chk r_x0 ?_
  obtain ⟨r1, h_r1, p_r1⟩ := roz (x_f_X0_kindAt (x0 := x0) (x1 := x1) hT r_x0 r_x1 q0)
  dsimp only at p_r1
  refine ok_calR h_r1 ?_
  refine ok_if (fun c1 => ?_) (fun c1 => ?_)
  ·
    replace c1 := ti_eqP (a := r1) (b := (1 : Int32)) c1 rfl (show (1 : Int32).toInt = 1 from rfl)
    refine ok_if (fun c2 => ?_) (fun c2 => ?_)
    ·
      replace c2 := ti_ltP (a := x2) (b := (8 : Int32)) c2 rfl (show (8 : Int32).toInt = 8 from rfl)
      unfold f_X0_becomesAnother_21
      unfold f_X0_becomesAnother_26
      refine ok_chk (by decide) ?_
      exact ok_ret ⟨rfl, (show (0 : Int) ≤ (1 : Int32).toInt ∧ (1 : Int32).toInt ≤ (1 : Int) from (by decide)), (by show ((1 : Int32).toInt = 1 ↔ mCb S x0 x1.toInt % 8 = 1 ∧ (x2.toInt < 8 ∨ 56 ≤ x2.toInt)); have z0 : (0 : Int32).toInt = 0 := rfl; have z1 : (1 : Int32).toInt = 1 := rfl; have z2 : (-1 : Int32).toInt = -1 := rfl; omega)⟩
    ·
      replace c2 := ti_ltN (a := x2) (b := (8 : Int32)) c2 rfl (show (8 : Int32).toInt = 8 from rfl)
      refine ok_if (fun c3 => ?_) (fun c3 => ?_)
      ·
        replace c3 := ti_ltP (a := x2) (b := (56 : Int32)) c3 rfl (show (56 : Int32).toInt = 56 from rfl)
        unfold f_X0_becomesAnother_25
        unfold f_X0_becomesAnother_26
        refine ok_chk (by decide) ?_
        exact ok_ret ⟨rfl, (show (0 : Int) ≤ (0 : Int32).toInt ∧ (0 : Int32).toInt ≤ (1 : Int) from (by decide)), (by show ((0 : Int32).toInt = 1 ↔ mCb S x0 x1.toInt % 8 = 1 ∧ (x2.toInt < 8 ∨ 56 ≤ x2.toInt)); have z0 : (0 : Int32).toInt = 0 := rfl; have z1 : (1 : Int32).toInt = 1 := rfl; have z2 : (-1 : Int32).toInt = -1 := rfl; omega)⟩
      ·
        replace c3 := ti_ltN (a := x2) (b := (56 : Int32)) c3 rfl (show (56 : Int32).toInt = 56 from rfl)
        unfold f_X0_becomesAnother_21
        unfold f_X0_becomesAnother_26
        refine ok_chk (by decide) ?_
        exact ok_ret ⟨rfl, (show (0 : Int) ≤ (1 : Int32).toInt ∧ (1 : Int32).toInt ≤ (1 : Int) from (by decide)), (by show ((1 : Int32).toInt = 1 ↔ mCb S x0 x1.toInt % 8 = 1 ∧ (x2.toInt < 8 ∨ 56 ≤ x2.toInt)); have z0 : (0 : Int32).toInt = 0 := rfl; have z1 : (1 : Int32).toInt = 1 := rfl; have z2 : (-1 : Int32).toInt = -1 := rfl; omega)⟩
  ·
    replace c1 := ti_eqN (a := r1) (b := (1 : Int32)) c1 rfl (show (1 : Int32).toInt = 1 from rfl)
    unfold f_X0_becomesAnother_25
    unfold f_X0_becomesAnother_26
    refine ok_chk (by decide) ?_
    exact ok_ret ⟨rfl, (show (0 : Int) ≤ (0 : Int32).toInt ∧ (0 : Int32).toInt ≤ (1 : Int) from (by decide)), (by show ((0 : Int32).toInt = 1 ↔ mCb S x0 x1.toInt % 8 = 1 ∧ (x2.toInt < 8 ∨ 56 ≤ x2.toInt)); have z0 : (0 : Int32).toInt = 0 := rfl; have z1 : (1 : Int32).toInt = 1 := rfl; have z2 : (-1 : Int32).toInt = -1 := rfl; omega)⟩
theorem x_f_X0_becomesAnother {S : ZS} {x0 : Nat} {x1 : Int32} {x2 : Int32} (hT : ZT S) (r_x0 : zK S x0 = 0) (r_x1 : (0 : Int) ≤ x1.toInt ∧ x1.toInt ≤ (63 : Int)) (q0 : MBd (mCb S x0)) : Ok (f_X0_becomesAnother x0 x1 x2 S) (fun o => o.2 = S ∧ ((0 : Int) ≤ o.1.toInt ∧ o.1.toInt ≤ (1 : Int)) ∧ ((o.1.toInt = 1 ↔ mCb S x0 x1.toInt % 8 = 1 ∧ (x2.toInt < 8 ∨ 56 ≤ x2.toInt)))) := x_f_X0_becomesAnother_0 hT r_x0 r_x1 q0
theorem x_f_X0_pawnAttacks_57 {hh ww : Int} {S : ZS} {x0 : Nat} {x3 : Int32} {x4 : Int32} (hT : ZT S) (r_x0 : zK S x0 = 0) (r_x4 : (0 : Int) ≤ x4.toInt ∧ x4.toInt ≤ (63 : Int)) (q0 : hh = x4.toInt) (q1 : ww = x3.toInt) (q2 : ¬ (0 < hh % 8 ∧ mCb S x0 (hh - 1) = ww)) : Ok (f_X0_pawnAttacks_57 x0 x3 x4 S) (fun o => o.2 = S ∧ ((0 : Int) ≤ o.1.toInt ∧ o.1.toInt ≤ (1 : Int)) ∧ ((o.1.toInt = 1 ↔ 0 ≤ hh ∧ hh < 64 ∧ ((0 < hh % 8 ∧ mCb S x0 (hh - 1) = ww) ∨ (hh % 8 < 7 ∧ mCb S x0 (hh + 1) = ww))))) := by
  unfold f_X0_pawnAttacks_57
  refine ok_bnd (fun v1 e1 => ?_)
  have t_v1 : v1.toInt = x4.toInt % 8 := b_and7 e1 (by omega)
  refine ok_if (fun c2 => ?_) (fun c2 => ?_)
  ·
    replace c2 := ti_leP (a := (7 : Int32)) (b := v1) c2 (show (7 : Int32).toInt = 7 from rfl) rfl
    unfold f_X0_pawnAttacks_84
    unfold f_X0_pawnAttacks_85
    refine ok_chk (by decide) ?_
    exact ok_ret ⟨rfl, (show (0 : Int) ≤ (0 : Int32).toInt ∧ (0 : Int32).toInt ≤ (1 : Int) from (by decide)), (by show ((0 : Int32).toInt = 1 ↔ 0 ≤ hh ∧ hh < 64 ∧ ((0 < hh % 8 ∧ mCb S x0 (hh - 1) = ww) ∨ (hh % 8 < 7 ∧ mCb S x0 (hh + 1) = ww))); have z0 : (0 : Int32).toInt = 0 := rfl; have z1 : (1 : Int32).toInt = 1 := rfl; have z2 : (-1 : Int32).toInt = -1 := rfl; omega)⟩
  ·
    replace c2 := ti_leN (a := (7 : Int32)) (b := v1) c2 (show (7 : Int32).toInt = 7 from rfl) rfl
    refine ok_chk r_x0 ?_
    obtain ⟨b2, p_b2, k_b2, n_b2⟩ := T_0_0 hT r_x0
    refine ok_calR p_b2 ?_
    refine ok_bnd (fun v3 e3 => ?_)
    have t_v3 : v3.toInt = x4.toInt + 1 := ti_add e3 rfl (show (1 : Int32).toInt = 1 from rfl) (by omega) (by omega)
    refine ok_chk k_b2 ?_
    refine ok_chk (ti_inN (v := v3) (n := 64) n_b2 (by omega) (by omega)) ?_
    refine ok_bnd (fun v4 e4 => ?_)
    have u_v4 : v4.toInt = mCb S x0 v3.toInt := mB_at (x := v3) p_b2 e4 (by omega) (by omega)
    have n4 : mCb S x0 (hh + 1) = v4.toInt := by rw [u_v4, t_v3, q0]
    refine ok_if (fun c5 => ?_) (fun c5 => ?_)
    ·
      replace c5 := ti_eqP (a := v4) (b := x3) c5 rfl rfl
      unfold f_X0_pawnAttacks_80
      unfold f_X0_pawnAttacks_85
      refine ok_chk (by decide) ?_
      exact ok_ret ⟨rfl, (show (0 : Int) ≤ (1 : Int32).toInt ∧ (1 : Int32).toInt ≤ (1 : Int) from (by decide)), (by show ((1 : Int32).toInt = 1 ↔ 0 ≤ hh ∧ hh < 64 ∧ ((0 < hh % 8 ∧ mCb S x0 (hh - 1) = ww) ∨ (hh % 8 < 7 ∧ mCb S x0 (hh + 1) = ww))); have z0 : (0 : Int32).toInt = 0 := rfl; have z1 : (1 : Int32).toInt = 1 := rfl; have z2 : (-1 : Int32).toInt = -1 := rfl; omega)⟩
    ·
      replace c5 := ti_eqN (a := v4) (b := x3) c5 rfl rfl
      unfold f_X0_pawnAttacks_84
      unfold f_X0_pawnAttacks_85
      refine ok_chk (by decide) ?_
      exact ok_ret ⟨rfl, (show (0 : Int) ≤ (0 : Int32).toInt ∧ (0 : Int32).toInt ≤ (1 : Int) from (by decide)), (by show ((0 : Int32).toInt = 1 ↔ 0 ≤ hh ∧ hh < 64 ∧ ((0 < hh % 8 ∧ mCb S x0 (hh - 1) = ww) ∨ (hh % 8 < 7 ∧ mCb S x0 (hh + 1) = ww))); have z0 : (0 : Int32).toInt = 0 := rfl; have z1 : (1 : Int32).toInt = 1 := rfl; have z2 : (-1 : Int32).toInt = -1 := rfl; omega)⟩
theorem x_f_X0_pawnAttacks_19 {hh ww : Int} {S : ZS} {x0 : Nat} {x3 : Int32} {t0 : Int32} {t1 : Int32} (hT : ZT S) (r_x0 : zK S x0 = 0) (r_t0 : (-8 : Int) ≤ t0.toInt ∧ t0.toInt ≤ (8 : Int)) (r_t1 : (0 : Int) ≤ t1.toInt ∧ t1.toInt ≤ (63 : Int)) (q0 : hh = t1.toInt + t0.toInt) (q1 : ww = x3.toInt) : Ok (f_X0_pawnAttacks_19 x0 x3 t0 t1 S) (fun o => o.2 = S ∧ ((0 : Int) ≤ o.1.toInt ∧ o.1.toInt ≤ (1 : Int)) ∧ ((o.1.toInt = 1 ↔ 0 ≤ hh ∧ hh < 64 ∧ ((0 < hh % 8 ∧ mCb S x0 (hh - 1) = ww) ∨ (hh % 8 < 7 ∧ mCb S x0 (hh + 1) = ww))))) := by
  unfold f_X0_pawnAttacks_19
  refine ok_bnd (fun v1 e6 => ?_)
  have t_v1 : v1.toInt = t1.toInt + t0.toInt := ti_add e6 rfl rfl (by omega) (by omega)
  refine ok_if (fun c7 => ?_) (fun c7 => ?_)
  ·
    replace c7 := ti_ltP (a := v1) (b := (0 : Int32)) c7 rfl (show (0 : Int32).toInt = 0 from rfl)
    unfold f_X0_pawnAttacks_34
    refine ok_chk (by decide) ?_
    exact ok_ret ⟨rfl, (show (0 : Int) ≤ (0 : Int32).toInt ∧ (0 : Int32).toInt ≤ (1 : Int) from (by decide)), (by show ((0 : Int32).toInt = 1 ↔ 0 ≤ hh ∧ hh < 64 ∧ ((0 < hh % 8 ∧ mCb S x0 (hh - 1) = ww) ∨ (hh % 8 < 7 ∧ mCb S x0 (hh + 1) = ww))); have z0 : (0 : Int32).toInt = 0 := rfl; have z1 : (1 : Int32).toInt = 1 := rfl; have z2 : (-1 : Int32).toInt = -1 := rfl; omega)⟩
  ·
    replace c7 := ti_ltN (a := v1) (b := (0 : Int32)) c7 rfl (show (0 : Int32).toInt = 0 from rfl)
    refine ok_if (fun c8 => ?_) (fun c8 => ?_)
    ·
      replace c8 := ti_ltP (a := v1) (b := (64 : Int32)) c8 rfl (show (64 : Int32).toInt = 64 from rfl)
      refine ok_bnd (fun v2 e9 => ?_)
      have t_v2 : v2.toInt = v1.toInt % 8 := b_and7 e9 (by omega)
      refine ok_if (fun c10 => ?_) (fun c10 => ?_)
      ·
        replace c10 := ti_leP (a := v2) (b := (0 : Int32)) c10 rfl (show (0 : Int32).toInt = 0 from rfl)
        exact x_f_X0_pawnAttacks_57 (hh := hh) (ww := ww) (S := S)  (x0 := x0) (x3 := x3) (x4 := v1) hT r_x0 (by omega) (by omega) q1 (by omega)
      ·
        replace c10 := ti_leN (a := v2) (b := (0 : Int32)) c10 rfl (show (0 : Int32).toInt = 0 from rfl)
        refine ok_chk r_x0 ?_
        obtain ⟨b3, p_b3, k_b3, n_b3⟩ := T_0_0 hT r_x0
        refine ok_calR p_b3 ?_
        refine ok_bnd (fun v4 e11 => ?_)
        have t_v4 : v4.toInt = v1.toInt - 1 := ti_sub e11 rfl (show (1 : Int32).toInt = 1 from rfl) (by omega) (by omega)
        refine ok_chk k_b3 ?_
        refine ok_chk (ti_inN (v := v4) (n := 64) n_b3 (by omega) (by omega)) ?_
        refine ok_bnd (fun v5 e12 => ?_)
        have u_v5 : v5.toInt = mCb S x0 v4.toInt := mB_at (x := v4) p_b3 e12 (by omega) (by omega)
        have n5 : mCb S x0 (hh - 1) = v5.toInt := by rw [u_v5, t_v4, q0, t_v1]
        refine ok_if (fun c13 => ?_) (fun c13 => ?_)
        ·
          replace c13 := ti_eqP (a := v5) (b := x3) c13 rfl rfl
          unfold f_X0_pawnAttacks_80
          unfold f_X0_pawnAttacks_85
          refine ok_chk (by decide) ?_
          exact ok_ret ⟨rfl, (show (0 : Int) ≤ (1 : Int32).toInt ∧ (1 : Int32).toInt ≤ (1 : Int) from (by decide)), (by show ((1 : Int32).toInt = 1 ↔ 0 ≤ hh ∧ hh < 64 ∧ ((0 < hh % 8 ∧ mCb S x0 (hh - 1) = ww) ∨ (hh % 8 < 7 ∧ mCb S x0 (hh + 1) = ww))); have z0 : (0 : Int32).toInt = 0 := rfl; have z1 : (1 : Int32).toInt = 1 := rfl; have z2 : (-1 : Int32).toInt = -1 := rfl; omega)⟩
        ·
          replace c13 := ti_eqN (a := v5) (b := x3) c13 rfl rfl
          exact x_f_X0_pawnAttacks_57 (hh := hh) (ww := ww) (S := S)  (x0 := x0) (x3 := x3) (x4 := v1) hT r_x0 (by omega) (by omega) q1 (by omega)
    ·
      replace c8 := ti_ltN (a := v1) (b := (64 : Int32)) c8 rfl (show (64 : Int32).toInt = 64 from rfl)
      unfold f_X0_pawnAttacks_34
      refine ok_chk (by decide) ?_
      exact ok_ret ⟨rfl, (show (0 : Int) ≤ (0 : Int32).toInt ∧ (0 : Int32).toInt ≤ (1 : Int) from (by decide)), (by show ((0 : Int32).toInt = 1 ↔ 0 ≤ hh ∧ hh < 64 ∧ ((0 < hh % 8 ∧ mCb S x0 (hh - 1) = ww) ∨ (hh % 8 < 7 ∧ mCb S x0 (hh + 1) = ww))); have z0 : (0 : Int32).toInt = 0 := rfl; have z1 : (1 : Int32).toInt = 1 := rfl; have z2 : (-1 : Int32).toInt = -1 := rfl; omega)⟩
theorem x_f_X0_pawnAttacks_0 {hh ww : Int} {S : ZS} {x0 : Nat} {x1 : Int32} {x2 : Int32} (hT : ZT S) (r_x0 : zK S x0 = 0) (r_x1 : (0 : Int) ≤ x1.toInt ∧ x1.toInt ≤ (63 : Int)) (r_x2 : (0 : Int) ≤ x2.toInt ∧ x2.toInt ≤ (1 : Int)) (q0 : hh = x1.toInt + (16 * x2.toInt - 8)) (q1 : ww = 1 + 8 * x2.toInt) : Ok (f_X0_pawnAttacks_0 x0 x1 x2 S) (fun o => o.2 = S ∧ ((0 : Int) ≤ o.1.toInt ∧ o.1.toInt ≤ (1 : Int)) ∧ ((o.1.toInt = 1 ↔ 0 ≤ hh ∧ hh < 64 ∧ ((0 < hh % 8 ∧ mCb S x0 (hh - 1) = ww) ∨ (hh % 8 < 7 ∧ mCb S x0 (hh + 1) = ww))))) := by
  unfold f_X0_pawnAttacks_0
  refine ok_bnd (fun v1 e14 => ?_)
  have t_v1 : v1.toInt = 8 * x2.toInt := ti_mul e14 (show (8 : Int32).toInt = 8 from rfl) rfl (by omega) (by omega)
  refine ok_bnd (fun v2 e15 => ?_)
  have t_v2 : v2.toInt = 1 + v1.toInt := ti_add e15 (show (1 : Int32).toInt = 1 from rfl) rfl (by omega) (by omega)
  refine ok_if (fun c16 => ?_) (fun c16 => ?_)
  ·
    replace c16 := ti_eqP (a := x2) (b := (0 : Int32)) c16 rfl (show (0 : Int32).toInt = 0 from rfl)
    exact x_f_X0_pawnAttacks_19 (hh := hh) (ww := ww) (S := S)  (x0 := x0) (x3 := v2) (t0 := (-8 : Int32)) (t1 := x1) hT r_x0 (by decide) r_x1 (by have z0 : (-8 : Int32).toInt = -8 := rfl; omega) (by have z0 : (-8 : Int32).toInt = -8 := rfl; omega)
  ·
    replace c16 := ti_eqN (a := x2) (b := (0 : Int32)) c16 rfl (show (0 : Int32).toInt = 0 from rfl)
    exact x_f_X0_pawnAttacks_19 (hh := hh) (ww := ww) (S := S)  (x0 := x0) (x3 := v2) (t0 := (8 : Int32)) (t1 := x1) hT r_x0 (by decide) r_x1 (by have z0 : (8 : Int32).toInt = 8 := rfl; omega) (by have z0 : (8 : Int32).toInt = 8 := rfl; omega)
theorem x_f_X0_pawnAttacks {hh ww : Int} {S : ZS} {x0 : Nat} {x1 : Int32} {x2 : Int32} (hT : ZT S) (r_x0 : zK S x0 = 0) (r_x1 : (0 : Int) ≤ x1.toInt ∧ x1.toInt ≤ (63 : Int)) (r_x2 : (0 : Int) ≤ x2.toInt ∧ x2.toInt ≤ (1 : Int)) (q0 : hh = x1.toInt + (16 * x2.toInt - 8)) (q1 : ww = 1 + 8 * x2.toInt) : Ok (f_X0_pawnAttacks x0 x1 x2 S) (fun o => o.2 = S ∧ ((0 : Int) ≤ o.1.toInt ∧ o.1.toInt ≤ (1 : Int)) ∧ ((o.1.toInt = 1 ↔ 0 ≤ hh ∧ hh < 64 ∧ ((0 < hh % 8 ∧ mCb S x0 (hh - 1) = ww) ∨ (hh % 8 < 7 ∧ mCb S x0 (hh + 1) = ww))))) := x_f_X0_pawnAttacks_0 (hh := hh) (ww := ww) hT r_x0 r_x1 r_x2 q0 q1
theorem y_f_X0_pawnAttacks {S : ZS} {x0 : Nat} {x1 x2 : Int32} (hT : ZT S) (r_x0 : zK S x0 = 0) (r_x1 : (0 : Int) ≤ x1.toInt ∧ x1.toInt ≤ (63 : Int)) (r_x2 : (0 : Int) ≤ x2.toInt ∧ x2.toInt ≤ (1 : Int)) : Ok (f_X0_pawnAttacks x0 x1 x2 S) (fun o => o.2 = S ∧ ((0 : Int) ≤ o.1.toInt ∧ o.1.toInt ≤ (1 : Int)) ∧ (o.1.toInt = 1 ↔ pat (mCb S x0) x1.toInt x2.toInt)) := x_f_X0_pawnAttacks hT r_x0 r_x1 r_x2 rfl rfl
theorem x_f_X0_rightsOf_0 {S : ZS} {x0 : Int32} (hT : ZT S) : Ok (f_X0_rightsOf_0 x0 S) (fun o => o.2 = S ∧ ((0 : Int) ≤ o.1.toInt ∧ o.1.toInt ≤ (12 : Int)) ∧ (o.1 = gn x0.toInt)) := by
  unfold f_X0_rightsOf_0
  refine ok_if (fun c1 => ?_) (fun c1 => ?_)
  ·
    replace c1 := ti_eqP (a := x0) (b := (0 : Int32)) c1 rfl (show (0 : Int32).toInt = 0 from rfl)
    exact ok_ret ⟨rfl, (show (0 : Int) ≤ (2 : Int32).toInt ∧ (2 : Int32).toInt ≤ (12 : Int) from (by decide)), (by show (2 : Int32) = gn x0.toInt; first | exact (gn_4 (by omega)).symm | exact (gn_7 (by omega)).symm | exact (gn_0 (by omega)).symm | exact (gn_60 (by omega)).symm | exact (gn_63 (by omega)).symm | exact (gn_56 (by omega)).symm | exact (gn_n (by omega) (by omega) (by omega) (by omega) (by omega) (by omega)).symm)⟩
  ·
    replace c1 := ti_eqN (a := x0) (b := (0 : Int32)) c1 rfl (show (0 : Int32).toInt = 0 from rfl)
    refine ok_if (fun c2 => ?_) (fun c2 => ?_)
    ·
      replace c2 := ti_eqP (a := x0) (b := (4 : Int32)) c2 rfl (show (4 : Int32).toInt = 4 from rfl)
      exact ok_ret ⟨rfl, (show (0 : Int) ≤ (3 : Int32).toInt ∧ (3 : Int32).toInt ≤ (12 : Int) from (by decide)), (by show (3 : Int32) = gn x0.toInt; first | exact (gn_4 (by omega)).symm | exact (gn_7 (by omega)).symm | exact (gn_0 (by omega)).symm | exact (gn_60 (by omega)).symm | exact (gn_63 (by omega)).symm | exact (gn_56 (by omega)).symm | exact (gn_n (by omega) (by omega) (by omega) (by omega) (by omega) (by omega)).symm)⟩
    ·
      replace c2 := ti_eqN (a := x0) (b := (4 : Int32)) c2 rfl (show (4 : Int32).toInt = 4 from rfl)
      refine ok_if (fun c3 => ?_) (fun c3 => ?_)
      ·
        replace c3 := ti_eqP (a := x0) (b := (7 : Int32)) c3 rfl (show (7 : Int32).toInt = 7 from rfl)
        exact ok_ret ⟨rfl, (show (0 : Int) ≤ (1 : Int32).toInt ∧ (1 : Int32).toInt ≤ (12 : Int) from (by decide)), (by show (1 : Int32) = gn x0.toInt; first | exact (gn_4 (by omega)).symm | exact (gn_7 (by omega)).symm | exact (gn_0 (by omega)).symm | exact (gn_60 (by omega)).symm | exact (gn_63 (by omega)).symm | exact (gn_56 (by omega)).symm | exact (gn_n (by omega) (by omega) (by omega) (by omega) (by omega) (by omega)).symm)⟩
      ·
        replace c3 := ti_eqN (a := x0) (b := (7 : Int32)) c3 rfl (show (7 : Int32).toInt = 7 from rfl)
        refine ok_if (fun c4 => ?_) (fun c4 => ?_)
        ·
          replace c4 := ti_eqP (a := x0) (b := (56 : Int32)) c4 rfl (show (56 : Int32).toInt = 56 from rfl)
          exact ok_ret ⟨rfl, (show (0 : Int) ≤ (8 : Int32).toInt ∧ (8 : Int32).toInt ≤ (12 : Int) from (by decide)), (by show (8 : Int32) = gn x0.toInt; first | exact (gn_4 (by omega)).symm | exact (gn_7 (by omega)).symm | exact (gn_0 (by omega)).symm | exact (gn_60 (by omega)).symm | exact (gn_63 (by omega)).symm | exact (gn_56 (by omega)).symm | exact (gn_n (by omega) (by omega) (by omega) (by omega) (by omega) (by omega)).symm)⟩
        ·
          replace c4 := ti_eqN (a := x0) (b := (56 : Int32)) c4 rfl (show (56 : Int32).toInt = 56 from rfl)
          refine ok_if (fun c5 => ?_) (fun c5 => ?_)
          ·
            replace c5 := ti_eqP (a := x0) (b := (60 : Int32)) c5 rfl (show (60 : Int32).toInt = 60 from rfl)
            exact ok_ret ⟨rfl, (show (0 : Int) ≤ (12 : Int32).toInt ∧ (12 : Int32).toInt ≤ (12 : Int) from (by decide)), (by show (12 : Int32) = gn x0.toInt; first | exact (gn_4 (by omega)).symm | exact (gn_7 (by omega)).symm | exact (gn_0 (by omega)).symm | exact (gn_60 (by omega)).symm | exact (gn_63 (by omega)).symm | exact (gn_56 (by omega)).symm | exact (gn_n (by omega) (by omega) (by omega) (by omega) (by omega) (by omega)).symm)⟩
          ·
            replace c5 := ti_eqN (a := x0) (b := (60 : Int32)) c5 rfl (show (60 : Int32).toInt = 60 from rfl)
            refine ok_if (fun c6 => ?_) (fun c6 => ?_)
            ·
              replace c6 := ti_eqP (a := x0) (b := (63 : Int32)) c6 rfl (show (63 : Int32).toInt = 63 from rfl)
              exact ok_ret ⟨rfl, (show (0 : Int) ≤ (4 : Int32).toInt ∧ (4 : Int32).toInt ≤ (12 : Int) from (by decide)), (by show (4 : Int32) = gn x0.toInt; first | exact (gn_4 (by omega)).symm | exact (gn_7 (by omega)).symm | exact (gn_0 (by omega)).symm | exact (gn_60 (by omega)).symm | exact (gn_63 (by omega)).symm | exact (gn_56 (by omega)).symm | exact (gn_n (by omega) (by omega) (by omega) (by omega) (by omega) (by omega)).symm)⟩
            ·
              replace c6 := ti_eqN (a := x0) (b := (63 : Int32)) c6 rfl (show (63 : Int32).toInt = 63 from rfl)
              exact ok_ret ⟨rfl, (show (0 : Int) ≤ (0 : Int32).toInt ∧ (0 : Int32).toInt ≤ (12 : Int) from (by decide)), (by show (0 : Int32) = gn x0.toInt; first | exact (gn_4 (by omega)).symm | exact (gn_7 (by omega)).symm | exact (gn_0 (by omega)).symm | exact (gn_60 (by omega)).symm | exact (gn_63 (by omega)).symm | exact (gn_56 (by omega)).symm | exact (gn_n (by omega) (by omega) (by omega) (by omega) (by omega) (by omega)).symm)⟩
theorem x_f_X0_rightsOf {S : ZS} {x0 : Int32} (hT : ZT S) : Ok (f_X0_rightsOf x0 S) (fun o => o.2 = S ∧ ((0 : Int) ≤ o.1.toInt ∧ o.1.toInt ≤ (12 : Int)) ∧ (o.1 = gn x0.toInt)) := x_f_X0_rightsOf_0 hT 
end
