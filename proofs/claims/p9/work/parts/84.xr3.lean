def up (m : Int → Int) (i v : Int) : Int → Int := fun s => if s = i then v else m s
theorem mR_up {A A1 : Nat → Nat → Int32} {x v : Int32} (e : A1 = va_up A 24 (upd (A 24) (x).toNatClampNeg v)) (h1 : 0 ≤ x.toInt) (h2 : x.toInt < 64) : mR A1 = up (mR A) x.toInt v.toInt := by
  funext s
  have h3 : A1 24 = upd (A 24) (x).toNatClampNeg v := by rw [e]; exact va_up_self _ _ _
  have h4 : (x).toNatClampNeg = x.toInt.toNat := rfl
  show (if 0 ≤ s ∧ s < 64 then (A1 24 s.toNat).toInt else 0) = if s = x.toInt then v.toInt else if 0 ≤ s ∧ s < 64 then (A 24 s.toNat).toInt else 0
  rw [h3]
  by_cases c : s = x.toInt
  · rw [if_pos (by omega), if_pos c, h4, c]
    rw [upd_self]
  · rw [if_neg c]
    by_cases d : 0 ≤ s ∧ s < 64
    · rw [if_pos d, if_pos d, upd_ne (by omega)]
    · rw [if_neg d, if_neg d]
theorem mR_fr {A A1 : Nat → Nat → Int32} (e : A1 24 = A 24) : mR A1 = mR A := by
  funext s
  unfold mR
  rw [e]
def gn (s : Int) : Int32 := if s = 4 then 3 else if s = 7 then 1 else if s = 0 then 2 else if s = 60 then 12 else if s = 63 then 4 else if s = 56 then 8 else 0
theorem gn_4 {s : Int} (h : s = 4) : gn s = 3 := by subst h; rfl
theorem gn_7 {s : Int} (h : s = 7) : gn s = 1 := by subst h; rfl
theorem gn_0 {s : Int} (h : s = 0) : gn s = 2 := by subst h; rfl
theorem gn_60 {s : Int} (h : s = 60) : gn s = 12 := by subst h; rfl
theorem gn_63 {s : Int} (h : s = 63) : gn s = 4 := by subst h; rfl
theorem gn_56 {s : Int} (h : s = 56) : gn s = 8 := by subst h; rfl
theorem gn_n {s : Int} (h1 : s ≠ 4) (h2 : s ≠ 7) (h3 : s ≠ 0) (h4 : s ≠ 60) (h5 : s ≠ 63) (h6 : s ≠ 56) : gn s = 0 := by
  unfold gn
  rw [if_neg h1, if_neg h2, if_neg h3, if_neg h4, if_neg h5, if_neg h6]
abbrev psb (m : Int → Int) (b w : Int) : Prop := (0 ≤ stp b (-1) 0 ∧ m (stp b (-1) 0) = 1 + 8 * w) ∨ (0 ≤ stp b 1 0 ∧ m (stp b 1 0) = 1 + 8 * w)
def psF (m : Int → Int) (sd pw a b : Int) : Int := if pw = 1 ∧ (b = a + 16 ∨ b = a - 16) ∧ psb m b (1 - sd) then (a + b) / 2 else -1
def k1 (m : Int → Int) (pw a b : Int) : Int → Int := if pw = 1 ∧ m b = 0 ∧ a % 8 ≠ b % 8 then up m (a / 8 * 8 + b % 8) 0 else m
def k2 (m : Int → Int) (man a b : Int) : Int → Int := if man % 8 = 6 ∧ a % 8 = 4 ∧ (b % 8 = 6 ∨ b % 8 = 2) then up (up m ((a + b) / 2) (m (if b % 8 = 6 then a + 3 else a - 4))) (if b % 8 = 6 then a + 3 else a - 4) 0 else m
def k3 (m : Int → Int) (sd p man a b : Int) : Int → Int := up (up m a 0) b (if 0 < p then p + 8 * sd else man)
def pwb (m : Int → Int) (a : Int) : Int := if m a % 8 = 1 then 1 else 0
def mkR (m : Int → Int) (sd a b p : Int) : Int → Int := k3 (k2 (k1 m (pwb m a) a b) (m a) a b) sd p (m a) a b
theorem k1_y {m : Int → Int} {pw a b : Int} (h : pw = 1 ∧ m b = 0 ∧ a % 8 ≠ b % 8) : k1 m pw a b = up m (a / 8 * 8 + b % 8) 0 := if_pos h
theorem k1_n {m : Int → Int} {pw a b : Int} (h : ¬ (pw = 1 ∧ m b = 0 ∧ a % 8 ≠ b % 8)) : k1 m pw a b = m := if_neg h
theorem k2_y {m : Int → Int} {man a b c : Int} (h : man % 8 = 6 ∧ a % 8 = 4 ∧ (b % 8 = 6 ∨ b % 8 = 2)) (hc : c = if b % 8 = 6 then a + 3 else a - 4) : k2 m man a b = up (up m ((a + b) / 2) (m c)) c 0 := by
  unfold k2
  rw [if_pos h, ← hc]
theorem k2_n {m : Int → Int} {man a b : Int} (h : ¬ (man % 8 = 6 ∧ a % 8 = 4 ∧ (b % 8 = 6 ∨ b % 8 = 2))) : k2 m man a b = m := if_neg h
theorem psF_y {m : Int → Int} {sd pw a b t x : Int} (h1 : pw = 1 ∧ (b = a + 16 ∨ b = a - 16)) (e : t = stp b x 0) (hx : x = -1 ∨ x = 1) (h2 : 0 ≤ t ∧ m t = 1 + 8 * (1 - sd)) : psF m sd pw a b = (a + b) / 2 := by
  subst e
  refine if_pos ⟨h1.1, h1.2, ?_⟩
  rcases hx with e | e <;> subst e
  · exact Or.inl h2
  · exact Or.inr h2
theorem psF_n {m : Int → Int} {sd pw a b : Int} (h : ¬ (pw = 1 ∧ (b = a + 16 ∨ b = a - 16))) : psF m sd pw a b = -1 := if_neg (fun g => h ⟨g.1, g.2.1⟩)
theorem psF_m {m : Int → Int} {sd pw a b t u : Int} (e : t = stp b (-1) 0) (e2 : u = stp b 1 0) (h1 : ¬ (0 ≤ t ∧ m t = 1 + 8 * (1 - sd))) (h2 : ¬ (0 ≤ u ∧ m u = 1 + 8 * (1 - sd))) : psF m sd pw a b = -1 := by
  subst e
  subst e2
  exact if_neg (fun g => g.2.2.elim h1 h2)
theorem x_lose_0  {I : Nat → Int32} {A : Nat → Nat → Int32} {x1 : Int32} (hI : TJ I) (hA : TK A) : Ok (f_lose_0 x1 I A) (fun o => TJ o.2.1 ∧ TK o.2.2 ∧ (o.2.1 26 = (I 26) &&& (gn x1.toInt ^^^ (-1 : Int32)))) := by
  unfold f_lose_0
  refine ok_if (fun c1 => ?_) (fun c1 => ?_)
  ·
    replace c1 := ti_eqP c1 rfl (show (4 : Int32).toInt = 4 from rfl)
    unfold f_lose_60
    refine ok_bnd (fun v1 e2 => ?_)
    refine ok_bnd (fun v2 e3 => ?_)
    refine ok_bnd (fun I3 e4 => ?_)
    have hI_I3 : TJ I3 := e4.symm ▸ tj_w hI (k := 26) rfl
    exact ok_ret ⟨hI_I3, hA, (by show I3 26 = (I 26) &&& (gn x1.toInt ^^^ (-1 : Int32)); rw [e4, upd_self, e3, e2]; refine congrArg (fun z => I 26 &&& (z ^^^ (-1 : Int32))) ?_; first | exact (gn_4 (by omega)).symm | exact (gn_7 (by omega)).symm | exact (gn_0 (by omega)).symm | exact (gn_60 (by omega)).symm | exact (gn_63 (by omega)).symm | exact (gn_56 (by omega)).symm | exact (gn_n (by omega) (by omega) (by omega) (by omega) (by omega) (by omega)).symm)⟩
  ·
    replace c1 := ti_eqN c1 rfl (show (4 : Int32).toInt = 4 from rfl)
    refine ok_if (fun c5 => ?_) (fun c5 => ?_)
    ·
      replace c5 := ti_eqP c5 rfl (show (7 : Int32).toInt = 7 from rfl)
      unfold f_lose_60
      refine ok_bnd (fun v1 e6 => ?_)
      refine ok_bnd (fun v2 e7 => ?_)
      refine ok_bnd (fun I3 e8 => ?_)
      have hI_I3 : TJ I3 := e8.symm ▸ tj_w hI (k := 26) rfl
      exact ok_ret ⟨hI_I3, hA, (by show I3 26 = (I 26) &&& (gn x1.toInt ^^^ (-1 : Int32)); rw [e8, upd_self, e7, e6]; refine congrArg (fun z => I 26 &&& (z ^^^ (-1 : Int32))) ?_; first | exact (gn_4 (by omega)).symm | exact (gn_7 (by omega)).symm | exact (gn_0 (by omega)).symm | exact (gn_60 (by omega)).symm | exact (gn_63 (by omega)).symm | exact (gn_56 (by omega)).symm | exact (gn_n (by omega) (by omega) (by omega) (by omega) (by omega) (by omega)).symm)⟩
    ·
      replace c5 := ti_eqN c5 rfl (show (7 : Int32).toInt = 7 from rfl)
      refine ok_if (fun c9 => ?_) (fun c9 => ?_)
      ·
        replace c9 := ti_eqP c9 rfl (show (0 : Int32).toInt = 0 from rfl)
        unfold f_lose_60
        refine ok_bnd (fun v1 e10 => ?_)
        refine ok_bnd (fun v2 e11 => ?_)
        refine ok_bnd (fun I3 e12 => ?_)
        have hI_I3 : TJ I3 := e12.symm ▸ tj_w hI (k := 26) rfl
        exact ok_ret ⟨hI_I3, hA, (by show I3 26 = (I 26) &&& (gn x1.toInt ^^^ (-1 : Int32)); rw [e12, upd_self, e11, e10]; refine congrArg (fun z => I 26 &&& (z ^^^ (-1 : Int32))) ?_; first | exact (gn_4 (by omega)).symm | exact (gn_7 (by omega)).symm | exact (gn_0 (by omega)).symm | exact (gn_60 (by omega)).symm | exact (gn_63 (by omega)).symm | exact (gn_56 (by omega)).symm | exact (gn_n (by omega) (by omega) (by omega) (by omega) (by omega) (by omega)).symm)⟩
      ·
        replace c9 := ti_eqN c9 rfl (show (0 : Int32).toInt = 0 from rfl)
        refine ok_if (fun c13 => ?_) (fun c13 => ?_)
        ·
          replace c13 := ti_eqP c13 rfl (show (60 : Int32).toInt = 60 from rfl)
          unfold f_lose_60
          refine ok_bnd (fun v1 e14 => ?_)
          refine ok_bnd (fun v2 e15 => ?_)
          refine ok_bnd (fun I3 e16 => ?_)
          have hI_I3 : TJ I3 := e16.symm ▸ tj_w hI (k := 26) rfl
          exact ok_ret ⟨hI_I3, hA, (by show I3 26 = (I 26) &&& (gn x1.toInt ^^^ (-1 : Int32)); rw [e16, upd_self, e15, e14]; refine congrArg (fun z => I 26 &&& (z ^^^ (-1 : Int32))) ?_; first | exact (gn_4 (by omega)).symm | exact (gn_7 (by omega)).symm | exact (gn_0 (by omega)).symm | exact (gn_60 (by omega)).symm | exact (gn_63 (by omega)).symm | exact (gn_56 (by omega)).symm | exact (gn_n (by omega) (by omega) (by omega) (by omega) (by omega) (by omega)).symm)⟩
        ·
          replace c13 := ti_eqN c13 rfl (show (60 : Int32).toInt = 60 from rfl)
          refine ok_if (fun c17 => ?_) (fun c17 => ?_)
          ·
            replace c17 := ti_eqP c17 rfl (show (63 : Int32).toInt = 63 from rfl)
            unfold f_lose_60
            refine ok_bnd (fun v1 e18 => ?_)
            refine ok_bnd (fun v2 e19 => ?_)
            refine ok_bnd (fun I3 e20 => ?_)
            have hI_I3 : TJ I3 := e20.symm ▸ tj_w hI (k := 26) rfl
            exact ok_ret ⟨hI_I3, hA, (by show I3 26 = (I 26) &&& (gn x1.toInt ^^^ (-1 : Int32)); rw [e20, upd_self, e19, e18]; refine congrArg (fun z => I 26 &&& (z ^^^ (-1 : Int32))) ?_; first | exact (gn_4 (by omega)).symm | exact (gn_7 (by omega)).symm | exact (gn_0 (by omega)).symm | exact (gn_60 (by omega)).symm | exact (gn_63 (by omega)).symm | exact (gn_56 (by omega)).symm | exact (gn_n (by omega) (by omega) (by omega) (by omega) (by omega) (by omega)).symm)⟩
          ·
            replace c17 := ti_eqN c17 rfl (show (63 : Int32).toInt = 63 from rfl)
            refine ok_if (fun c21 => ?_) (fun c21 => ?_)
            ·
              replace c21 := ti_eqP c21 rfl (show (56 : Int32).toInt = 56 from rfl)
              unfold f_lose_60
              refine ok_bnd (fun v1 e22 => ?_)
              refine ok_bnd (fun v2 e23 => ?_)
              refine ok_bnd (fun I3 e24 => ?_)
              have hI_I3 : TJ I3 := e24.symm ▸ tj_w hI (k := 26) rfl
              exact ok_ret ⟨hI_I3, hA, (by show I3 26 = (I 26) &&& (gn x1.toInt ^^^ (-1 : Int32)); rw [e24, upd_self, e23, e22]; refine congrArg (fun z => I 26 &&& (z ^^^ (-1 : Int32))) ?_; first | exact (gn_4 (by omega)).symm | exact (gn_7 (by omega)).symm | exact (gn_0 (by omega)).symm | exact (gn_60 (by omega)).symm | exact (gn_63 (by omega)).symm | exact (gn_56 (by omega)).symm | exact (gn_n (by omega) (by omega) (by omega) (by omega) (by omega) (by omega)).symm)⟩
            ·
              replace c21 := ti_eqN c21 rfl (show (56 : Int32).toInt = 56 from rfl)
              unfold f_lose_60
              refine ok_bnd (fun v1 e25 => ?_)
              refine ok_bnd (fun v2 e26 => ?_)
              refine ok_bnd (fun I3 e27 => ?_)
              have hI_I3 : TJ I3 := e27.symm ▸ tj_w hI (k := 26) rfl
              exact ok_ret ⟨hI_I3, hA, (by show I3 26 = (I 26) &&& (gn x1.toInt ^^^ (-1 : Int32)); rw [e27, upd_self, e26, e25]; refine congrArg (fun z => I 26 &&& (z ^^^ (-1 : Int32))) ?_; first | exact (gn_4 (by omega)).symm | exact (gn_7 (by omega)).symm | exact (gn_0 (by omega)).symm | exact (gn_60 (by omega)).symm | exact (gn_63 (by omega)).symm | exact (gn_56 (by omega)).symm | exact (gn_n (by omega) (by omega) (by omega) (by omega) (by omega) (by omega)).symm)⟩
theorem x_lose  {I : Nat → Int32} {A : Nat → Nat → Int32} {x1 : Int32} (hI : TJ I) (hA : TK A) : Ok (f_lose x1 I A) (fun o => TJ o.2.1 ∧ TK o.2.2 ∧ (o.2.1 26 = (I 26) &&& (gn x1.toInt ^^^ (-1 : Int32)))) := x_lose_0  hI hA 
theorem x_make_319 {nn sd TP : Int} {TM : Int → Int} {TR r0 : Int32} {I : Nat → Int32} {A : Nat → Nat → Int32} (hI : TJ I) (hA : TK A) (q0 : (I 29).toInt = nn ∧ nn ≤ 1999 ∧ (I 25).toInt = sd) (q1 : mR A = TM) (q2 : I 26 = TR) (q3 : (I 27).toInt = TP) : Ok (f_make_319 I A) (fun o => TJ o.2.1 ∧ TK o.2.2 ∧ (mR o.2.2 = TM) ∧ (o.2.1 26 = TR) ∧ ((o.2.1 27).toInt = TP) ∧ ((o.2.1 29).toInt = nn + sd) ∧ ((o.2.1 25).toInt = 1 - sd)) := by
  unfold f_make_319
  have b_I_29 := tI_29 hI
  have b_I_25 := tI_25 hI
  refine ok_bnd (fun v1 e28 => ?_)
  have t_v1 : v1.toInt = (I 29).toInt + (I 25).toInt := ti_add e28 rfl rfl (by omega) (by omega)
  refine ok_bnd (fun I2 e29 => ?_)
  have hI_I2 : TJ I2 := e29.symm ▸ tj_u hI (k := 29) (show (-1 : Int) ≤ v1.toInt from (by omega)) (show v1.toInt ≤ (2000 : Int) from (by omega))
  have : (I2 29).toInt = v1.toInt := by rw [e29]; exact rfl
  have : (I2 25).toInt = (I 25).toInt := by rw [e29]; rfl
  have z_I2_26 : I2 26 = TR := by rw [e29]; exact (upd_ne (by decide)).trans q2
  have z2 : I2 26 = TR := by rw [e29]; exact (upd_ne (by decide)).trans q2
  have z7 : (I2 27).toInt = TP := by rw [e29]; exact q3
  refine ok_bnd (fun v3 e30 => ?_)
  have b_I2_25 := tI_25 hI_I2
  have t_v3 : v3.toInt = 1 - (I2 25).toInt := ti_sub e30 (show (1 : Int32).toInt = 1 from rfl) rfl (by omega) (by omega)
  refine ok_bnd (fun I4 e31 => ?_)
  have hI_I4 : TJ I4 := e31.symm ▸ tj_u hI_I2 (k := 25) (show (0 : Int) ≤ v3.toInt from (by omega)) (show v3.toInt ≤ (1 : Int) from (by omega))
  have : (I4 29).toInt = (I2 29).toInt := by rw [e31]; rfl
  have : (I4 25).toInt = v3.toInt := by rw [e31]; exact rfl
  have z_I4_26 : I4 26 = TR := by rw [e31]; exact (upd_ne (by decide)).trans z_I2_26
  have z4 : I4 26 = TR := by rw [e31]; exact (upd_ne (by decide)).trans z2
  have z8 : (I4 27).toInt = TP := by rw [e31]; exact z7
  exact ok_ret ⟨hI_I4, hA, q1, z_I4_26, (by show (I4 27).toInt = TP; exact z8), (by show (I4 29).toInt = nn + sd; have z : (0 : Int32).toInt = 0 := rfl; omega), (by show (I4 25).toInt = 1 - sd; have z : (0 : Int32).toInt = 0 := rfl; omega)⟩
theorem x_make_316 {nn sd TP : Int} {TM : Int → Int} {TR r0 : Int32} {I : Nat → Int32} {A : Nat → Nat → Int32} {t0 : Int32} (hI : TJ I) (hA : TK A) (q0 : (I 29).toInt = nn ∧ nn ≤ 1999 ∧ (I 25).toInt = sd) (q1 : mR A = TM) (q2 : I 26 = TR) (q3 : t0.toInt = TP) : Ok (f_make_316 t0 I A) (fun o => TJ o.2.1 ∧ TK o.2.2 ∧ (mR o.2.2 = TM) ∧ (o.2.1 26 = TR) ∧ ((o.2.1 27).toInt = TP) ∧ ((o.2.1 29).toInt = nn + sd) ∧ ((o.2.1 25).toInt = 1 - sd)) := by
  unfold f_make_316
  have b_I_29 := tI_29 hI
  have b_I_25 := tI_25 hI
  refine ok_bnd (fun I1 e32 => ?_)
  have hI_I1 : TJ I1 := e32.symm ▸ tj_w hI (k := 27) rfl
  have : (I1 29).toInt = (I 29).toInt := by rw [e32]; rfl
  have : (I1 25).toInt = (I 25).toInt := by rw [e32]; rfl
  have z_I1_26 : I1 26 = TR := by rw [e32]; exact (upd_ne (by decide)).trans q2
  have z1 : I1 26 = TR := by rw [e32]; exact (upd_ne (by decide)).trans q2
  have z7 : (I1 27).toInt = TP := by rw [e32, upd_self]; exact q3
  have b_I1_25 := tI_25 hI_I1
  have b_I1_29 := tI_29 hI_I1
  exact x_make_319 (nn := nn) (sd := sd) (TP := TP) (TM := TM) (TR := TR) (r0 := r0)    hI_I1 hA (by omega) q1 z1 z7
theorem x_make_263 {nn sd TP : Int} {TM : Int → Int} {TR r0 : Int32} {I : Nat → Int32} {A : Nat → Nat → Int32} {x2 : Int32} {x3 : Int32} (hI : TJ I) (hA : TK A) (r_x2 : (0 : Int) ≤ x2.toInt ∧ x2.toInt ≤ (63 : Int)) (r_x3 : (0 : Int) ≤ x3.toInt ∧ x3.toInt ≤ (63 : Int)) (q0 : (I 29).toInt = nn ∧ nn ≤ 1999 ∧ (I 25).toInt = sd) (q1 : mR A = TM) (q2 : I 26 = TR) (q3 : x3.toInt = x2.toInt + 16 ∨ x3.toInt = x2.toInt - 16) (q4 : TP = psF TM sd 1 x2.toInt x3.toInt) : Ok (f_make_263 x2 x3 I A) (fun o => TJ o.2.1 ∧ TK o.2.2 ∧ (mR o.2.2 = TM) ∧ (o.2.1 26 = TR) ∧ ((o.2.1 27).toInt = TP) ∧ ((o.2.1 29).toInt = nn + sd) ∧ ((o.2.1 25).toInt = 1 - sd)) := by
  unfold f_make_263
  have b_I_29 := tI_29 hI
  have b_I_25 := tI_25 hI
  refine ok_bnd (fun v1 e33 => ?_)
  have t_v1 : v1.toInt = 1 - (I 25).toInt := ti_sub e33 (show (1 : Int32).toInt = 1 from rfl) rfl (by omega) (by omega)
  refine ok_bnd (fun v2 e34 => ?_)
  have t_v2 : v2.toInt = 8 * v1.toInt := ti_mul e34 (show (8 : Int32).toInt = 8 from rfl) rfl (by omega) (by omega)
  refine ok_bnd (fun v3 e35 => ?_)
  have t_v3 : v3.toInt = 1 + v2.toInt := ti_add e35 (show (1 : Int32).toInt = 1 from rfl) rfl (by omega) (by omega)
  obtain ⟨r4, h_r4, p_r4⟩ := ro (t_step (x0 := x3) (x1 := (-1 : Int32)) (x2 := (0 : Int32))  hI hA r_x3 (by decide) (by decide))
  refine ok_clR h_r4 ?_
  dsimp only at p_r4
  obtain ⟨r5, h_r5, p_r5⟩ := ro (x_stands (x1 := r4) (x2 := v3)  hI hA (by omega))
  refine ok_clR h_r5 ?_
  dsimp only at p_r5
  refine ok_if (fun c36 => ?_) (fun c36 => ?_)
  ·
    replace c36 := ti_eqP c36 rfl (show (0 : Int32).toInt = 0 from rfl)
    obtain ⟨r6, h_r6, p_r6⟩ := ro (t_step (x0 := x3) (x1 := (1 : Int32)) (x2 := (0 : Int32))  hI hA r_x3 (by decide) (by decide))
    refine ok_clR h_r6 ?_
    dsimp only at p_r6
    obtain ⟨r7, h_r7, p_r7⟩ := ro (x_stands (x1 := r6) (x2 := v3)  hI hA (by omega))
    refine ok_clR h_r7 ?_
    dsimp only at p_r7
    refine ok_if (fun c37 => ?_) (fun c37 => ?_)
    ·
      replace c37 := ti_eqP c37 rfl (show (0 : Int32).toInt = 0 from rfl)
      exact x_make_316 (nn := nn) (sd := sd) (TP := TP) (TM := TM) (TR := TR) (r0 := r0)   (t0 := (-1 : Int32)) hI hA q0 q1 q2 (by rw [q4, psF_m (stp_of p_r4.2) (stp_of p_r6.2) (by have := p_r5.2; rw [q1] at this; omega) (by have := p_r7.2; rw [q1] at this; omega)]; rfl)
    ·
      replace c37 := ti_eqN c37 rfl (show (0 : Int32).toInt = 0 from rfl)
      unfold f_make_307
      refine ok_bnd (fun v1 e38 => ?_)
      have t_v1 : v1.toInt = x2.toInt + x3.toInt := ti_add e38 rfl rfl (by omega) (by omega)
      refine ok_bnd (fun v2 e39 => ?_)
      have t_v2 : v2.toInt = v1.toInt / 2 := ti_div e39 rfl (show (2 : Int32).toInt = 2 from rfl) (by omega) (by decide)
      exact x_make_316 (nn := nn) (sd := sd) (TP := TP) (TM := TM) (TR := TR) (r0 := r0)   (t0 := v2) hI hA q0 q1 q2 (by rw [q4]; have zz : v2.toInt = (x2.toInt + x3.toInt) / 2 := (by omega); rw [zz]; first | exact (psF_y ⟨rfl, q3⟩ (stp_of p_r6.2) (Or.inr rfl) (by have := p_r7.2; rw [q1] at this; omega)).symm | exact (psF_y ⟨rfl, q3⟩ (stp_of p_r4.2) (Or.inl rfl) (by have := p_r5.2; rw [q1] at this; omega)).symm)
  ·
    replace c36 := ti_eqN c36 rfl (show (0 : Int32).toInt = 0 from rfl)
    unfold f_make_307
    refine ok_bnd (fun v1 e40 => ?_)
    have t_v1 : v1.toInt = x2.toInt + x3.toInt := ti_add e40 rfl rfl (by omega) (by omega)
    refine ok_bnd (fun v2 e41 => ?_)
    have t_v2 : v2.toInt = v1.toInt / 2 := ti_div e41 rfl (show (2 : Int32).toInt = 2 from rfl) (by omega) (by decide)
    exact x_make_316 (nn := nn) (sd := sd) (TP := TP) (TM := TM) (TR := TR) (r0 := r0)   (t0 := v2) hI hA q0 q1 q2 (by rw [q4]; have zz : v2.toInt = (x2.toInt + x3.toInt) / 2 := (by omega); rw [zz]; first | exact (psF_y ⟨rfl, q3⟩ (stp_of p_r6.2) (Or.inr rfl) (by have := p_r7.2; rw [q1] at this; omega)).symm | exact (psF_y ⟨rfl, q3⟩ (stp_of p_r4.2) (Or.inl rfl) (by have := p_r5.2; rw [q1] at this; omega)).symm)
theorem x_make_226 {nn sd TP : Int} {TM : Int → Int} {TR r0 : Int32} {I : Nat → Int32} {A : Nat → Nat → Int32} {x2 : Int32} {x3 : Int32} {x6 : Int32} {t0 : Int32} {t1 : Int32} (hI : TJ I) (hA : TK A) (r_x2 : (0 : Int) ≤ x2.toInt ∧ x2.toInt ≤ (63 : Int)) (r_x3 : (0 : Int) ≤ x3.toInt ∧ x3.toInt ≤ (63 : Int)) (r_x6 : (0 : Int) ≤ x6.toInt ∧ x6.toInt ≤ (1 : Int)) (r_t1 : (0 : Int) ≤ t1.toInt ∧ t1.toInt ≤ (63 : Int)) (q0 : (I 29).toInt = nn ∧ nn ≤ 1999 ∧ (I 25).toInt = sd) (q1 : I 26 = r0) (q2 : TR = (r0 &&& (gn x2.toInt ^^^ (-1 : Int32))) &&& (gn x3.toInt ^^^ (-1 : Int32))) (q3 : TP = psF TM sd x6.toInt x2.toInt x3.toInt) (q4 : TM = up (mR A) t1.toInt t0.toInt) : Ok (f_make_226 x2 x3 x6 t0 t1 I A) (fun o => TJ o.2.1 ∧ TK o.2.2 ∧ (mR o.2.2 = TM) ∧ (o.2.1 26 = TR) ∧ ((o.2.1 27).toInt = TP) ∧ ((o.2.1 29).toInt = nn + sd) ∧ ((o.2.1 25).toInt = 1 - sd)) := by
  unfold f_make_226
  have b_I_29 := tI_29 hI
  have b_I_25 := tI_25 hI
  refine ok_chk (ti_in (by omega) (by omega)) ?_
  refine ok_bnd (fun A1 e42 => ?_)
  have hA_A1 : TK A1 := e42.symm ▸ tk_w hA (j := 24) rfl
  have y_A1 : mR A1 = up (mR A) t1.toInt t0.toInt := mR_up e42 (by omega) (by omega)
  obtain ⟨⟨r2, Ic2, Ac2⟩, h_r2, hI_Ic2, hA_Ac2, p_r2_0⟩ := x_lose (x1 := x2)  hI hA_A1 
  replace hI_Ic2 : TJ Ic2 := hI_Ic2
  replace hA_Ac2 : TK Ac2 := hA_Ac2
  dsimp only at p_r2_0
  refine ok_clR h_r2 ?_
  have f_r2 := fw_lose h_r2
  have : (Ic2 29).toInt = (I 29).toInt := congrArg Int32.toInt (f_r2.1 29 (by decide))
  have : (Ic2 25).toInt = (I 25).toInt := congrArg Int32.toInt (f_r2.1 25 (by decide))
  have y2 : mR Ac2 = mR A1 := mR_fr ((fw_lose h_r2).2 24 (by decide))
  obtain ⟨⟨r3, Ic3, Ac3⟩, h_r3, hI_Ic3, hA_Ac3, p_r3_0⟩ := x_lose (x1 := x3)  hI_Ic2 hA_Ac2 
  replace hI_Ic3 : TJ Ic3 := hI_Ic3
  replace hA_Ac3 : TK Ac3 := hA_Ac3
  dsimp only at p_r3_0
  refine ok_clR h_r3 ?_
  have f_r3 := fw_lose h_r3
  have : (Ic3 29).toInt = (Ic2 29).toInt := congrArg Int32.toInt (f_r3.1 29 (by decide))
  have : (Ic3 25).toInt = (Ic2 25).toInt := congrArg Int32.toInt (f_r3.1 25 (by decide))
  have y3 : mR Ac3 = TM := (mR_fr ((fw_lose h_r3).2 24 (by decide))).trans (y2.trans (y_A1.trans q4.symm))
  have z3 : Ic3 26 = TR := by rw [p_r3_0, p_r2_0, q1, q2]
  refine ok_bnd (fun I4 e43 => ?_)
  have hI_I4 : TJ I4 := e43.symm ▸ tj_w hI_Ic3 (k := 27) rfl
  have : (I4 29).toInt = (Ic3 29).toInt := by rw [e43]; rfl
  have : (I4 25).toInt = (Ic3 25).toInt := by rw [e43]; rfl
  have z4 : I4 26 = TR := by rw [e43]; exact (upd_ne (by decide)).trans z3
  have z5 : (I4 27).toInt = -1 := by rw [e43, upd_self]; rfl
  refine ok_if (fun c44 => ?_) (fun c44 => ?_)
  ·
    replace c44 := ti_eqP c44 rfl (show (0 : Int32).toInt = 0 from rfl)
    have b_I4_25 := tI_25 hI_I4
    have b_I4_29 := tI_29 hI_I4
    exact x_make_319 (nn := nn) (sd := sd) (TP := TP) (TM := TM) (TR := TR) (r0 := r0)    hI_I4 hA_Ac3 (by omega) y3 z4 (by rw [q3, psF_n (by omega)]; exact z5)
  ·
    replace c44 := ti_eqN c44 rfl (show (0 : Int32).toInt = 0 from rfl)
    refine ok_bnd (fun v5 e45 => ?_)
    have t_v5 : v5.toInt = x2.toInt + 16 := ti_add e45 rfl (show (16 : Int32).toInt = 16 from rfl) (by omega) (by omega)
    refine ok_if (fun c46 => ?_) (fun c46 => ?_)
    ·
      replace c46 := ti_eqP c46 rfl rfl
      have b_I4_25 := tI_25 hI_I4
      have b_I4_29 := tI_29 hI_I4
      exact x_make_263 (nn := nn) (sd := sd) (TP := TP) (TM := TM) (TR := TR) (r0 := r0)   (x2 := x2) (x3 := x3) hI_I4 hA_Ac3 r_x2 r_x3 (by omega) y3 z4 (by omega) (by rw [q3, show x6.toInt = 1 by omega])
    ·
      replace c46 := ti_eqN c46 rfl rfl
      refine ok_bnd (fun v6 e47 => ?_)
      have t_v6 : v6.toInt = x2.toInt - 16 := ti_sub e47 rfl (show (16 : Int32).toInt = 16 from rfl) (by omega) (by omega)
      refine ok_if (fun c48 => ?_) (fun c48 => ?_)
      ·
        replace c48 := ti_eqP c48 rfl rfl
        have b_I4_25 := tI_25 hI_I4
        have b_I4_29 := tI_29 hI_I4
        exact x_make_263 (nn := nn) (sd := sd) (TP := TP) (TM := TM) (TR := TR) (r0 := r0)   (x2 := x2) (x3 := x3) hI_I4 hA_Ac3 r_x2 r_x3 (by omega) y3 z4 (by omega) (by rw [q3, show x6.toInt = 1 by omega])
      ·
        replace c48 := ti_eqN c48 rfl rfl
        have b_I4_25 := tI_25 hI_I4
        have b_I4_29 := tI_29 hI_I4
        exact x_make_319 (nn := nn) (sd := sd) (TP := TP) (TM := TM) (TR := TR) (r0 := r0)    hI_I4 hA_Ac3 (by omega) y3 z4 (by rw [q3, psF_n (by omega)]; exact z5)
theorem x_make_194 {nn sd TP : Int} {TM : Int → Int} {TR r0 : Int32} {I : Nat → Int32} {A : Nat → Nat → Int32} {x2 : Int32} {x3 : Int32} {x4 : Int32} {x5 : Int32} {x6 : Int32} (hI : TJ I) (hA : TK A) (r_x2 : (0 : Int) ≤ x2.toInt ∧ x2.toInt ≤ (63 : Int)) (r_x3 : (0 : Int) ≤ x3.toInt ∧ x3.toInt ≤ (63 : Int)) (r_x4 : (0 : Int) ≤ x4.toInt ∧ x4.toInt ≤ (6 : Int)) (r_x5 : (0 : Int) ≤ x5.toInt ∧ x5.toInt ≤ (14 : Int)) (r_x6 : (0 : Int) ≤ x6.toInt ∧ x6.toInt ≤ (1 : Int)) (q0 : (I 29).toInt = nn ∧ nn ≤ 1999 ∧ (I 25).toInt = sd) (q1 : I 26 = r0) (q2 : TR = (r0 &&& (gn x2.toInt ^^^ (-1 : Int32))) &&& (gn x3.toInt ^^^ (-1 : Int32))) (q3 : TP = psF TM sd x6.toInt x2.toInt x3.toInt) (q4 : TM = k3 (mR A) sd x4.toInt x5.toInt x2.toInt x3.toInt) : Ok (f_make_194 x2 x3 x4 x5 x6 I A) (fun o => TJ o.2.1 ∧ TK o.2.2 ∧ (mR o.2.2 = TM) ∧ (o.2.1 26 = TR) ∧ ((o.2.1 27).toInt = TP) ∧ ((o.2.1 29).toInt = nn + sd) ∧ ((o.2.1 25).toInt = 1 - sd)) := by
  unfold f_make_194
  have b_I_29 := tI_29 hI
  have b_I_25 := tI_25 hI
  refine ok_chk (ti_in (by omega) (by omega)) ?_
  refine ok_bnd (fun A1 e49 => ?_)
  have hA_A1 : TK A1 := e49.symm ▸ tk_w hA (j := 24) rfl
  have y_A1 : mR A1 = up (mR A) x2.toInt 0 := mR_up e49 (by omega) (by omega)
  refine ok_if (fun c50 => ?_) (fun c50 => ?_)
  ·
    replace c50 := ti_leP c50 rfl (show (0 : Int32).toInt = 0 from rfl)
    exact x_make_226 (nn := nn) (sd := sd) (TP := TP) (TM := TM) (TR := TR) (r0 := r0)   (x2 := x2) (x3 := x3) (x6 := x6) (t0 := x5) (t1 := x3) hI hA_A1 r_x2 r_x3 r_x6 r_x3 q0 q1 q2 q3 (by rw [q4, y_A1]; unfold k3; rw [if_neg (by omega)])
  ·
    replace c50 := ti_leN c50 rfl (show (0 : Int32).toInt = 0 from rfl)
    refine ok_bnd (fun v2 e51 => ?_)
    have t_v2 : v2.toInt = 8 * (I 25).toInt := ti_mul e51 (show (8 : Int32).toInt = 8 from rfl) rfl (by omega) (by omega)
    refine ok_bnd (fun v3 e52 => ?_)
    have t_v3 : v3.toInt = x4.toInt + v2.toInt := ti_add e52 rfl rfl (by omega) (by omega)
    exact x_make_226 (nn := nn) (sd := sd) (TP := TP) (TM := TM) (TR := TR) (r0 := r0)   (x2 := x2) (x3 := x3) (x6 := x6) (t0 := v3) (t1 := x3) hI hA_A1 r_x2 r_x3 r_x6 r_x3 q0 q1 q2 q3 (by rw [q4, y_A1]; unfold k3; rw [if_pos (by omega), show v3.toInt = x4.toInt + 8 * sd by omega])
theorem x_make_167 {nn sd TP : Int} {TM : Int → Int} {TR r0 : Int32} {I : Nat → Int32} {A : Nat → Nat → Int32} {x2 : Int32} {x3 : Int32} {x4 : Int32} {x5 : Int32} {x6 : Int32} {t0 : Int32} (hI : TJ I) (hA : TK A) (r_x2 : (0 : Int) ≤ x2.toInt ∧ x2.toInt ≤ (63 : Int)) (r_x3 : (0 : Int) ≤ x3.toInt ∧ x3.toInt ≤ (63 : Int)) (r_x4 : (0 : Int) ≤ x4.toInt ∧ x4.toInt ≤ (6 : Int)) (r_x5 : (0 : Int) ≤ x5.toInt ∧ x5.toInt ≤ (14 : Int)) (r_x6 : (0 : Int) ≤ x6.toInt ∧ x6.toInt ≤ (1 : Int)) (r_t0 : (0 : Int) ≤ t0.toInt ∧ t0.toInt ≤ (63 : Int)) (q0 : (I 29).toInt = nn ∧ nn ≤ 1999 ∧ (I 25).toInt = sd) (q1 : I 26 = r0) (q2 : TR = (r0 &&& (gn x2.toInt ^^^ (-1 : Int32))) &&& (gn x3.toInt ^^^ (-1 : Int32))) (q3 : TP = psF TM sd x6.toInt x2.toInt x3.toInt) (q4 : TM = k3 (up (up (mR A) ((x2.toInt + x3.toInt) / 2) (mR A t0.toInt)) t0.toInt 0) sd x4.toInt x5.toInt x2.toInt x3.toInt) : Ok (f_make_167 x2 x3 x4 x5 x6 t0 I A) (fun o => TJ o.2.1 ∧ TK o.2.2 ∧ (mR o.2.2 = TM) ∧ (o.2.1 26 = TR) ∧ ((o.2.1 27).toInt = TP) ∧ ((o.2.1 29).toInt = nn + sd) ∧ ((o.2.1 25).toInt = 1 - sd)) := by
  unfold f_make_167
  have b_I_29 := tI_29 hI
  have b_I_25 := tI_25 hI
  refine ok_bnd (fun v1 e53 => ?_)
  have t_v1 : v1.toInt = x2.toInt + x3.toInt := ti_add e53 rfl rfl (by omega) (by omega)
  refine ok_bnd (fun v2 e54 => ?_)
  have t_v2 : v2.toInt = v1.toInt / 2 := ti_div e54 rfl (show (2 : Int32).toInt = 2 from rfl) (by omega) (by decide)
  refine ok_chk (ti_in (by omega) (by omega)) ?_
  refine ok_bnd (fun v3 e55 => ?_)
  have u_v3 : v3.toInt = mR A t0.toInt := mR_at e55 (by omega) (by omega)
  refine ok_chk (ti_in (by omega) (by omega)) ?_
  refine ok_bnd (fun A4 e56 => ?_)
  have hA_A4 : TK A4 := e56.symm ▸ tk_w hA (j := 24) rfl
  have y_A4 : mR A4 = up (mR A) v2.toInt v3.toInt := mR_up e56 (by omega) (by omega)
  refine ok_chk (ti_in (by omega) (by omega)) ?_
  refine ok_bnd (fun A5 e57 => ?_)
  have hA_A5 : TK A5 := e57.symm ▸ tk_w hA_A4 (j := 24) rfl
  have y_A5 : mR A5 = up (mR A4) t0.toInt 0 := mR_up e57 (by omega) (by omega)
  exact x_make_194 (nn := nn) (sd := sd) (TP := TP) (TM := TM) (TR := TR) (r0 := r0)   (x2 := x2) (x3 := x3) (x4 := x4) (x5 := x5) (x6 := x6) hI hA_A5 r_x2 r_x3 r_x4 r_x5 r_x6 q0 q1 q2 q3 (by rw [q4, y_A5, y_A4, ← u_v3, show v2.toInt = (x2.toInt + x3.toInt) / 2 by omega])
theorem x_make_149 {nn sd TP : Int} {TM : Int → Int} {TR r0 : Int32} {I : Nat → Int32} {A : Nat → Nat → Int32} {x2 : Int32} {x3 : Int32} {x4 : Int32} {x5 : Int32} {x6 : Int32} (hI : TJ I) (hA : TK A) (r_x2 : (0 : Int) ≤ x2.toInt ∧ x2.toInt ≤ (63 : Int)) (r_x3 : (0 : Int) ≤ x3.toInt ∧ x3.toInt ≤ (63 : Int)) (r_x4 : (0 : Int) ≤ x4.toInt ∧ x4.toInt ≤ (6 : Int)) (r_x5 : (0 : Int) ≤ x5.toInt ∧ x5.toInt ≤ (14 : Int)) (r_x6 : (0 : Int) ≤ x6.toInt ∧ x6.toInt ≤ (1 : Int)) (q0 : (I 29).toInt = nn ∧ nn ≤ 1999 ∧ (I 25).toInt = sd) (q1 : I 26 = r0) (q2 : TR = (r0 &&& (gn x2.toInt ^^^ (-1 : Int32))) &&& (gn x3.toInt ^^^ (-1 : Int32))) (q3 : TP = psF TM sd x6.toInt x2.toInt x3.toInt) (q4 : TM = k3 (k2 (mR A) x5.toInt x2.toInt x3.toInt) sd x4.toInt x5.toInt x2.toInt x3.toInt) (q5 : x5.toInt % 8 = 6 ∧ x2.toInt % 8 = 4 ∧ (x3.toInt % 8 = 6 ∨ x3.toInt % 8 = 2)) : Ok (f_make_149 x2 x3 x4 x5 x6 I A) (fun o => TJ o.2.1 ∧ TK o.2.2 ∧ (mR o.2.2 = TM) ∧ (o.2.1 26 = TR) ∧ ((o.2.1 27).toInt = TP) ∧ ((o.2.1 29).toInt = nn + sd) ∧ ((o.2.1 25).toInt = 1 - sd)) := by
  unfold f_make_149
  have b_I_29 := tI_29 hI
  have b_I_25 := tI_25 hI
  refine ok_bnd (fun v1 e58 => ?_)
  have t_v1 : v1.toInt = x3.toInt % 8 := ti_rem e58 rfl (show (8 : Int32).toInt = 8 from rfl) (by omega) (by decide)
  refine ok_if (fun c59 => ?_) (fun c59 => ?_)
  ·
    replace c59 := ti_eqP c59 rfl (show (6 : Int32).toInt = 6 from rfl)
    refine ok_bnd (fun v3 e60 => ?_)
    have t_v3 : v3.toInt = x2.toInt + 3 := ti_add e60 rfl (show (3 : Int32).toInt = 3 from rfl) (by omega) (by omega)
    exact x_make_167 (nn := nn) (sd := sd) (TP := TP) (TM := TM) (TR := TR) (r0 := r0)   (x2 := x2) (x3 := x3) (x4 := x4) (x5 := x5) (x6 := x6) (t0 := v3) hI hA r_x2 r_x3 r_x4 r_x5 r_x6 (by omega) q0 q1 q2 q3 (by rw [q4, k2_y (c := v3.toInt) q5 (by omega)])
  ·
    replace c59 := ti_eqN c59 rfl (show (6 : Int32).toInt = 6 from rfl)
    refine ok_bnd (fun v2 e61 => ?_)
    have t_v2 : v2.toInt = x2.toInt - 4 := ti_sub e61 rfl (show (4 : Int32).toInt = 4 from rfl) (by omega) (by omega)
    exact x_make_167 (nn := nn) (sd := sd) (TP := TP) (TM := TM) (TR := TR) (r0 := r0)   (x2 := x2) (x3 := x3) (x4 := x4) (x5 := x5) (x6 := x6) (t0 := v2) hI hA r_x2 r_x3 r_x4 r_x5 r_x6 (by omega) q0 q1 q2 q3 (by rw [q4, k2_y (c := v2.toInt) q5 (by omega)])
theorem x_make_114 {nn sd TP : Int} {TM : Int → Int} {TR r0 : Int32} {I : Nat → Int32} {A : Nat → Nat → Int32} {x2 : Int32} {x3 : Int32} {x4 : Int32} {x5 : Int32} {x6 : Int32} (hI : TJ I) (hA : TK A) (r_x2 : (0 : Int) ≤ x2.toInt ∧ x2.toInt ≤ (63 : Int)) (r_x3 : (0 : Int) ≤ x3.toInt ∧ x3.toInt ≤ (63 : Int)) (r_x4 : (0 : Int) ≤ x4.toInt ∧ x4.toInt ≤ (6 : Int)) (r_x5 : (0 : Int) ≤ x5.toInt ∧ x5.toInt ≤ (14 : Int)) (r_x6 : (0 : Int) ≤ x6.toInt ∧ x6.toInt ≤ (1 : Int)) (q0 : (I 29).toInt = nn ∧ nn ≤ 1999 ∧ (I 25).toInt = sd) (q1 : I 26 = r0) (q2 : TR = (r0 &&& (gn x2.toInt ^^^ (-1 : Int32))) &&& (gn x3.toInt ^^^ (-1 : Int32))) (q3 : TP = psF TM sd x6.toInt x2.toInt x3.toInt) (q4 : TM = k3 (k2 (mR A) x5.toInt x2.toInt x3.toInt) sd x4.toInt x5.toInt x2.toInt x3.toInt) : Ok (f_make_114 x2 x3 x4 x5 x6 I A) (fun o => TJ o.2.1 ∧ TK o.2.2 ∧ (mR o.2.2 = TM) ∧ (o.2.1 26 = TR) ∧ ((o.2.1 27).toInt = TP) ∧ ((o.2.1 29).toInt = nn + sd) ∧ ((o.2.1 25).toInt = 1 - sd)) := by
  unfold f_make_114
  have b_I_29 := tI_29 hI
  have b_I_25 := tI_25 hI
  obtain ⟨r1, h_r1, p_r1⟩ := ro (x_kind (x0 := x5)  hI hA r_x5)
  refine ok_clR h_r1 ?_
  dsimp only at p_r1
  refine ok_if (fun c62 => ?_) (fun c62 => ?_)
  ·
    replace c62 := ti_eqP c62 rfl (show (6 : Int32).toInt = 6 from rfl)
    refine ok_bnd (fun v2 e63 => ?_)
    have t_v2 : v2.toInt = x2.toInt % 8 := ti_rem e63 rfl (show (8 : Int32).toInt = 8 from rfl) (by omega) (by decide)
    refine ok_if (fun c64 => ?_) (fun c64 => ?_)
    ·
      replace c64 := ti_eqP c64 rfl (show (4 : Int32).toInt = 4 from rfl)
      refine ok_bnd (fun v3 e65 => ?_)
      have t_v3 : v3.toInt = x3.toInt % 8 := ti_rem e65 rfl (show (8 : Int32).toInt = 8 from rfl) (by omega) (by decide)
      refine ok_if (fun c66 => ?_) (fun c66 => ?_)
      ·
        replace c66 := ti_eqP c66 rfl (show (6 : Int32).toInt = 6 from rfl)
        exact x_make_149 (nn := nn) (sd := sd) (TP := TP) (TM := TM) (TR := TR) (r0 := r0)   (x2 := x2) (x3 := x3) (x4 := x4) (x5 := x5) (x6 := x6) hI hA r_x2 r_x3 r_x4 r_x5 r_x6 q0 q1 q2 q3 q4 (by omega)
      ·
        replace c66 := ti_eqN c66 rfl (show (6 : Int32).toInt = 6 from rfl)
        refine ok_bnd (fun v4 e67 => ?_)
        have t_v4 : v4.toInt = x3.toInt % 8 := ti_rem e67 rfl (show (8 : Int32).toInt = 8 from rfl) (by omega) (by decide)
        refine ok_if (fun c68 => ?_) (fun c68 => ?_)
        ·
          replace c68 := ti_eqP c68 rfl (show (2 : Int32).toInt = 2 from rfl)
          exact x_make_149 (nn := nn) (sd := sd) (TP := TP) (TM := TM) (TR := TR) (r0 := r0)   (x2 := x2) (x3 := x3) (x4 := x4) (x5 := x5) (x6 := x6) hI hA r_x2 r_x3 r_x4 r_x5 r_x6 q0 q1 q2 q3 q4 (by omega)
        ·
          replace c68 := ti_eqN c68 rfl (show (2 : Int32).toInt = 2 from rfl)
          exact x_make_194 (nn := nn) (sd := sd) (TP := TP) (TM := TM) (TR := TR) (r0 := r0)   (x2 := x2) (x3 := x3) (x4 := x4) (x5 := x5) (x6 := x6) hI hA r_x2 r_x3 r_x4 r_x5 r_x6 q0 q1 q2 q3 (by rw [q4, k2_n (by omega)])
    ·
      replace c64 := ti_eqN c64 rfl (show (4 : Int32).toInt = 4 from rfl)
      exact x_make_194 (nn := nn) (sd := sd) (TP := TP) (TM := TM) (TR := TR) (r0 := r0)   (x2 := x2) (x3 := x3) (x4 := x4) (x5 := x5) (x6 := x6) hI hA r_x2 r_x3 r_x4 r_x5 r_x6 q0 q1 q2 q3 (by rw [q4, k2_n (by omega)])
  ·
    replace c62 := ti_eqN c62 rfl (show (6 : Int32).toInt = 6 from rfl)
    exact x_make_194 (nn := nn) (sd := sd) (TP := TP) (TM := TM) (TR := TR) (r0 := r0)   (x2 := x2) (x3 := x3) (x4 := x4) (x5 := x5) (x6 := x6) hI hA r_x2 r_x3 r_x4 r_x5 r_x6 q0 q1 q2 q3 (by rw [q4, k2_n (by omega)])
theorem x_make_68 {nn sd TP : Int} {TM : Int → Int} {TR r0 : Int32} {I : Nat → Int32} {A : Nat → Nat → Int32} {x2 : Int32} {x3 : Int32} {x4 : Int32} {x5 : Int32} {x6 : Int32} {t0 : Int32} (hI : TJ I) (hA : TK A) (r_x2 : (0 : Int) ≤ x2.toInt ∧ x2.toInt ≤ (63 : Int)) (r_x3 : (0 : Int) ≤ x3.toInt ∧ x3.toInt ≤ (63 : Int)) (r_x4 : (0 : Int) ≤ x4.toInt ∧ x4.toInt ≤ (6 : Int)) (r_x5 : (0 : Int) ≤ x5.toInt ∧ x5.toInt ≤ (14 : Int)) (r_x6 : (0 : Int) ≤ x6.toInt ∧ x6.toInt ≤ (1 : Int)) (q0 : (I 29).toInt = nn ∧ nn ≤ 1999 ∧ (I 25).toInt = sd) (q1 : I 26 = r0) (q2 : TR = (r0 &&& (gn x2.toInt ^^^ (-1 : Int32))) &&& (gn x3.toInt ^^^ (-1 : Int32))) (q3 : TP = psF TM sd x6.toInt x2.toInt x3.toInt) (q4 : TM = k3 (k2 (k1 (mR A) x6.toInt x2.toInt x3.toInt) x5.toInt x2.toInt x3.toInt) sd x4.toInt x5.toInt x2.toInt x3.toInt) : Ok (f_make_68 x2 x3 x4 x5 x6 t0 I A) (fun o => TJ o.2.1 ∧ TK o.2.2 ∧ (mR o.2.2 = TM) ∧ (o.2.1 26 = TR) ∧ ((o.2.1 27).toInt = TP) ∧ ((o.2.1 29).toInt = nn + sd) ∧ ((o.2.1 25).toInt = 1 - sd)) := by
  unfold f_make_68
  have b_I_29 := tI_29 hI
  have b_I_25 := tI_25 hI
  refine ok_bnd (fun I1 e69 => ?_)
  have hI_I1 : TJ I1 := e69.symm ▸ tj_w hI (k := 28) rfl
  have : (I1 29).toInt = (I 29).toInt := by rw [e69]; rfl
  have : (I1 25).toInt = (I 25).toInt := by rw [e69]; rfl
  have z_I1_26 : I1 26 = r0 := by rw [e69]; exact (upd_ne (by decide)).trans q1
  refine ok_if (fun c70 => ?_) (fun c70 => ?_)
  ·
    replace c70 := ti_eqP c70 rfl (show (0 : Int32).toInt = 0 from rfl)
    have b_I1_25 := tI_25 hI_I1
    have b_I1_29 := tI_29 hI_I1
    exact x_make_114 (nn := nn) (sd := sd) (TP := TP) (TM := TM) (TR := TR) (r0 := r0)   (x2 := x2) (x3 := x3) (x4 := x4) (x5 := x5) (x6 := x6) hI_I1 hA r_x2 r_x3 r_x4 r_x5 r_x6 (by omega) z_I1_26 q2 q3 (by rw [q4]; first | rw [k1_n (by omega)] | rw [k1_y (by omega), y_A9, show v8.toInt = x2.toInt / 8 * 8 + x3.toInt % 8 by omega])
  ·
    replace c70 := ti_eqN c70 rfl (show (0 : Int32).toInt = 0 from rfl)
    refine ok_chk (ti_in (by omega) (by omega)) ?_
    refine ok_bnd (fun v2 e71 => ?_)
    have u_v2 : v2.toInt = mR A x3.toInt := mR_at e71 (by omega) (by omega)
    refine ok_if (fun c72 => ?_) (fun c72 => ?_)
    ·
      replace c72 := ti_eqP c72 rfl (show (0 : Int32).toInt = 0 from rfl)
      refine ok_bnd (fun v3 e73 => ?_)
      have t_v3 : v3.toInt = x2.toInt % 8 := ti_rem e73 rfl (show (8 : Int32).toInt = 8 from rfl) (by omega) (by decide)
      refine ok_bnd (fun v4 e74 => ?_)
      have t_v4 : v4.toInt = x3.toInt % 8 := ti_rem e74 rfl (show (8 : Int32).toInt = 8 from rfl) (by omega) (by decide)
      refine ok_if (fun c75 => ?_) (fun c75 => ?_)
      ·
        replace c75 := ti_eqP c75 rfl rfl
        have b_I1_25 := tI_25 hI_I1
        have b_I1_29 := tI_29 hI_I1
        exact x_make_114 (nn := nn) (sd := sd) (TP := TP) (TM := TM) (TR := TR) (r0 := r0)   (x2 := x2) (x3 := x3) (x4 := x4) (x5 := x5) (x6 := x6) hI_I1 hA r_x2 r_x3 r_x4 r_x5 r_x6 (by omega) z_I1_26 q2 q3 (by rw [q4]; first | rw [k1_n (by omega)] | rw [k1_y (by omega), y_A9, show v8.toInt = x2.toInt / 8 * 8 + x3.toInt % 8 by omega])
      ·
        replace c75 := ti_eqN c75 rfl rfl
        refine ok_bnd (fun v5 e76 => ?_)
        have t_v5 : v5.toInt = x2.toInt / 8 := ti_div e76 rfl (show (8 : Int32).toInt = 8 from rfl) (by omega) (by decide)
        refine ok_bnd (fun v6 e77 => ?_)
        have t_v6 : v6.toInt = v5.toInt * 8 := ti_mul e77 rfl (show (8 : Int32).toInt = 8 from rfl) (by omega) (by omega)
        refine ok_bnd (fun v7 e78 => ?_)
        have t_v7 : v7.toInt = x3.toInt % 8 := ti_rem e78 rfl (show (8 : Int32).toInt = 8 from rfl) (by omega) (by decide)
        refine ok_bnd (fun v8 e79 => ?_)
        have t_v8 : v8.toInt = v6.toInt + v7.toInt := ti_add e79 rfl rfl (by omega) (by omega)
        refine ok_chk (ti_in (by omega) (by omega)) ?_
        refine ok_bnd (fun A9 e80 => ?_)
        have hA_A9 : TK A9 := e80.symm ▸ tk_w hA (j := 24) rfl
        have y_A9 : mR A9 = up (mR A) v8.toInt 0 := mR_up e80 (by omega) (by omega)
        have b_I1_25 := tI_25 hI_I1
        have b_I1_29 := tI_29 hI_I1
        exact x_make_114 (nn := nn) (sd := sd) (TP := TP) (TM := TM) (TR := TR) (r0 := r0)   (x2 := x2) (x3 := x3) (x4 := x4) (x5 := x5) (x6 := x6) hI_I1 hA_A9 r_x2 r_x3 r_x4 r_x5 r_x6 (by omega) z_I1_26 q2 q3 (by rw [q4]; first | rw [k1_n (by omega)] | rw [k1_y (by omega), y_A9, show v8.toInt = x2.toInt / 8 * 8 + x3.toInt % 8 by omega])
    ·
      replace c72 := ti_eqN c72 rfl (show (0 : Int32).toInt = 0 from rfl)
      have b_I1_25 := tI_25 hI_I1
      have b_I1_29 := tI_29 hI_I1
      exact x_make_114 (nn := nn) (sd := sd) (TP := TP) (TM := TM) (TR := TR) (r0 := r0)   (x2 := x2) (x3 := x3) (x4 := x4) (x5 := x5) (x6 := x6) hI_I1 hA r_x2 r_x3 r_x4 r_x5 r_x6 (by omega) z_I1_26 q2 q3 (by rw [q4]; first | rw [k1_n (by omega)] | rw [k1_y (by omega), y_A9, show v8.toInt = x2.toInt / 8 * 8 + x3.toInt % 8 by omega])
theorem x_make_42 {nn sd TP : Int} {TM : Int → Int} {TR r0 : Int32} {I : Nat → Int32} {A : Nat → Nat → Int32} {x1 : Int32} {x2 : Int32} {x3 : Int32} {x4 : Int32} {x5 : Int32} {t0 : Int32} (hI : TJ I) (hA : TK A) (r_x1 : (0 : Int) ≤ x1.toInt ∧ x1.toInt ≤ (24575 : Int)) (r_x2 : (0 : Int) ≤ x2.toInt ∧ x2.toInt ≤ (63 : Int)) (r_x3 : (0 : Int) ≤ x3.toInt ∧ x3.toInt ≤ (63 : Int)) (r_x4 : (0 : Int) ≤ x4.toInt ∧ x4.toInt ≤ (6 : Int)) (r_x5 : (0 : Int) ≤ x5.toInt ∧ x5.toInt ≤ (14 : Int)) (r_t0 : (0 : Int) ≤ t0.toInt ∧ t0.toInt ≤ (1 : Int)) (q0 : (I 29).toInt = nn ∧ nn ≤ 1999 ∧ (I 25).toInt = sd) (q1 : I 26 = r0) (q2 : TR = (r0 &&& (gn x2.toInt ^^^ (-1 : Int32))) &&& (gn x3.toInt ^^^ (-1 : Int32))) (q3 : TP = psF TM sd t0.toInt x2.toInt x3.toInt) (q4 : TM = k3 (k2 (k1 (mR A) t0.toInt x2.toInt x3.toInt) x5.toInt x2.toInt x3.toInt) sd x4.toInt x5.toInt x2.toInt x3.toInt) : Ok (f_make_42 x1 x2 x3 x4 x5 t0 I A) (fun o => TJ o.2.1 ∧ TK o.2.2 ∧ (mR o.2.2 = TM) ∧ (o.2.1 26 = TR) ∧ ((o.2.1 27).toInt = TP) ∧ ((o.2.1 29).toInt = nn + sd) ∧ ((o.2.1 25).toInt = 1 - sd)) := by
  unfold f_make_42
  have b_I_29 := tI_29 hI
  have b_I_25 := tI_25 hI
  refine ok_if (fun c81 => ?_) (fun c81 => ?_)
  ·
    replace c81 := ti_eqP c81 rfl (show (0 : Int32).toInt = 0 from rfl)
    obtain ⟨r1, h_r1, p_r1⟩ := ro (t_isTaking (x1 := x1)  hI hA r_x1)
    refine ok_clR h_r1 ?_
    dsimp only at p_r1
    refine ok_if (fun c82 => ?_) (fun c82 => ?_)
    ·
      replace c82 := ti_eqP c82 rfl (show (0 : Int32).toInt = 0 from rfl)
      refine ok_bnd (fun v2 e83 => ?_)
      exact x_make_68 (nn := nn) (sd := sd) (TP := TP) (TM := TM) (TR := TR) (r0 := r0)   (x2 := x2) (x3 := x3) (x4 := x4) (x5 := x5) (x6 := t0) (t0 := v2) hI hA r_x2 r_x3 r_x4 r_x5 r_t0 q0 q1 q2 q3 q4
    ·
      replace c82 := ti_eqN c82 rfl (show (0 : Int32).toInt = 0 from rfl)
      unfold f_make_58
      exact x_make_68 (nn := nn) (sd := sd) (TP := TP) (TM := TM) (TR := TR) (r0 := r0)   (x2 := x2) (x3 := x3) (x4 := x4) (x5 := x5) (x6 := t0) (t0 := (0 : Int32)) hI hA r_x2 r_x3 r_x4 r_x5 r_t0 q0 q1 q2 q3 q4
  ·
    replace c81 := ti_eqN c81 rfl (show (0 : Int32).toInt = 0 from rfl)
    unfold f_make_58
    exact x_make_68 (nn := nn) (sd := sd) (TP := TP) (TM := TM) (TR := TR) (r0 := r0)   (x2 := x2) (x3 := x3) (x4 := x4) (x5 := x5) (x6 := t0) (t0 := (0 : Int32)) hI hA r_x2 r_x3 r_x4 r_x5 r_t0 q0 q1 q2 q3 q4
theorem x_make_0 {nn sd TP : Int} {TM : Int → Int} {TR r0 : Int32} {I : Nat → Int32} {A : Nat → Nat → Int32} {x1 : Int32} (hI : TJ I) (hA : TK A) (r_x1 : (0 : Int) ≤ x1.toInt ∧ x1.toInt ≤ (24575 : Int)) (q0 : MBd (mR A)) (q1 : I 26 = r0) (q2 : TR = (r0 &&& (gn (x1.toInt % 64) ^^^ (-1 : Int32))) &&& (gn (x1.toInt / 64 % 64) ^^^ (-1 : Int32))) (q3 : TP = psF TM sd (pwb (mR A) (x1.toInt % 64)) (x1.toInt % 64) (x1.toInt / 64 % 64)) (q4 : TM = mkR (mR A) sd (x1.toInt % 64) (x1.toInt / 64 % 64) (x1.toInt / 4096)) (q5 : (I 29).toInt = nn ∧ nn ≤ 1999 ∧ (I 25).toInt = sd) : Ok (f_make_0 x1 I A) (fun o => TJ o.2.1 ∧ TK o.2.2 ∧ (mR o.2.2 = TM) ∧ (o.2.1 26 = TR) ∧ ((o.2.1 27).toInt = TP) ∧ ((o.2.1 29).toInt = nn + sd) ∧ ((o.2.1 25).toInt = 1 - sd)) := by
  unfold f_make_0
  have b_I_29 := tI_29 hI
  have b_I_25 := tI_25 hI
  refine ok_bnd (fun v1 e84 => ?_)
  have t_v1 : v1.toInt = x1.toInt % 64 := ti_rem e84 rfl (show (64 : Int32).toInt = 64 from rfl) (by omega) (by decide)
  refine ok_bnd (fun v2 e85 => ?_)
  have t_v2 : v2.toInt = x1.toInt / 64 := ti_div e85 rfl (show (64 : Int32).toInt = 64 from rfl) (by omega) (by decide)
  refine ok_bnd (fun v3 e86 => ?_)
  have t_v3 : v3.toInt = v2.toInt % 64 := ti_rem e86 rfl (show (64 : Int32).toInt = 64 from rfl) (by omega) (by decide)
  refine ok_bnd (fun v4 e87 => ?_)
  have t_v4 : v4.toInt = x1.toInt / 4096 := ti_div e87 rfl (show (4096 : Int32).toInt = 4096 from rfl) (by omega) (by decide)
  refine ok_chk (ti_in (by omega) (by omega)) ?_
  refine ok_bnd (fun v5 e88 => ?_)
  have u_v5 : v5.toInt = mR A v1.toInt := mR_at e88 (by omega) (by omega)
  have w_v5 := q0 (v1.toInt)
  obtain ⟨r6, h_r6, p_r6⟩ := ro (x_kind (x0 := v5)  hI hA (by omega))
  refine ok_clR h_r6 ?_
  dsimp only at p_r6
  refine ok_if (fun c89 => ?_) (fun c89 => ?_)
  ·
    replace c89 := ti_eqP c89 rfl (show (1 : Int32).toInt = 1 from rfl)
    exact x_make_42 (nn := nn) (sd := sd) (TP := TP) (TM := TM) (TR := TR) (r0 := r0)   (x1 := x1) (x2 := v1) (x3 := v3) (x4 := v4) (x5 := v5) (t0 := (1 : Int32)) hI hA r_x1 (by omega) (by omega) (by omega) (by omega) (by decide) q5 q1 (by rw [q2, ← t_v1, show x1.toInt / 64 % 64 = v3.toInt by omega]) (by rw [q3, ← t_v1, show x1.toInt / 64 % 64 = v3.toInt by omega]; unfold pwb; first | rw [if_pos (by omega)]; rfl | rw [if_neg (by omega)]; rfl) (by rw [q4]; unfold mkR; rw [← t_v1, show x1.toInt / 64 % 64 = v3.toInt by omega, show x1.toInt / 4096 = v4.toInt by omega, ← u_v5]; unfold pwb; rw [← u_v5]; first | rw [if_pos (by omega)]; rfl | rw [if_neg (by omega)]; rfl)
  ·
    replace c89 := ti_eqN c89 rfl (show (1 : Int32).toInt = 1 from rfl)
    exact x_make_42 (nn := nn) (sd := sd) (TP := TP) (TM := TM) (TR := TR) (r0 := r0)   (x1 := x1) (x2 := v1) (x3 := v3) (x4 := v4) (x5 := v5) (t0 := (0 : Int32)) hI hA r_x1 (by omega) (by omega) (by omega) (by omega) (by decide) q5 q1 (by rw [q2, ← t_v1, show x1.toInt / 64 % 64 = v3.toInt by omega]) (by rw [q3, ← t_v1, show x1.toInt / 64 % 64 = v3.toInt by omega]; unfold pwb; first | rw [if_pos (by omega)]; rfl | rw [if_neg (by omega)]; rfl) (by rw [q4]; unfold mkR; rw [← t_v1, show x1.toInt / 64 % 64 = v3.toInt by omega, show x1.toInt / 4096 = v4.toInt by omega, ← u_v5]; unfold pwb; rw [← u_v5]; first | rw [if_pos (by omega)]; rfl | rw [if_neg (by omega)]; rfl)
theorem x_make {nn sd TP : Int} {TM : Int → Int} {TR r0 : Int32} {I : Nat → Int32} {A : Nat → Nat → Int32} {x1 : Int32} (hI : TJ I) (hA : TK A) (r_x1 : (0 : Int) ≤ x1.toInt ∧ x1.toInt ≤ (24575 : Int)) (q0 : MBd (mR A)) (q1 : I 26 = r0) (q2 : TR = (r0 &&& (gn (x1.toInt % 64) ^^^ (-1 : Int32))) &&& (gn (x1.toInt / 64 % 64) ^^^ (-1 : Int32))) (q3 : TP = psF TM sd (pwb (mR A) (x1.toInt % 64)) (x1.toInt % 64) (x1.toInt / 64 % 64)) (q4 : TM = mkR (mR A) sd (x1.toInt % 64) (x1.toInt / 64 % 64) (x1.toInt / 4096)) (q5 : (I 29).toInt = nn ∧ nn ≤ 1999 ∧ (I 25).toInt = sd) : Ok (f_make x1 I A) (fun o => TJ o.2.1 ∧ TK o.2.2 ∧ (mR o.2.2 = TM) ∧ (o.2.1 26 = TR) ∧ ((o.2.1 27).toInt = TP) ∧ ((o.2.1 29).toInt = nn + sd) ∧ ((o.2.1 25).toInt = 1 - sd)) := x_make_0 (nn := nn) (sd := sd) (TP := TP) (TM := TM) (TR := TR) (r0 := r0) hI hA r_x1 q0 q1 q2 q3 q4 q5
