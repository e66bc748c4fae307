/-- the reference while it writes -/
def WRi (I0 : Nat → Int32) (A0 : Nat → Nat → Int32) (I : Nat → Int32) (A : Nat → Nat → Int32) (w : List Int) : Prop := OUr I A w ∧ (TJ I ∧ TK A) ∧ (∀ j, j ∉ [0, 3, 25, 26, 27, 28, 29, 33, 36] → I j = I0 j) ∧ ∀ j, j ∉ [4, 24, 30, 31, 32, 34, 35] → A j = A0 j
section WRR
variable {I0 I I' : Nat → Int32} {A0 A A' : Nat → Nat → Int32} {w rr K sg : List Int} {o : Int32 × MS} {x1 x2 x3 x4 : Int32} {g k nd : Nat} {L : List (List Int × List Int)} {st P : PO} {T : TRa} {r v : Int}
theorem wr_ink (h : WRi I0 A0 I A w) (hc : 0 ≤ x1.toInt ∧ x1.toInt ≤ 65535) (hf : f_ink x1 I A = some o) : WRi I0 A0 o.2.1 o.2.2 (w ++ [x1.toInt]) ∧ (∀ j, j ≠ 3 → o.2.1 j = I j) ∧ ∀ j, j ≠ 4 → o.2.2 j = A j := by
  obtain ⟨⟨h3, h4⟩, ⟨hI, hA⟩, fI, fA⟩ := h
  have b3 := tI_3 hI
  have hf : f_ink_0 x1 I A = some o := hf
  unfold f_ink_0 at hf
  obtain ⟨c, hf⟩ := m_chkE hf
  obtain ⟨A1, e1, hf⟩ := m_bndE hf
  obtain ⟨v2, e2, hf⟩ := m_bndE hf
  obtain ⟨I3, e3, hf⟩ := m_bndE hf
  have i3 : (I 3).toNatClampNeg = w.length := cl_n h3
  rw [i3] at c e1
  have l8 : w.length < 80000 := Nat.lt_of_not_le (fun e => c (Or.inr e))
  have t2 : v2.toInt = (I 3).toInt + 1 := ti_add e2 rfl (show (1 : Int32).toInt = 1 from rfl) (by omega) (by omega)
  have eo := (Option.some.inj hf).symm
  rw [eo]
  have nI : ∀ j, j ≠ 3 → I3 j = I j := fun j hj => by rw [e3, upd_ne hj]
  have nA : ∀ j, j ≠ 4 → A1 j = A j := fun j hj => by rw [e1]; exact va_up_ne _ _ hj
  have na : (vp_nar .char x1).toInt = x1.toInt := nar_ci rfl hc.1 hc.2
  refine ⟨⟨⟨?_, fun i hi => ?_⟩, ⟨?_, ?_⟩, fun j hj => ?_, fun j hj => ?_⟩, nI, nA⟩
  · show (I3 3).toInt = ((w ++ [x1.toInt]).length : Int)
    rw [e3, upd_self, List.length_append]
    show v2.toInt = ((w.length + 1 : Nat) : Int)
    omega
  · show (A1 4 i).toInt = wA (w ++ [x1.toInt]) (i : Int)
    rw [e1, va_up_self, wA_app]
    by_cases e : i = w.length
    · rw [e, upd_self, if_pos rfl]; exact na
    · have hi2 : i < w.length + 1 := by
        rw [List.length_append] at hi
        exact hi
      rw [upd_ne e, if_neg (by omega)]
      exact h4 i (by omega)
  · show TJ I3
    rw [e3]
    exact tj_u hI (k := 3) (show (0 : Int) ≤ v2.toInt by omega) (show v2.toInt ≤ (80000 : Int) by omega)
  · show TK A1
    rw [e1]
    exact tk_u hA (j := 4) (show (0 : Int) ≤ (vp_nar .char x1).toInt by rw [na]; exact hc.1) (show (vp_nar .char x1).toInt ≤ (65535 : Int) by rw [na]; exact hc.2)
  · exact (nI j (fun e => hj (by rw [e]; decide))).trans (fI j hj)
  · exact (nA j (fun e => hj (by rw [e]; decide))).trans (fA j hj)
theorem wr_fr (h : WRi I0 A0 I A w) (hI' : TJ I') (hA' : TK A') (fI : ∀ j, j ∉ [25, 26, 27, 28, 29, 33, 36] → I' j = I j) (fA : ∀ j, j ∉ [24, 30, 31, 32, 34, 35] → A' j = A j) : WRi I0 A0 I' A' w := by
  obtain ⟨⟨h3, h4⟩, -, gI, gA⟩ := h
  refine ⟨⟨by rw [fI 3 (by decide)]; exact h3, by rw [fA 4 (by decide)]; exact h4⟩, ⟨hI', hA'⟩, fun j hj => (fI j (fun e => hj ?_)).trans (gI j hj), fun j hj => (fA j (fun e => hj ?_)).trans (gA j hj)⟩
  · simp only [List.mem_cons, List.not_mem_nil, or_false] at e ⊢
    omega
  · simp only [List.mem_cons, List.not_mem_nil, or_false] at e ⊢
    omega
/-- numbers -/
theorem wr_18 (hv : 0 ≤ v ∧ v ≤ 9999) (h1 : x1.toInt = v) : ∀ (n : Nat) (x2 : Int32) (I : Nat → Int32) (A : Nat → Nat → Int32) (w : List Int), UNt x2.toInt → WRi I0 A0 I A w → f_sayNumber_18 n x1 x2 I A = some o → WRi I0 A0 o.2.1 o.2.2 (w ++ dgU x2.toInt v) := by
  have z0 : (0 : Int32).toInt = 0 := rfl
  have z10 : (10 : Int32).toInt = 10 := rfl
  intro n
  induction n with
  | zero => intro x2 I A w _ _ hf; cases hf
  | succ n ih =>
    intro x2 I A w hu h hf
    have hf : f_sayNumber_18s (f_sayNumber_18 n) x1 x2 I A = some o := hf
    unfold f_sayNumber_18s at hf
    rcases m_ifE hf with ⟨d, hf⟩ | ⟨d, hf⟩
    · replace d := ti_leP (a := x2) (b := (0 : Int32)) d rfl z0
      have e0 : x2.toInt = 0 := by unfold UNt at hu; omega
      have eo := (Option.some.inj hf).symm
      rw [eo, e0]
      show WRi I0 A0 I A (w ++ [])
      rw [List.append_nil]; exact h
    · replace d := ti_leN (a := x2) (b := (0 : Int32)) d rfl z0
      obtain ⟨-, hf⟩ := m_chkE hf
      obtain ⟨v1, e1, hf⟩ := m_bndE hf
      have t1 : v1.toInt = v / x2.toInt := ti_div e1 h1 rfl hv.1 d
      have q1 : 0 ≤ v / x2.toInt := Int.ediv_nonneg hv.1 (by omega)
      obtain ⟨v2, e2, hf⟩ := m_bndE hf
      have t2 : v2.toInt = v / x2.toInt % 10 := ti_rem e2 t1 z10 q1 (by decide)
      have b2 : 0 ≤ v / x2.toInt % 10 ∧ v / x2.toInt % 10 < 10 := ⟨Int.emod_nonneg _ (by decide), Int.emod_lt_of_pos _ (by decide)⟩
      obtain ⟨v3, e3, hf⟩ := m_bndE hf
      have t3 : v3.toInt = 48 + v / x2.toInt % 10 := ti_add e3 (show (48 : Int32).toInt = 48 from rfl) t2 (by omega) (by omega)
      obtain ⟨v4, e4, hf⟩ := m_bndE hf
      have t4 : v4.toInt = 48 + v / x2.toInt % 10 := by rw [e4]; exact nar_ci t3 (by omega) (by omega)
      obtain ⟨⟨r5, Ic5, Ac5⟩, h_5, hf⟩ := m_clE hf
      have W5 := (wr_ink h (by omega) h_5).1
      dsimp only at hf W5
      obtain ⟨v6, e6, hf⟩ := m_bndE hf
      have t6 : v6.toInt = x2.toInt / 10 := ti_div e6 rfl z10 (by omega) (by decide)
      obtain ⟨u6, g6⟩ := dgu_s (v := v) hu d
      have q := ih v6 Ic5 Ac5 _ (by rw [t6]; exact u6) W5 hf
      rw [t6, t4, List.append_assoc, ← g6] at q
      exact q
theorem wr_2 (hv : 0 ≤ v ∧ v ≤ 9999) (h1 : x1.toInt = v) : ∀ (n : Nat) (x2 : Int32), (x2.toInt = 1 ∨ x2.toInt = 10 ∨ x2.toInt = 100 ∨ x2.toInt = 1000) → (x2.toInt = 1 ∨ x2.toInt ≤ v) → WRi I0 A0 I A w → f_sayNumber_2 n x1 x2 I A = some o → WRi I0 A0 o.2.1 o.2.2 (w ++ nmW v) := by
  have z10 : (10 : Int32).toInt = 10 := rfl
  intro n
  induction n with
  | zero => intro x2 _ _ _ hf; cases hf
  | succ n ih =>
    intro x2 hu hl h hf
    have hf : f_sayNumber_2s (f_sayNumber_2 n) x1 x2 I A = some o := hf
    unfold f_sayNumber_2s at hf
    obtain ⟨v1, e1, hf⟩ := m_bndE hf
    have t1 : v1.toInt = x2.toInt * 10 := ti_mul e1 rfl z10 (by omega) (by omega)
    rcases m_ifE hf with ⟨d, hf⟩ | ⟨d, hf⟩
    · replace d := ti_ltP (a := x1) (b := v1) d h1 t1
      rw [nmu_u hu hl d]
      exact wr_18 hv h1 mFuel x2 I A w (by unfold UNt; omega) h hf
    · replace d := ti_ltN (a := x1) (b := v1) d h1 t1
      obtain ⟨v2, e2, hf⟩ := m_bndE hf
      have t2 : v2.toInt = x2.toInt * 10 := ti_mul e2 rfl z10 (by omega) (by omega)
      exact ih v2 (by omega) (by omega) h hf
theorem wr_num (hv : 0 ≤ v ∧ v ≤ 9999) (h1 : x1.toInt = v) (h : WRi I0 A0 I A w) (hf : f_sayNumber x1 I A = some o) : WRi I0 A0 o.2.1 o.2.2 (w ++ nmW v) := wr_2 hv h1 mFuel 1 (Or.inl rfl) (Or.inl rfl) h hf
/-- a remark -/
theorem wr_rem8 (hr : NRr A0 k rr) (hk : k < 602) (hl : rr.length ≤ 200) (h1 : x1.toInt = (k : Int)) : ∀ (n : Nat) (x2 : Int32) (I : Nat → Int32) (A : Nat → Nat → Int32) (j : Nat), x2.toInt = (j : Int) → j ≤ rr.length → WRi I0 A0 I A (w ++ rr.take j) → f_sayRemark_8 n x1 x2 I A = some o → WRi I0 A0 o.2.1 o.2.2 (w ++ (rr ++ [125])) := by
  intro n
  induction n with
  | zero => intro x2 I A j _ _ _ hf; cases hf
  | succ n ih =>
    intro x2 I A j hx hj h hf
    have hf : f_sayRemark_8s (f_sayRemark_8 n) x1 x2 I A = some o := hf
    unfold f_sayRemark_8s at hf
    obtain ⟨-, hf⟩ := m_chkE hf
    obtain ⟨v1, e1, hf⟩ := m_bndE hf
    have t1 : v1.toInt = (rr.length : Int) := by rw [e1, cl_n h1, h.2.2.2 14 (by decide)]; exact hr.1
    rcases m_ifE hf with ⟨d, hf⟩ | ⟨d, hf⟩
    · replace d := ti_leP (a := v1) (b := x2) d rfl rfl
      have ej : j = rr.length := by omega
      rw [ej, List.take_length] at h
      obtain ⟨⟨r2, Ic2, Ac2⟩, h_2, hf⟩ := m_clE hf
      have W2 := (wr_ink h (by decide) h_2).1
      have eo := (Option.some.inj hf).symm
      rw [eo, ← List.append_assoc]
      exact W2
    · replace d := ti_leN (a := v1) (b := x2) d rfl rfl
      have jl : j < rr.length := by omega
      obtain ⟨v3, e3, hf⟩ := m_bndE hf
      obtain ⟨v4, e4, hf⟩ := m_bndE hf
      have t3 : v3.toInt = 200 * x1.toInt := ti_mul e3 (show (200 : Int32).toInt = 200 from rfl) rfl (by omega) (by omega)
      have t4 : v4.toInt = v3.toInt + x2.toInt := ti_add e4 rfl rfl (by omega) (by omega)
      obtain ⟨-, hf⟩ := m_chkE hf
      obtain ⟨v5, e5, hf⟩ := m_bndE hf
      rw [cl_n (n := 200 * k + j) (by omega)] at e5
      have b5 : 0 ≤ v5.toInt ∧ v5.toInt ≤ 65535 := by rw [e5]; exact tA_15 h.2.1.2 _
      have t5 : v5.toInt = wA rr (j : Int) := by rw [e5, h.2.2.2 15 (by decide)]; exact hr.2 j jl
      obtain ⟨⟨r6, Ic6, Ac6⟩, h_6, hf⟩ := m_clE hf
      have W6 := (wr_ink h b5 h_6).1
      dsimp only at W6 hf
      rw [t5, List.append_assoc, take_s jl] at W6
      obtain ⟨v7, e7, hf⟩ := m_bndE hf
      have t7 : v7.toInt = x2.toInt + 1 := ti_add e7 rfl (show (1 : Int32).toInt = 1 from rfl) (by omega) (by omega)
      exact ih v7 Ic6 Ac6 (j + 1) (by omega) (by omega) W6 hf
theorem wr_rem (hr : NRr A0 k rr) (hk : k < 602) (hl : rr.length ≤ 200) (h1 : x1.toInt = (k : Int)) (h : WRi I0 A0 I A w) (hf : f_sayRemark x1 I A = some o) : WRi I0 A0 o.2.1 o.2.2 (w ++ rmW rr) := by
  have hf : f_sayRemark_0 x1 I A = some o := hf
  unfold f_sayRemark_0 at hf
  obtain ⟨⟨r1, Ic1, Ac1⟩, h_1, hf⟩ := m_clE hf
  have W1 := (wr_ink h (by decide) h_1).1
  dsimp only at W1 hf
  have q := wr_rem8 (w := w ++ [(123 : Int32).toInt]) hr hk hl h1 mFuel 0 Ic1 Ac1 0 rfl (Nat.zero_le _) (by rw [List.take_zero, List.append_nil]; exact W1) hf
  rw [List.append_assoc] at q
  exact q
/-- marks and the remark behind a move -/
theorem wr_124 (hK : NKr A0 k K) (hr : NRr A0 k rr) (hk : k < 602) (hl : rr.length ≤ 200) (hl4 : K.length ≤ 4) (h3 : x3.toInt = (k : Int)) : ∀ (n : Nat) (x4 : Int32) (I : Nat → Int32) (A : Nat → Nat → Int32) (w : List Int) (j : Nat), x4.toInt = (j : Int) → j ≤ K.length → WRi I0 A0 I A w → f_sayMove_124 n x3 x4 I A = some o → WRi I0 A0 o.2.1 o.2.2 (w ++ (mkW (K.drop j) ++ rkW rr)) := by
  have z0 : (0 : Int32).toInt = 0 := rfl
  intro n
  induction n with
  | zero => intro x4 I A w j _ _ _ hf; cases hf
  | succ n ih =>
    intro x4 I A w j hx hj h hf
    have hf : f_sayMove_124s (f_sayMove_124 n) x3 x4 I A = some o := hf
    unfold f_sayMove_124s at hf
    obtain ⟨-, hf⟩ := m_chkE hf
    obtain ⟨v1, e1, hf⟩ := m_bndE hf
    have t1 : v1.toInt = (K.length : Int) := by rw [e1, cl_n h3, h.2.2.2 12 (by decide)]; exact hK.1
    rcases m_ifE hf with ⟨d, hf⟩ | ⟨d, hf⟩
    · replace d := ti_leP (a := v1) (b := x4) d rfl rfl
      have ej : j = K.length := by omega
      have ed : mkW (K.drop j) = [] := by rw [ej, List.drop_length]; rfl
      rw [ed, List.nil_append]
      obtain ⟨-, hf⟩ := m_chkE hf
      obtain ⟨v2, e2, hf⟩ := m_bndE hf
      have t2 : v2.toInt = (rr.length : Int) := by rw [e2, cl_n h3, h.2.2.2 14 (by decide)]; exact hr.1
      rcases m_ifE hf with ⟨d2, hf⟩ | ⟨d2, hf⟩
      · replace d2 := ti_leP (a := v2) (b := (0 : Int32)) d2 rfl z0
        have e0 : rr = [] := List.length_eq_zero_iff.1 (by omega)
        have er : rkW rr = [] := if_pos e0
        have eo := (Option.some.inj hf).symm
        rw [eo, er, List.append_nil]
        exact h
      · replace d2 := ti_leN (a := v2) (b := (0 : Int32)) d2 rfl z0
        have e0 : rr ≠ [] := fun e => by rw [e] at t2; have t2 : v2.toInt = 0 := t2; omega
        have er : rkW rr = [32] ++ rmW rr := if_neg e0
        obtain ⟨⟨r3, Ic3, Ac3⟩, h_3, hf⟩ := m_clE hf
        have W3 := (wr_ink h (by decide) h_3).1
        dsimp only at W3 hf
        obtain ⟨⟨r4, Ic4, Ac4⟩, h_4, hf⟩ := m_clE hf
        have W4 := wr_rem hr hk hl h3 W3 h_4
        have eo := (Option.some.inj hf).symm
        rw [eo, er, ← List.append_assoc]
        exact W4
    · replace d := ti_leN (a := v1) (b := x4) d rfl rfl
      have jl : j < K.length := by omega
      obtain ⟨⟨r5, Ic5, Ac5⟩, h_5, hf⟩ := m_clE hf
      have W5 := (wr_ink h (by decide) h_5).1
      dsimp only at W5 hf
      obtain ⟨⟨r6, Ic6, Ac6⟩, h_6, hf⟩ := m_clE hf
      have W6 := (wr_ink W5 (by decide) h_6).1
      dsimp only at W6 hf
      obtain ⟨v7, e7, hf⟩ := m_bndE hf
      obtain ⟨v8, e8, hf⟩ := m_bndE hf
      have t7 : v7.toInt = 4 * x3.toInt := ti_mul e7 (show (4 : Int32).toInt = 4 from rfl) rfl (by omega) (by omega)
      have t8 : v8.toInt = v7.toInt + x4.toInt := ti_add e8 rfl rfl (by omega) (by omega)
      obtain ⟨-, hf⟩ := m_chkE hf
      obtain ⟨v9, e9, hf⟩ := m_bndE hf
      rw [cl_n (n := 4 * k + j) (by omega)] at e9
      have b9 : 0 ≤ v9.toInt ∧ v9.toInt ≤ 255 := by rw [e9]; exact tA_13 W6.2.1.2 _
      have t9 : v9.toInt = K[j] := by rw [e9, W6.2.2.2 13 (by decide), hK.2 j jl, wA_in jl]
      obtain ⟨⟨r10, Ic10, Ac10⟩, h_10, hf⟩ := m_clE hf
      have W10 := wr_num (v := v9.toInt) ⟨b9.1, by omega⟩ rfl W6 h_10
      dsimp only at W10 hf
      obtain ⟨v11, e11, hf⟩ := m_bndE hf
      have t11 : v11.toInt = x4.toInt + 1 := ti_add e11 rfl (show (1 : Int32).toInt = 1 from rfl) (by omega) (by omega)
      have q := ih v11 Ic10 Ac10 _ (j + 1) (by omega) (by omega) W10 hf
      rw [t9] at q
      have ed : mkW (K.drop j) = [(32 : Int32).toInt] ++ ([(36 : Int32).toInt] ++ (nmW K[j] ++ mkW (K.drop (j + 1)))) := by
        rw [List.drop_eq_getElem_cons jl]
        unfold mkW
        rw [List.flatMap_cons]
        rfl
      rw [ed]
      simp only [List.append_assoc] at q ⊢
      exact q
/-- the signs behind -/
theorem wr_95 (hK : NKr A0 k K) (hr : NRr A0 k rr) (hk : k < 602) (hl : rr.length ≤ 200) (hl4 : K.length ≤ 4) (h3 : x3.toInt = (k : Int)) (hsl : sg.length ≤ 16) : ∀ (n : Nat) (x4 : Int32) (I : Nat → Int32) (A : Nat → Nat → Int32) (w : List Int) (j : Nat), x4.toInt = (j : Int) → j ≤ sg.length → SPL I A sg → WRi I0 A0 I A w → f_sayMove_95 n x3 x4 I A = some o → WRi I0 A0 o.2.1 o.2.2 (w ++ (sg.drop j ++ (mkW K ++ rkW rr))) := by
  intro n
  induction n with
  | zero => intro x4 I A w j _ _ _ _ hf; cases hf
  | succ n ih =>
    intro x4 I A w j hx hj hS h hf
    have hf : f_sayMove_95s (f_sayMove_95 n) x3 x4 I A = some o := hf
    unfold f_sayMove_95s at hf
    have h36 := hS.1
    rcases m_ifE hf with ⟨d, hf⟩ | ⟨d, hf⟩
    · replace d := ti_leP (a := I 36) (b := x4) d rfl rfl
      have ej : j = sg.length := by omega
      rw [ej, List.drop_length, List.nil_append]
      have q := wr_124 hK hr hk hl hl4 h3 mFuel 0 I A w 0 rfl (Nat.zero_le _) h hf
      rw [List.drop_zero] at q
      exact q
    · replace d := ti_leN (a := I 36) (b := x4) d rfl rfl
      have jl : j < sg.length := by omega
      obtain ⟨-, hf⟩ := m_chkE hf
      obtain ⟨v1, e1, hf⟩ := m_bndE hf
      rw [cl_n hx] at e1
      have b1 : 0 ≤ v1.toInt ∧ v1.toInt ≤ 65535 := by rw [e1]; exact tA_35 h.2.1.2 _
      have t1 : v1.toInt = sg[j] := by
        have := hS.2 (j : Int) (by omega) (by omega)
        rw [Int.toNat_natCast, wA_in jl] at this
        rw [e1]; exact this
      obtain ⟨⟨r2, Ic2, Ac2⟩, h_2, hf⟩ := m_clE hf
      obtain ⟨W2, nI, nA⟩ := wr_ink h b1 h_2
      dsimp only at W2 nI nA hf
      obtain ⟨v3, e3, hf⟩ := m_bndE hf
      have t3 : v3.toInt = x4.toInt + 1 := ti_add e3 rfl (show (1 : Int32).toInt = 1 from rfl) (by omega) (by omega)
      have q := ih v3 Ic2 Ac2 _ (j + 1) (by omega) (by omega) ⟨by rw [nI 36 (by decide)]; exact h36, by rw [nA 35 (by decide)]; exact hS.2⟩ W2 hf
      rw [t1, List.append_assoc] at q
      rw [List.drop_eq_getElem_cons jl]
      exact q
theorem sg_l {ck : Int} : (sgW P r ck).length ≤ 16 := by
  unfold sgW
  rw [List.length_append]
  have h1 := spW_l (m := om P) (x := r) (ap := apW P r) (tk := tkV P (r % 64) (r / 64 % 64))
  have h2 : (ckL ck).length ≤ 1 := by
    unfold ckL
    split
    · exact Nat.zero_le _
    · exact Nat.le_refl _
  omega
/-- the position, with its number -/
def PQs (I : Nat → Int32) (A : Nat → Nat → Int32) (P : PO) : Prop := QS I A P ∧ (I 29).toInt = onb P
theorem pq_ink (h : PQs I A P) (nI : ∀ j, j ≠ 3 → I' j = I j) (nA : ∀ j, j ≠ 4 → A' j = A j) : PQs I' A' P := ⟨qs_e h.1 (nA 24 (by decide)) (nA 32 (by decide)) (fun j hj => nI j (by omega)), by rw [nI 29 (by decide)]; exact h.2⟩
theorem wr_82 (hK : NKr A0 k K) (hr : NRr A0 k rr) (hk : k < 602) (hl : rr.length ≤ 200) (hl4 : K.length ≤ 4) (h3 : x3.toInt = (k : Int)) (hm : (A0 9 k).toInt = v) (pg : PGd P) (hn : 0 ≤ onb P ∧ onb P ≤ 1299) (LG : LGo P v) (hq : PQs I A P) (h : WRi I0 A0 I A w) (hf : f_sayMove_82 x3 I A = some o) : WRi I0 A0 o.2.1 o.2.2 (w ++ (sgP P v ++ (mkW K ++ rkW rr))) := by
  unfold f_sayMove_82 at hf
  obtain ⟨-, hf⟩ := m_chkE hf
  obtain ⟨v1, e1, hf⟩ := m_bndE hf
  have t1 : v1.toInt = v := by rw [e1, cl_n h3, h.2.2.2 9 (by decide)]; exact hm
  obtain ⟨⟨r2, Ic2, Ac2⟩, h_2, hf⟩ := m_clE hf
  have LG1 : LGo P v1.toInt := by rw [t1]; exact LG
  have f2 := fw_spellWhole h_2
  obtain ⟨tI, tA, -⟩ := ok_of (t_spellWhole h.2.1.1 h.2.1.2 LG1.1 (by rw [hq.2]; omega)) h_2
  obtain ⟨ck, c1, c2⟩ := v_spellWhole ⟨h.2.1.1, h.2.1.2, trivial, trivial, by rw [hq.2]; omega⟩ hq.1 pg LG1 h_2
  dsimp only at hf f2 tI tA c2
  rw [sg_e c1] at c2
  have sl : (sgP P v1.toInt).length ≤ 16 := sg_l
  have W2 : WRi I0 A0 Ic2 Ac2 w := wr_fr h tI tA (fun j hj => f2.1 j (fun e => hj (by simp only [List.mem_cons, List.not_mem_nil, or_false] at e ⊢; omega))) (fun j hj => f2.2 j (fun e => hj (by simp only [List.mem_cons, List.not_mem_nil, or_false] at e ⊢; omega)))
  have q := wr_95 hK hr hk hl hl4 h3 sl mFuel 0 Ic2 Ac2 w 0 rfl (Nat.zero_le _) c2 W2 hf
  rw [List.drop_zero, t1] at q
  exact q
/-- the points -/
theorem wr_47 (hK : NKr A0 k K) (hr : NRr A0 k rr) (hk : k < 602) (hl : rr.length ≤ 200) (hl4 : K.length ≤ 4) (h3 : x3.toInt = (k : Int)) (hm : (A0 9 k).toInt = v) (pg : PGd P) (hn : 0 ≤ onb P ∧ onb P ≤ 1299) (LG : LGo P v) {c : Nat} (hc : c = if osd P = 0 then 1 else 3) : ∀ (n : Nat) (x4 : Int32) (I : Nat → Int32) (A : Nat → Nat → Int32) (w : List Int) (j : Nat), x4.toInt = (j : Int) → j ≤ c → PQs I A P → WRi I0 A0 I A w → f_sayMove_47 n x3 x4 I A = some o → WRi I0 A0 o.2.1 o.2.2 (w ++ (List.replicate (c - j) 46 ++ ([32] ++ (sgP P v ++ (mkW K ++ rkW rr))))) := by
  have z0 : (0 : Int32).toInt = 0 := rfl
  intro n
  induction n with
  | zero => intro x4 I A w j _ _ _ _ hf; cases hf
  | succ n ih =>
    intro x4 I A w j hx hj hq h hf
    have hf : f_sayMove_47s (f_sayMove_47 n) x3 x4 I A = some o := hf
    have c3 : c ≤ 3 := by
      rw [hc]
      split <;> decide
    have go : ∀ t0 : Int32, t0.toInt = (c : Int) → f_sayMove_61 (f_sayMove_47 n) x3 x4 t0 x4 I A = some o → WRi I0 A0 o.2.1 o.2.2 (w ++ (List.replicate (c - j) 46 ++ ([32] ++ (sgP P v ++ (mkW K ++ rkW rr))))) := fun t0 ht hh => by
      unfold f_sayMove_61 at hh
      rcases m_ifE hh with ⟨d, hh⟩ | ⟨d, hh⟩
      · replace d := ti_leP (a := t0) (b := x4) d rfl rfl
        have e0 : c - j = 0 := by omega
        obtain ⟨⟨r1, Ic1, Ac1⟩, h_1, hh⟩ := m_clE hh
        obtain ⟨W1, nI, nA⟩ := wr_ink h (by decide) h_1
        dsimp only at W1 nI nA hh
        have q := wr_82 hK hr hk hl hl4 h3 hm pg hn LG (pq_ink hq nI nA) W1 hh
        rw [List.append_assoc] at q
        rw [e0]
        exact q
      · replace d := ti_leN (a := t0) (b := x4) d rfl rfl
        have e0 : c - j = (c - (j + 1)) + 1 := by omega
        obtain ⟨⟨r2, Ic2, Ac2⟩, h_2, hh⟩ := m_clE hh
        obtain ⟨W2, nI, nA⟩ := wr_ink h (by decide) h_2
        dsimp only at W2 nI nA hh
        obtain ⟨v3, e3, hh⟩ := m_bndE hh
        have t3 : v3.toInt = x4.toInt + 1 := ti_add e3 rfl (show (1 : Int32).toInt = 1 from rfl) (by omega) (by omega)
        have q := ih v3 Ic2 Ac2 _ (j + 1) (by omega) (by omega) (pq_ink hq nI nA) W2 hh
        rw [List.append_assoc] at q
        rw [e0, List.replicate_succ]
        exact q
    unfold f_sayMove_47s at hf
    have s25 := hq.1.1.2.1
    rcases m_ifE hf with ⟨d, hf⟩ | ⟨d, hf⟩
    · have d' : osd P = 0 := by rw [← s25, d]; rfl
      exact go 1 (by rw [hc, if_pos d']; rfl) hf
    · have d' : ¬ osd P = 0 := fun e => d (i32_of (s25.trans e))
      exact go 3 (by rw [hc, if_neg d']; rfl) hf
theorem wr_36 (hK : NKr A0 k K) (hr : NRr A0 k rr) (hk : k < 602) (hl : rr.length ≤ 200) (hl4 : K.length ≤ 4) (h3 : x3.toInt = (k : Int)) (hm : (A0 9 k).toInt = v) (pg : PGd P) (hn : 0 ≤ onb P ∧ onb P ≤ 1299) (LG : LGo P v) (hq : PQs I A P) (h : WRi I0 A0 I A w) (hf : f_sayMove_36 x3 I A = some o) : WRi I0 A0 o.2.1 o.2.2 (w ++ ((nmW (onb P) ++ ((if osd P = 0 then [46] else [46, 46, 46]) ++ [32])) ++ (sgP P v ++ (mkW K ++ rkW rr)))) := by
  unfold f_sayMove_36 at hf
  obtain ⟨⟨r1, Ic1, Ac1⟩, h_1, hf⟩ := m_clE hf
  have f1 := fw_sayNumber h_1
  have W1 := wr_num (v := onb P) ⟨hn.1, by omega⟩ hq.2 h h_1
  dsimp only at f1 W1 hf
  have q1 : PQs Ic1 Ac1 P := pq_ink hq (fun j hj => f1.1 j (by simp only [List.mem_cons, List.not_mem_nil, or_false]; exact hj)) (fun j hj => f1.2 j (by simp only [List.mem_cons, List.not_mem_nil, or_false]; exact hj))
  have q := wr_47 hK hr hk hl hl4 h3 hm pg hn LG (c := if osd P = 0 then 1 else 3) rfl mFuel 0 Ic1 Ac1 _ 0 rfl (Nat.zero_le _) q1 W1 hf
  have er : List.replicate ((if osd P = 0 then 1 else 3) - 0) (46 : Int) = if osd P = 0 then [46] else [46, 46, 46] := by
    by_cases e : osd P = 0
    · rw [if_pos e, if_pos e]; rfl
    · rw [if_neg e, if_neg e]; rfl
  rw [er] at q
  simp only [List.append_assoc] at q ⊢
  exact q
/-- a move on the reference's side -/
theorem wr_move {fr : Bool} (hg : g ≤ 1) (h5 : (I0 5).toInt = (g : Int)) (gr : GMr A0 g L st T r) (n1 : 1 ≤ nd) (nn : nd ≤ tn T) (h1 : x1.toInt = (nd : Int)) (h2 : x2.toInt = if fr = true then 1 else 0) (h : WRi I0 A0 I A w) (hf : f_sayMove x1 x2 I A = some o) : WRi I0 A0 o.2.1 o.2.2 (w ++ mvT st T nd fr) := by
  have hf : f_sayMove_0 x1 x2 I A = some o := hf
  obtain ⟨⟨tr, hw, hl⟩, -, -, -⟩ := id gr
  have h300 := hw.1
  have hP := (hw.2.1 nd n1 nn).1
  obtain ⟨p, hp⟩ : ∃ p : Nat, tP T nd = (p : Int) := ⟨(tP T nd).toNat, by omega⟩
  have hpt : p ≤ tn T := by omega
  have ep : (tP T nd).toNat = p := by omega
  have e5 : I 5 = I0 5 := h.2.2.1 5 (by decide)
  have gA : GMr A g L st T r := gmr_7 hg gr (fun j j1 j2 => h.2.2.2 j (by simp only [List.mem_cons, List.not_mem_nil, or_false]; omega))
  obtain ⟨⟨trA, -, -⟩, spA, -, -⟩ := id gA
  obtain ⟨⟨rp, rm⟩, rK, rR⟩ := tr.2.2 nd nn
  obtain ⟨⟨rpA, -⟩, -, -⟩ := trA.2.2 nd nn
  have wb := hw.2.2.1 nd
  unfold f_sayMove_0 at hf
  obtain ⟨v1, e1, hf⟩ := m_bndE hf
  obtain ⟨v2, e2, hf⟩ := m_bndE hf
  rw [e5] at e1
  have t1 : v1.toInt = 301 * (I0 5).toInt := ti_mul e1 (show (301 : Int32).toInt = 301 from rfl) rfl (by omega) (by omega)
  have t2 : v2.toInt = ((301 * g + nd : Nat) : Int) := by
    have : v2.toInt = v1.toInt + x1.toInt := ti_add e2 rfl rfl (by omega) (by omega)
    omega
  obtain ⟨-, hf⟩ := m_chkE hf
  obtain ⟨v3, e3, hf⟩ := m_bndE hf
  have t3 : v3.toInt = (p : Int) := by rw [e3, cl_n t2, ← hp]; exact rpA
  obtain ⟨⟨r4, Ic4, Ac4⟩, h_4, hf⟩ := m_clE hf
  obtain ⟨a1, a2, a3⟩ := v_place hg (by rw [e5]; exact h5) hw hl h.2.1.1 h.2.1.2 trA spA t3 hpt h_4
  dsimp only at a1 a2 a3 hf
  have W4 : WRi I0 A0 Ic4 Ac4 w := wr_fr h a1.1.1 a1.1.2 (fun j hj => a3.1 j (fun e => hj (by simp only [List.mem_cons, List.not_mem_nil, or_false] at e ⊢; omega))) (fun j hj => a3.2 j (fun e => hj (by simp only [List.mem_cons, List.not_mem_nil, or_false] at e ⊢; omega)))
  have pq : PQs Ic4 Ac4 (posT st T p) := ⟨qs_p a1 a2, a1.2.2.2.2.2⟩
  obtain ⟨pg, pn1, pn2⟩ := lt_pg hw hl p hpt
  have LG := hl.2.2 nd n1 nn
  rw [ep] at LG
  have hn : 0 ≤ onb (posT st T p) ∧ onb (posT st T p) ≤ 1299 := ⟨by omega, by omega⟩
  have s25 := pq.1.1.2.1
  unfold mvT mvX
  rw [ep]
  have yes : f_sayMove_36 v2 Ic4 Ac4 = some o → (osd (posT st T p) = 0 ∨ fr = true) → WRi I0 A0 o.2.1 o.2.2 (w ++ ((if osd (posT st T p) = 0 ∨ fr = true then nmW (onb (posT st T p)) ++ ((if osd (posT st T p) = 0 then [46] else [46, 46, 46]) ++ [32]) else []) ++ (sgP (posT st T p) (tM T nd) ++ (mkW (tK T nd) ++ rkW (tR T nd))))) := fun hh hc => by
    rw [if_pos hc]
    exact wr_36 rK rR (by omega) wb.1 wb.2 t2 rm pg hn LG pq W4 hh
  rcases m_ifE hf with ⟨d, hf⟩ | ⟨d, hf⟩
  · exact yes hf (Or.inl (by rw [← s25, d]; rfl))
  · have d' : ¬ osd (posT st T p) = 0 := fun e => d (i32_of (s25.trans e))
    rcases m_ifE hf with ⟨d2, hf⟩ | ⟨d2, hf⟩
    · have nf : ¬ fr = true := fun e => by
        rw [if_pos e, d2] at h2
        exact absurd h2 (by decide)
      rw [if_neg (fun e => e.elim d' nf), List.nil_append]
      exact wr_82 rK rR (by omega) wb.1 wb.2 t2 rm pg hn LG pq W4 hf
    · refine yes hf (Or.inr ?_)
      cases fr with
      | true => rfl
      | false => exact absurd (i32_of h2) d2
end WRR
