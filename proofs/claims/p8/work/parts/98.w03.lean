section WRH
variable {I0 I I' : Nat → Int32} {A0 A A' : Nat → Nat → Int32} {w : List Int} {o : Int32 × MS} {x1 x2 x3 x4 x6 : Int32} {g k : Nat} {L : List (List Int × List Int)} {st P : PO} {T : TRa} {r v : Int}
/-- what the reference's write leaves -/
def WEo (w : List Int) (o : Int32 × MS) : Prop := OUr o.2.1 o.2.2 w ∧ o.1.toInt = (w.length : Int) ∧ (o.2.1 3).toInt ≤ 80000
theorem wr_238 (hg : g ≤ 1) (h5 : (I0 5).toInt = (g : Int)) (gr : GMr A0 g L st T r) (hr : 0 ≤ r ∧ r ≤ 3) (h6 : (I0 6).toInt = (k : Int)) (hk : k ≤ tn T) (h : WRi I0 A0 I A w) (hf : f_write_238 I A = some o) : WEo (w ++ ((if tL T 0 = [] then [] else lnP st T 301 true 0 ++ [32]) ++ rsW r)) o := by
  have z0 : (0 : Int32).toInt = 0 := rfl
  unfold f_write_238 f_write_278 at hf
  have e5 : I 5 = I0 5 := h.2.2.1 5 (by decide)
  obtain ⟨v1, e1, hf⟩ := m_bndE hf
  rw [e5] at e1
  have t1 : v1.toInt = ((301 * g + 0 : Nat) : Int) := by
    have : v1.toInt = 301 * (I0 5).toInt := ti_mul e1 (show (301 : Int32).toInt = 301 from rfl) rfl (by omega) (by omega)
    omega
  obtain ⟨-, hf⟩ := m_chkE hf
  obtain ⟨v2, e2, hf⟩ := m_bndE hf
  have t2 : v2.toInt = hdC T 0 := by
    rw [e2, cl_n t1, h.2.2.2 10 (by decide)]
    exact trr_hd gr.1.1 (Nat.zero_le _)
  rcases m_ifE hf with ⟨d, hf⟩ | ⟨d, hf⟩
  · replace d := ti_ltP (a := v2) (b := (0 : Int32)) d rfl z0
    rw [if_pos (hd_neg (by omega)), List.nil_append]
    exact wr_280 hg h5 gr hr h6 hk mFuel 0 I A w 0 rfl (Nat.zero_le _) (by rw [List.take_zero, List.append_nil]; exact h) hf
  · replace d := ti_ltN (a := v2) (b := (0 : Int32)) d rfl z0
    have n0 : ¬ tL T 0 = [] := fun e => by
      have := hdC_n.2 e
      omega
    rw [if_neg n0]
    obtain ⟨v3, e3, hf⟩ := m_bndE hf
    rw [e5] at e3
    have t3 : v3.toInt = ((301 * g + 0 : Nat) : Int) := by
      have : v3.toInt = 301 * (I0 5).toInt := ti_mul e3 (show (301 : Int32).toInt = 301 from rfl) rfl (by omega) (by omega)
      omega
    obtain ⟨-, hf⟩ := m_chkE hf
    obtain ⟨v4, e4, hf⟩ := m_bndE hf
    have t4 : v4.toInt = hdC T 0 := by
      rw [e4, cl_n t3, h.2.2.2 10 (by decide)]
      exact trr_hd gr.1.1 (Nat.zero_le _)
    obtain ⟨⟨r5, Ic5, Ac5⟩, h_5, hf⟩ := m_clE hf
    have W5 := wl_line hg h5 gr t4 h h_5
    dsimp only at W5 hf
    obtain ⟨⟨r6, Ic6, Ac6⟩, h_6, hf⟩ := m_clE hf
    have W6 := (wr_ink W5 (by decide) h_6).1
    dsimp only at W6 hf
    have q := wr_280 (w := w ++ lnP st T 301 true 0 ++ [(32 : Int32).toInt]) hg h5 gr hr h6 hk mFuel 0 Ic6 Ac6 0 rfl (Nat.zero_le _) (by rw [List.take_zero, List.append_nil]; exact W6) hf
    have ea : w ++ lnP st T 301 true 0 ++ [(32 : Int32).toInt] ++ rsW r = w ++ (lnP st T 301 true 0 ++ [32] ++ rsW r) := by
      simp only [List.append_assoc]
      rfl
    rw [ea] at q
    exact q
theorem wr_204 (hg : g ≤ 1) (h5 : (I0 5).toInt = (g : Int)) (gr : GMr A0 g L st T r) (hr : 0 ≤ r ∧ r ≤ 3) (h6 : (I0 6).toInt = (k : Int)) (hk : k ≤ tn T) (h : WRi I0 A0 I A w) (hf : f_write_204 I A = some o) : WEo (w ++ ((if tR T 0 = [] then [] else rmW (tR T 0) ++ [32]) ++ ((if tL T 0 = [] then [] else lnP st T 301 true 0 ++ [32]) ++ rsW r))) o := by
  have z0 : (0 : Int32).toInt = 0 := rfl
  unfold f_write_204 at hf
  have e5 : I 5 = I0 5 := h.2.2.1 5 (by decide)
  have rR := (gr.1.1.2.2 0 (Nat.zero_le _)).2.2
  have wb := gr.1.2.1.2.2.1 0
  obtain ⟨v1, e1, hf⟩ := m_bndE hf
  rw [e5] at e1
  have t1 : v1.toInt = ((301 * g + 0 : Nat) : Int) := by
    have : v1.toInt = 301 * (I0 5).toInt := ti_mul e1 (show (301 : Int32).toInt = 301 from rfl) rfl (by omega) (by omega)
    omega
  obtain ⟨-, hf⟩ := m_chkE hf
  obtain ⟨v2, e2, hf⟩ := m_bndE hf
  have t2 : v2.toInt = ((tR T 0).length : Int) := by
    rw [e2, cl_n t1, h.2.2.2 14 (by decide)]
    exact rR.1
  rcases m_ifE hf with ⟨d, hf⟩ | ⟨d, hf⟩
  · replace d := ti_leP (a := v2) (b := (0 : Int32)) d rfl z0
    have e0 : tR T 0 = [] := List.length_eq_zero_iff.1 (by omega)
    rw [if_pos e0, List.nil_append]
    exact wr_238 hg h5 gr hr h6 hk h hf
  · replace d := ti_leN (a := v2) (b := (0 : Int32)) d rfl z0
    have e0 : ¬ tR T 0 = [] := fun e => by
      rw [e] at t2
      have t2 : v2.toInt = 0 := t2
      omega
    rw [if_neg e0]
    obtain ⟨v3, e3, hf⟩ := m_bndE hf
    rw [e5] at e3
    have t3 : v3.toInt = ((301 * g + 0 : Nat) : Int) := by
      have : v3.toInt = 301 * (I0 5).toInt := ti_mul e3 (show (301 : Int32).toInt = 301 from rfl) rfl (by omega) (by omega)
      omega
    obtain ⟨⟨r4, Ic4, Ac4⟩, h_4, hf⟩ := m_clE hf
    have W4 := wr_rem rR (by omega) wb.1 t3 h h_4
    dsimp only at W4 hf
    obtain ⟨⟨r5, Ic5, Ac5⟩, h_5, hf⟩ := m_clE hf
    have W5 := (wr_ink W4 (by decide) h_5).1
    dsimp only at W5 hf
    have q := wr_238 hg h5 gr hr h6 hk W5 hf
    have ea : w ++ rmW (tR T 0) ++ [(32 : Int32).toInt] ++ ((if tL T 0 = [] then [] else lnP st T 301 true 0 ++ [32]) ++ rsW r) = w ++ (rmW (tR T 0) ++ [32] ++ ((if tL T 0 = [] then [] else lnP st T 301 true 0 ++ [32]) ++ rsW r)) := by
      simp only [List.append_assoc]
      rfl
    rw [ea] at q
    exact q
theorem nm_g {i : Nat} (hi : i < L.length) : nmL L (i : Int) = (L[i]).1 ∧ vlL L (i : Int) = (L[i]).2 := by
  unfold nmL vlL
  rw [Int.toNat_natCast, List.getD_eq_getElem?_getD, List.getElem?_eq_getElem hi]
  exact ⟨rfl, rfl⟩
/-- the value of a tag -/
theorem wr_94 (hg : g ≤ 1) (h5 : (I0 5).toInt = (g : Int)) {i : Nat} (hi : i < 8) {vl : List Int} (hV : VLr A0 (g : Int) (i : Int) vl) (h1 : x1.toInt = (i : Int)) {self12 : Int32 → (Nat → Int32) → (Nat → Nat → Int32) → Option (Int32 × MS)} {W : List Int}
    (hself : ∀ (v : Int32) (I : Nat → Int32) (A : Nat → Nat → Int32) (w : List Int), v.toInt = (i : Int) + 1 → WRi I0 A0 I A w → self12 v I A = some o → WEo (w ++ W) o) : ∀ (n : Nat) (x2 : Int32) (I : Nat → Int32) (A : Nat → Nat → Int32) (w : List Int) (j : Nat), x2.toInt = (j : Int) → j ≤ vl.length → WRi I0 A0 I A w → f_write_94 self12 n x1 x2 I A = some o → WEo (w ++ (qtW (vl.drop j) ++ ([34, 93, 10] ++ W))) o := by
  obtain ⟨hV1, hV2, hV3⟩ := hV
  intro n
  induction n with
  | zero => intro x2 I A w j _ _ _ hf; cases hf
  | succ n ih =>
    intro x2 I A w j hx hj h hf
    have hf : f_write_94s self12 (f_write_94 self12 n) x1 x2 I A = some o := hf
    unfold f_write_94s at hf
    have e5 : I 5 = I0 5 := h.2.2.1 5 (by decide)
    obtain ⟨v1, e1, hf⟩ := m_bndE hf
    obtain ⟨v2, e2, hf⟩ := m_bndE hf
    rw [e5] at e1
    have t1 : v1.toInt = 8 * (I0 5).toInt := ti_mul e1 (show (8 : Int32).toInt = 8 from rfl) rfl (by omega) (by omega)
    have t2 : v2.toInt = v1.toInt + x1.toInt := ti_add e2 rfl rfl (by omega) (by omega)
    obtain ⟨-, hf⟩ := m_chkE hf
    obtain ⟨v3, e3, hf⟩ := m_bndE hf
    have t3 : v3.toInt = (vl.length : Int) := by
      rw [e3, cl_n (n := (8 * (g : Int) + (i : Int)).toNat) (by omega), h.2.2.2 21 (by decide)]
      exact hV1
    rcases m_ifE hf with ⟨d, hf⟩ | ⟨d, hf⟩
    · replace d := ti_leP (a := v3) (b := x2) d rfl rfl
      have ej : j = vl.length := by omega
      obtain ⟨⟨r4, Ic4, Ac4⟩, h_4, hf⟩ := m_clE hf
      have W4 := (wr_ink h (by decide) h_4).1
      dsimp only at W4 hf
      obtain ⟨⟨r5, Ic5, Ac5⟩, h_5, hf⟩ := m_clE hf
      have W5 := (wr_ink W4 (by decide) h_5).1
      dsimp only at W5 hf
      obtain ⟨⟨r6, Ic6, Ac6⟩, h_6, hf⟩ := m_clE hf
      have W6 := (wr_ink W5 (by decide) h_6).1
      dsimp only at W6 hf
      obtain ⟨v7, e7, hf⟩ := m_bndE hf
      have t7 : v7.toInt = x1.toInt + 1 := ti_add e7 rfl (show (1 : Int32).toInt = 1 from rfl) (by omega) (by omega)
      have q := hself v7 Ic6 Ac6 _ (by omega) W6 hf
      have ed : qtW (vl.drop j) = [] := by rw [ej, List.drop_length]; rfl
      rw [ed, List.nil_append]
      have ea : w ++ [(34 : Int32).toInt] ++ [(93 : Int32).toInt] ++ [(10 : Int32).toInt] ++ W = w ++ ([34, 93, 10] ++ W) := by
        simp only [List.append_assoc]
        rfl
      rw [ea] at q
      exact q
    · replace d := ti_leN (a := v3) (b := x2) d rfl rfl
      have jl : j < vl.length := by omega
      obtain ⟨v8, e8, hf⟩ := m_bndE hf
      obtain ⟨v9, e9, hf⟩ := m_bndE hf
      obtain ⟨v10, e10, hf⟩ := m_bndE hf
      obtain ⟨v11, e11, hf⟩ := m_bndE hf
      rw [e5] at e8
      have t8 : v8.toInt = 768 * (I0 5).toInt := ti_mul e8 (show (768 : Int32).toInt = 768 from rfl) rfl (by omega) (by omega)
      have t9 : v9.toInt = 96 * x1.toInt := ti_mul e9 (show (96 : Int32).toInt = 96 from rfl) rfl (by omega) (by omega)
      have t10 : v10.toInt = v8.toInt + v9.toInt := ti_add e10 rfl rfl (by omega) (by omega)
      have t11 : v11.toInt = v10.toInt + x2.toInt := ti_add e11 rfl rfl (by omega) (by omega)
      obtain ⟨-, hf⟩ := m_chkE hf
      obtain ⟨v12, e12, hf⟩ := m_bndE hf
      rw [cl_n (n := (768 * (g : Int) + 96 * (i : Int) + (j : Int)).toNat) (by omega)] at e12
      have b12 : 0 ≤ v12.toInt ∧ v12.toInt ≤ 65535 := by rw [e12]; exact tA_22 h.2.1.2 _
      have t12 : v12.toInt = vl[j] := by
        rw [e12, h.2.2.2 22 (by decide), hV3 (j : Int) (by omega) (by omega), wA_in jl]
      have ed : qtW (vl.drop j) = (if vl[j] = 34 ∨ vl[j] = 92 then [92, vl[j]] else [vl[j]]) ++ qtW (vl.drop (j + 1)) := by
        rw [List.drop_eq_getElem_cons jl]
        unfold qtW
        rw [List.flatMap_cons]
      rw [ed, ← t12]
      have s151 : ∀ {I : Nat → Int32} {A : Nat → Nat → Int32} {w : List Int}, WRi I0 A0 I A w → f_write_151 self12 (f_write_94 self12 n) x1 x2 v12 I A = some o → WEo (w ++ ([v12.toInt] ++ (qtW (vl.drop (j + 1)) ++ ([34, 93, 10] ++ W)))) o := fun {I A w} h hh => by
        unfold f_write_151 at hh
        obtain ⟨⟨r1, Ic1, Ac1⟩, h_1, hh⟩ := m_clE hh
        have W1 := (wr_ink h b12 h_1).1
        dsimp only at W1 hh
        obtain ⟨u2, g2, hh⟩ := m_bndE hh
        have s2 : u2.toInt = x2.toInt + 1 := ti_add g2 rfl (show (1 : Int32).toInt = 1 from rfl) (by omega) (by omega)
        have q := ih u2 Ic1 Ac1 _ (j + 1) (by omega) (by omega) W1 hh
        rw [List.append_assoc] at q
        exact q
      have s145 : f_write_145 self12 (f_write_94 self12 n) x1 x2 v12 I A = some o → WEo (w ++ ([92, v12.toInt] ++ (qtW (vl.drop (j + 1)) ++ ([34, 93, 10] ++ W)))) o := fun hh => by
        unfold f_write_145 at hh
        obtain ⟨⟨r1, Ic1, Ac1⟩, h_1, hh⟩ := m_clE hh
        have W1 := (wr_ink h (by decide) h_1).1
        dsimp only at W1 hh
        have q := s151 W1 hh
        rw [List.append_assoc] at q
        exact q
      rcases m_ifE hf with ⟨d2, hf⟩ | ⟨d2, hf⟩
      · have d2' : v12.toInt = 34 := by rw [d2]; rfl
        rw [if_pos (Or.inl d2'), List.append_assoc]
        exact s145 hf
      · have d2' : ¬ v12.toInt = 34 := fun e => d2 (i32_of e)
        rcases m_ifE hf with ⟨d3, hf⟩ | ⟨d3, hf⟩
        · have d3' : v12.toInt = 92 := by rw [d3]; rfl
          rw [if_pos (Or.inr d3'), List.append_assoc]
          exact s145 hf
        · have d3' : ¬ v12.toInt = 92 := fun e => d3 (i32_of e)
          rw [if_neg (fun e => e.elim d2' d3'), List.append_assoc]
          exact s151 h hf
/-- the name of a tag, then its value -/
theorem wr_33 (hg : g ≤ 1) (h5 : (I0 5).toInt = (g : Int)) {i : Nat} (hi : i < 8) {nm vl : List Int} (hN : NMr A0 (g : Int) (i : Int) nm) (hV : VLr A0 (g : Int) (i : Int) vl) (h1 : x1.toInt = (i : Int)) {self12 : Int32 → (Nat → Int32) → (Nat → Nat → Int32) → Option (Int32 × MS)} {W : List Int}
    (hself : ∀ (v : Int32) (I : Nat → Int32) (A : Nat → Nat → Int32) (w : List Int), v.toInt = (i : Int) + 1 → WRi I0 A0 I A w → self12 v I A = some o → WEo (w ++ W) o) : ∀ (n : Nat) (x2 : Int32) (I : Nat → Int32) (A : Nat → Nat → Int32) (w : List Int) (j : Nat), x2.toInt = (j : Int) → j ≤ nm.length → WRi I0 A0 I A w → f_write_33 self12 n x1 x2 I A = some o → WEo (w ++ (nm.drop j ++ ([32, 34] ++ (qtW vl ++ ([34, 93, 10] ++ W))))) o := by
  obtain ⟨hN1, hN2, hN3⟩ := hN
  intro n
  induction n with
  | zero => intro x2 I A w j _ _ _ hf; cases hf
  | succ n ih =>
    intro x2 I A w j hx hj h hf
    have hf : f_write_33s self12 (f_write_33 self12 n) x1 x2 I A = some o := hf
    unfold f_write_33s at hf
    have e5 : I 5 = I0 5 := h.2.2.1 5 (by decide)
    obtain ⟨v1, e1, hf⟩ := m_bndE hf
    obtain ⟨v2, e2, hf⟩ := m_bndE hf
    rw [e5] at e1
    have t1 : v1.toInt = 8 * (I0 5).toInt := ti_mul e1 (show (8 : Int32).toInt = 8 from rfl) rfl (by omega) (by omega)
    have t2 : v2.toInt = v1.toInt + x1.toInt := ti_add e2 rfl rfl (by omega) (by omega)
    obtain ⟨-, hf⟩ := m_chkE hf
    obtain ⟨v3, e3, hf⟩ := m_bndE hf
    have t3 : v3.toInt = (nm.length : Int) := by
      rw [e3, cl_n (n := (8 * (g : Int) + (i : Int)).toNat) (by omega), h.2.2.2 19 (by decide)]
      exact hN1
    rcases m_ifE hf with ⟨d, hf⟩ | ⟨d, hf⟩
    · replace d := ti_leP (a := v3) (b := x2) d rfl rfl
      have ej : j = nm.length := by omega
      obtain ⟨⟨r4, Ic4, Ac4⟩, h_4, hf⟩ := m_clE hf
      have W4 := (wr_ink h (by decide) h_4).1
      dsimp only at W4 hf
      obtain ⟨⟨r5, Ic5, Ac5⟩, h_5, hf⟩ := m_clE hf
      have W5 := (wr_ink W4 (by decide) h_5).1
      dsimp only at W5 hf
      have q := wr_94 hg h5 hi hV h1 hself mFuel 0 Ic5 Ac5 _ 0 rfl (Nat.zero_le _) W5 hf
      rw [List.drop_zero] at q
      rw [ej, List.drop_length, List.nil_append]
      have ea : ∀ l : List Int, w ++ [(32 : Int32).toInt] ++ [(34 : Int32).toInt] ++ l = w ++ ([32, 34] ++ l) := fun l => by
        simp only [List.append_assoc]
        rfl
      rw [ea] at q
      exact q
    · replace d := ti_leN (a := v3) (b := x2) d rfl rfl
      have jl : j < nm.length := by omega
      obtain ⟨v6, e6, hf⟩ := m_bndE hf
      obtain ⟨v7, e7, hf⟩ := m_bndE hf
      obtain ⟨v8, e8, hf⟩ := m_bndE hf
      obtain ⟨v9, e9, hf⟩ := m_bndE hf
      rw [e5] at e6
      have t6 : v6.toInt = 96 * (I0 5).toInt := ti_mul e6 (show (96 : Int32).toInt = 96 from rfl) rfl (by omega) (by omega)
      have t7 : v7.toInt = 12 * x1.toInt := ti_mul e7 (show (12 : Int32).toInt = 12 from rfl) rfl (by omega) (by omega)
      have t8 : v8.toInt = v6.toInt + v7.toInt := ti_add e8 rfl rfl (by omega) (by omega)
      have t9 : v9.toInt = v8.toInt + x2.toInt := ti_add e9 rfl rfl (by omega) (by omega)
      obtain ⟨-, hf⟩ := m_chkE hf
      obtain ⟨v10, e10, hf⟩ := m_bndE hf
      rw [cl_n (n := (96 * (g : Int) + 12 * (i : Int) + (j : Int)).toNat) (by omega)] at e10
      have b10 : 0 ≤ v10.toInt ∧ v10.toInt ≤ 65535 := by rw [e10]; exact tA_20 h.2.1.2 _
      have t10 : v10.toInt = nm[j] := by
        rw [e10, h.2.2.2 20 (by decide), hN3 (j : Int) (by omega) (by omega), wA_in jl]
      obtain ⟨⟨r11, Ic11, Ac11⟩, h_11, hf⟩ := m_clE hf
      have W11 := (wr_ink h b10 h_11).1
      dsimp only at W11 hf
      obtain ⟨v12, e12, hf⟩ := m_bndE hf
      have t12 : v12.toInt = x2.toInt + 1 := ti_add e12 rfl (show (1 : Int32).toInt = 1 from rfl) (by omega) (by omega)
      have q := ih v12 Ic11 Ac11 _ (j + 1) (by omega) (by omega) W11 hf
      rw [List.append_assoc, t10] at q
      rw [List.drop_eq_getElem_cons jl]
      exact q
/-- all tags, and the rest -/
theorem wr_12 (hg : g ≤ 1) (h5 : (I0 5).toInt = (g : Int)) (gr : GMr A0 g L st T r) (hr : 0 ≤ r ∧ r ≤ 3) (h6 : (I0 6).toInt = (k : Int)) (hk : k ≤ tn T) : ∀ (n : Nat) (x1 : Int32) (I : Nat → Int32) (A : Nat → Nat → Int32) (w : List Int) (i : Nat), x1.toInt = (i : Int) → i ≤ L.length → WRi I0 A0 I A w → f_write_12 n x1 I A = some o → WEo (w ++ ((L.drop i).flatMap tgW ++ ((if L = [] then [] else [10]) ++ ((if tR T 0 = [] then [] else rmW (tR T 0) ++ [32]) ++ ((if tL T 0 = [] then [] else lnP st T 301 true 0 ++ [32]) ++ rsW r))))) o := by
  have z0 : (0 : Int32).toInt = 0 := rfl
  obtain ⟨-, -, ⟨tg1, tg2, tg3⟩, -⟩ := id gr
  rw [Int.toNat_natCast] at tg1
  intro n
  induction n with
  | zero => intro x1 I A w i _ _ _ hf; cases hf
  | succ n ih =>
    intro x1 I A w i hx hi h hf
    have hf : f_write_12s (f_write_12 n) x1 I A = some o := hf
    unfold f_write_12s at hf
    have e5 : I 5 = I0 5 := h.2.2.1 5 (by decide)
    have i5 : (I 5).toNatClampNeg = g := cl_n (by rw [e5]; exact h5)
    obtain ⟨-, hf⟩ := m_chkE hf
    obtain ⟨v1, e1, hf⟩ := m_bndE hf
    have t1 : v1.toInt = (L.length : Int) := by rw [e1, i5, h.2.2.2 18 (by decide)]; exact tg1
    rcases m_ifE hf with ⟨d, hf⟩ | ⟨d, hf⟩
    · replace d := ti_leP (a := v1) (b := x1) d rfl rfl
      have ei : i = L.length := by omega
      have ed : (L.drop i).flatMap tgW = [] := by rw [ei, List.drop_length]; rfl
      rw [ed, List.nil_append]
      obtain ⟨-, hf⟩ := m_chkE hf
      obtain ⟨v2, e2, hf⟩ := m_bndE hf
      have t2 : v2.toInt = (L.length : Int) := by rw [e2, i5, h.2.2.2 18 (by decide)]; exact tg1
      rcases m_ifE hf with ⟨d2, hf⟩ | ⟨d2, hf⟩
      · replace d2 := ti_leP (a := v2) (b := (0 : Int32)) d2 rfl z0
        have e0 : L = [] := List.length_eq_zero_iff.1 (by omega)
        rw [if_pos e0, List.nil_append]
        exact wr_204 hg h5 gr hr h6 hk h hf
      · replace d2 := ti_leN (a := v2) (b := (0 : Int32)) d2 rfl z0
        have e0 : ¬ L = [] := fun e => by
          rw [e] at t2
          have t2 : v2.toInt = 0 := t2
          omega
        rw [if_neg e0]
        obtain ⟨⟨r3, Ic3, Ac3⟩, h_3, hf⟩ := m_clE hf
        have W3 := (wr_ink h (by decide) h_3).1
        dsimp only at W3 hf
        have q := wr_204 hg h5 gr hr h6 hk W3 hf
        rw [List.append_assoc] at q
        exact q
    · replace d := ti_leN (a := v1) (b := x1) d rfl rfl
      have il : i < L.length := by omega
      obtain ⟨⟨r4, Ic4, Ac4⟩, h_4, hf⟩ := m_clE hf
      have W4 := (wr_ink h (by decide) h_4).1
      dsimp only at W4 hf
      obtain ⟨hN, hV⟩ := tg3 (i : Int) (by omega) (by omega)
      obtain ⟨en, ev⟩ := nm_g il
      rw [en] at hN
      rw [ev] at hV
      have q := wr_33 hg h5 (i := i) (by omega) hN hV hx (self12 := f_write_12 n) (fun v I A w hv hW hq => ih v I A w (i + 1) (by omega) (by omega) hW hq) mFuel 0 Ic4 Ac4 _ 0 rfl (Nat.zero_le _) W4 hf
      rw [List.drop_zero] at q
      rw [List.drop_eq_getElem_cons il, List.flatMap_cons]
      have ea : ∀ (X : List Int), w ++ [(91 : Int32).toInt] ++ ((L[i]).1 ++ ([32, 34] ++ (qtW (L[i]).2 ++ ([34, 93, 10] ++ X)))) = w ++ (tgW L[i] ++ X) := fun X => by
        unfold tgW
        simp
      rw [ea, ← List.append_assoc (tgW L[i])] at q
      exact q
/-- write on the reference's side -/
theorem v_write (hR : RIt I A) (gr : GMr A (I 5).toInt.toNat L st T r) (hr : 0 ≤ r ∧ r ≤ 3) (h6 : (I 6).toInt = (k : Int)) (hk : k ≤ tn T) (hf : f_write I A = some o) : WEo (wtW L st T r) o := by
  have b5 : 0 ≤ (I 5).toInt ∧ (I 5).toInt ≤ 1 := hR.1 5
  have hf : f_write_0 I A = some o := hf
  unfold f_write_0 at hf
  obtain ⟨I1, e1, hf⟩ := m_bndE hf
  obtain ⟨I2, e2, hf⟩ := m_bndE hf
  have J : ∀ j, j ∉ [0, 3, 25, 26, 27, 28, 29, 33, 36] → I2 j = I j := fun j hj => by
    rw [e2, upd_ne (fun e => hj (by rw [e]; decide)), e1, upd_ne (fun e => hj (by rw [e]; decide))]
  have T2 : TJ I2 := by
    rw [e2, e1]
    exact tj_u (tj_u hR.1 (k := 0) (show (0 : Int) ≤ (0 : Int32).toInt by decide) (show (0 : Int32).toInt ≤ (2 : Int) by decide)) (k := 3) (show (0 : Int) ≤ (0 : Int32).toInt by decide) (show (0 : Int32).toInt ≤ (80000 : Int) by decide)
  have j3 : I2 3 = 0 := by rw [e2, upd_self]
  have W0 : WRi I A I2 A [] := ⟨⟨by rw [j3]; rfl, fun i hi => absurd hi (Nat.not_lt_zero _)⟩, ⟨T2, hR.2.1⟩, J, fun _ _ => rfl⟩
  have q := wr_12 (I0 := I) (A0 := A) (g := (I 5).toInt.toNat) (by omega) (by omega) gr hr h6 hk mFuel 0 I2 A [] 0 rfl (Nat.zero_le _) W0 hf
  rw [List.nil_append, List.drop_zero] at q
  unfold wtW hdW
  rw [List.append_assoc]
  exact q
end WRH
