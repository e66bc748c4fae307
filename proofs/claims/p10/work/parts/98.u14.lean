/-- the sign behind a move -/
noncomputable def ckL (ck : Int) : List Int := if ck = 0 then [] else [ck]
/-- the signs of a move -/
noncomputable def sgW (P : PO) (x ck : Int) : List Int := spW (om P) x (apW P x) (tkV P (x % 64) (x / 64 % 64)) ++ ckL ck
section PSH
variable {S S0 S' : ZS} {x0 bb : Nat} {P : PO} {w : List Int} {x1 x2 x3 x4 x5 x6 x7 x8 v y c : Int32} {a t n : Int} {o : Int32 × ZS} {I : Nat → Int32} {A : Nat → Nat → Int32} {o2 : Int32 × MS}
theorem getD_in {l : List Int} {j : Nat} (h : j < l.length) : l.getD j 0 = l[j] := by
  rw [List.getD_eq_getElem?_getD, List.getElem?_eq_getElem h]
  rfl
theorem csF_b {ck : Int} (h : csF (om P) (osd P) (ort P) (ops P) (okw P) (okb P) x2.toInt ck) : ck = 0 ∨ ck = 43 ∨ ck = 35 := by
  rcases h with ⟨-, h⟩ | ⟨-, -, h⟩ | ⟨-, -, h⟩
  · exact Or.inl h
  · exact Or.inr (Or.inl h)
  · exact Or.inr (Or.inr h)
theorem csF_u {m : Int → Int} {sd rt ps kw kb x c1 c2 : Int} (h : csF m sd rt ps kw kb x c1) (g : csF m sd rt ps kw kb x c2) : c1 = c2 := by
  rcases h with ⟨h1, h⟩ | ⟨h1, h2, h⟩ | ⟨h1, h2, h⟩ <;> rcases g with ⟨g1, g⟩ | ⟨g1, g2, g⟩ | ⟨g1, g2, g⟩
  · rw [h, g]
  · exact absurd g1 h1
  · exact absurd g1 h1
  · exact absurd h1 g1
  · rw [h, g]
  · exact absurd h2 g2
  · exact absurd h1 g1
  · exact absurd g2 h2
  · rw [h, g]
theorem pt_2 (hx : x0 = 17 ∨ x0 = 78) (hb : 84 < bb) {k : Nat} (hl : w.length ≤ 79000) (hs : (strL k).length ≤ 20) (hc : ∀ c ∈ strL k, 0 ≤ c ∧ c ≤ 65535) : ∀ (n : Nat) (x2 : Int32) (S : ZS) (j : Nat), x2.toInt = (j : Int) → j ≤ (strL k).length → PSt S0 S x0 bb P (w ++ (strL k).take j) → d_X6_putText_2 n 3 k x2 S = some o → PSt S0 o.2 x0 bb P (w ++ strL k) := by
  intro n
  induction n with
  | zero => intro x2 S j _ _ _ hf; cases hf
  | succ n ih =>
    intro x2 S j hx2 hj h hf
    have hf : d_X6_putText_2s (d_X6_putText_2 n) 3 k x2 S = some o := hf
    unfold d_X6_putText_2s at hf
    obtain ⟨-, hf⟩ := m_chkE hf
    obtain ⟨⟨r1, S1⟩, h_1, hf⟩ := m_calE hf
    obtain ⟨-, q1⟩ := pc_J0_length_8abf5 h_1
    have e1 : S1 = S := ro_J0_length_8abf5 h_1
    obtain ⟨-, hf⟩ := m_chkE hf
    dsimp only at q1 hf
    rw [e1] at hf
    rcases m_ifE hf with ⟨d, hf⟩ | ⟨d, hf⟩
    · replace d := ti_leP (a := r1) (b := x2) d rfl rfl
      have ej : j = (strL k).length := by omega
      rw [ej, List.take_length] at h
      cases hf
      exact h
    · replace d := ti_leN (a := r1) (b := x2) d rfl rfl
      have jl : j < (strL k).length := by omega
      obtain ⟨-, hf⟩ := m_chkE hf
      obtain ⟨⟨r2, S2⟩, h_2, hf⟩ := m_calE hf
      obtain ⟨-, -, -, q2⟩ := pc_J0_charAt_5068e h_2
      have e2 : S2 = S := ro_J0_charAt_5068e h_2
      obtain ⟨-, hf⟩ := m_chkE hf
      dsimp only at q2 hf
      rw [e2] at hf
      rw [show x2.toInt.toNat = j by omega, getD_in jl] at q2
      obtain ⟨-, hf⟩ := m_chkE hf
      obtain ⟨⟨r4, S5⟩, h_4, hf⟩ := m_cal2E hf
      have hcj := hc _ (List.getElem_mem jl)
      have P5 := ps_put hx hb h (by rw [List.length_append, List.length_take]; omega) (by rw [q2]; exact hcj) h_4
      rw [q2, List.append_assoc] at P5
      have et : (strL k).take j ++ [(strL k)[j]] = (strL k).take (j + 1) := by
        first | exact List.take_append_getElem jl | exact (List.take_succ_eq_append_getElem jl).symm | (rw [List.take_succ]; simp [jl])
      rw [et] at P5
      obtain ⟨v8, g8, hf⟩ := m_bndE hf
      have u8 : v8.toInt = x2.toInt + 1 := ti_add g8 rfl (show (1 : Int32).toInt = 1 from rfl) (by omega) (by omega)
      exact ih v8 S5 (j + 1) (by omega) (by omega) P5 hf
theorem c_160 (hx : x0 = 17 ∨ x0 = 78) (hb : 84 < bb) (pg : PGd P) (hn : 0 ≤ onb P ∧ onb P ≤ 99999) (hl : w.length ≤ 79000) (LG : LGo P x2.toInt) (h : PSt S0 S x0 bb P w) (hf : d_X9_putSigns_160 x0 bb x2 3 S = some o) : ∃ ck, csF (om P) (osd P) (ort P) (ops P) (okw P) (okb P) x2.toInt ck ∧ PSt S0 o.2 x0 bb P (w ++ ckL ck) := by
  unfold d_X9_putSigns_160 at hf
  obtain ⟨-, hf⟩ := m_chkE hf
  replace hf := m_calY hf (ps_k hx h.2.1).2.2.2
  obtain ⟨-, hf⟩ := m_chkE hf
  obtain ⟨⟨r2, S2⟩, h_2, hf⟩ := m_calE hf
  obtain ⟨P2, q2⟩ := ps_check hx hb h pg hn LG h_2
  obtain ⟨-, hf⟩ := m_chkE hf
  dsimp only at P2 q2 hf
  refine ⟨r2.toInt, q2, ?_⟩
  have b := csF_b q2
  rcases m_ifE hf with ⟨d, hf⟩ | ⟨d, hf⟩
  · unfold d_X9_putSigns_182 at hf
    cases hf
    have e0 : ckL r2.toInt = [] := by rw [d]; rfl
    rw [e0, List.append_nil]
    exact P2
  · obtain ⟨-, hf⟩ := m_chkE hf
    obtain ⟨⟨r4, S5⟩, h_4, hf⟩ := m_cal2E hf
    have P5 := ps_put hx hb P2 (by omega) (by omega) h_4
    unfold d_X9_putSigns_182 at hf
    cases hf
    have e0 : ckL r2.toInt = [r2.toInt] := if_neg (fun e => d (i32_of e))
    rw [e0]
    exact P5
theorem c_136 (hx : x0 = 17 ∨ x0 = 78) (hb : 84 < bb) (pg : PGd P) (hn : 0 ≤ onb P ∧ onb P ≤ 99999) (hl : w.length ≤ 78990) (LG : LGo P x2.toInt) (h : PSt S0 S x0 bb P w) (hf : d_X9_putSigns_136 x0 bb x2 3 S = some o) : ∃ ck, csF (om P) (osd P) (ort P) (ops P) (okw P) (okb P) x2.toInt ck ∧ PSt S0 o.2 x0 bb P (w ++ ((if 2 ≤ x2.toInt / 4096 then [61, ltK (x2.toInt / 4096)] else []) ++ ckL ck)) := by
  have hxb := LG.1
  have hpr : x2.toInt / 4096 = 0 ∨ (2 ≤ x2.toInt / 4096 ∧ x2.toInt / 4096 ≤ 5) := by
    have := LG.2.2.1
    unfold PRo at this
    omega
  unfold d_X9_putSigns_136 at hf
  rcases m_ifE hf with ⟨d, hf⟩ | ⟨d, hf⟩
  · replace d := ti_ltP (a := x2) (b := (4096 : Int32)) d rfl (show (4096 : Int32).toInt = 4096 from rfl)
    rw [if_neg (by omega)]
    simp only [List.nil_append]
    exact c_160 hx hb pg hn (by omega) LG h hf
  · replace d := ti_ltN (a := x2) (b := (4096 : Int32)) d rfl (show (4096 : Int32).toInt = 4096 from rfl)
    rw [if_pos (by omega)]
    obtain ⟨-, hf⟩ := m_chkE hf
    obtain ⟨⟨r2, S3⟩, h_2, hf⟩ := m_cal2E hf
    have P3 := ps_put hx hb h (by omega) (by decide) h_2
    obtain ⟨v6, g6, hf⟩ := m_bndE hf
    have u6 : v6.toInt = x2.toInt / 4096 := by rw [g6]; exact sr12 x2
    obtain ⟨⟨r7, S7⟩, h_7, hf⟩ := m_calE hf
    obtain ⟨e7, q7⟩ := pc_lt (by omega) h_7
    obtain ⟨-, hf⟩ := m_chkE hf
    dsimp only at e7 q7 hf
    rw [e7] at hf
    rw [u6] at q7
    obtain ⟨-, hf⟩ := m_chkE hf
    obtain ⟨⟨r9, S10⟩, h_9, hf⟩ := m_cal2E hf
    have lb : 0 ≤ r7.toInt ∧ r7.toInt ≤ 65535 := by
      rw [q7]
      unfold ltK
      repeat' split
      all_goals omega
    have P10 := ps_put hx hb P3 (by rw [List.length_append]; show w.length + 1 ≤ 80000; omega) lb h_9
    obtain ⟨ck, k1, k2⟩ := c_160 hx hb pg hn (by rw [List.length_append, List.length_append]; show w.length + 1 + 1 ≤ 79000; omega) LG P10 hf
    refine ⟨ck, k1, ?_⟩
    rw [q7] at k2
    have e : w ++ ([61, ltK (x2.toInt / 4096)] ++ ckL ck) = w ++ [(61 : Int32).toInt] ++ [ltK (x2.toInt / 4096)] ++ ckL ck := by simp
    rw [e]
    exact k2
theorem c_107 (hx : x0 = 17 ∨ x0 = 78) (hb : 84 < bb) (pg : PGd P) (hn : 0 ≤ onb P ∧ onb P ≤ 99999) (hl : w.length ≤ 78900) (LG : LGo P x2.toInt) (h5 : x5.toInt = t) (ht : 0 ≤ t ∧ t ≤ 63) (h6 : x6.toInt = 0 ∨ x6.toInt = 1) (h : PSt S0 S x0 bb P w) (hf : d_X9_putSigns_107 x0 bb x2 3 x5 x6 S = some o) : ∃ ck, csF (om P) (osd P) (ort P) (ops P) (okw P) (okb P) x2.toInt ck ∧ PSt S0 o.2 x0 bb P (w ++ ((if x6.toInt = 1 then [120] else []) ++ ([97 + t % 8, 49 + t / 8] ++ ((if 2 ≤ x2.toInt / 4096 then [61, ltK (x2.toInt / 4096)] else []) ++ ckL ck)))) := by
  have s118 : ∀ {w : List Int} {S : ZS}, w.length ≤ 78950 → PSt S0 S x0 bb P w → d_X9_putSigns_118 x0 bb x2 3 x5 S = some o → ∃ ck, csF (om P) (osd P) (ort P) (ops P) (okw P) (okb P) x2.toInt ck ∧ PSt S0 o.2 x0 bb P (w ++ ([97 + t % 8, 49 + t / 8] ++ ((if 2 ≤ x2.toInt / 4096 then [61, ltK (x2.toInt / 4096)] else []) ++ ckL ck))) := fun {w S} hl h hf => by
    unfold d_X9_putSigns_118 at hf
    obtain ⟨⟨r1, S1⟩, h_1, hf⟩ := m_calE hf
    obtain ⟨e1, q1⟩ := pc_fl (by omega) h_1
    obtain ⟨-, hf⟩ := m_chkE hf
    dsimp only at e1 q1 hf
    rw [e1] at hf
    obtain ⟨-, hf⟩ := m_chkE hf
    obtain ⟨⟨r3, S4⟩, h_3, hf⟩ := m_cal2E hf
    have P4 := ps_put hx hb h (by omega) (by omega) h_3
    obtain ⟨⟨r7, S7⟩, h_7, hf⟩ := m_calE hf
    obtain ⟨e7, q7⟩ := pc_rd (by omega) h_7
    obtain ⟨-, hf⟩ := m_chkE hf
    dsimp only at e7 q7 hf
    rw [e7] at hf
    obtain ⟨-, hf⟩ := m_chkE hf
    obtain ⟨⟨r9, S10⟩, h_9, hf⟩ := m_cal2E hf
    have P10 := ps_put hx hb P4 (by rw [List.length_append]; show w.length + 1 ≤ 80000; omega) (by omega) h_9
    rw [q1, q7, h5] at P10
    obtain ⟨ck, k1, k2⟩ := c_136 hx hb pg hn (by rw [List.length_append, List.length_append]; show w.length + 1 + 1 ≤ 78990; omega) LG P10 hf
    refine ⟨ck, k1, ?_⟩
    have e : ∀ l : List Int, w ++ ([97 + t % 8, 49 + t / 8] ++ l) = w ++ [97 + t % 8] ++ [49 + t / 8] ++ l := fun l => by simp
    rw [e]
    exact k2
  unfold d_X9_putSigns_107 at hf
  rcases m_ifE hf with ⟨d, hf⟩ | ⟨d, hf⟩
  · rw [if_neg (by rw [d]; decide)]
    simp only [List.nil_append]
    exact s118 (by omega) h hf
  · have e1 : x6.toInt = 1 := by
      rcases h6 with b | b
      · exact absurd (i32_of b) d
      · exact b
    rw [if_pos e1]
    obtain ⟨-, hf⟩ := m_chkE hf
    obtain ⟨⟨r2, S3⟩, h_2, hf⟩ := m_cal2E hf
    have P3 := ps_put hx hb h (by omega) (by decide) h_2
    obtain ⟨ck, k1, k2⟩ := s118 (by rw [List.length_append]; show w.length + 1 ≤ 78950; omega) P3 hf
    refine ⟨ck, k1, ?_⟩
    rw [← List.append_assoc]
    exact k2
/-- a king that goes two squares castles -/
theorem cas_2 (LG : LGo P x2.toInt) (h6 : om P (x2.toInt % 64) % 8 = 6) (h : x2.toInt / 64 % 64 = x2.toInt % 64 + 2 ∨ x2.toInt / 64 % 64 = x2.toInt % 64 - 2) : cas (om P) (x2.toInt % 64) (x2.toInt / 64 % 64) := by
  have hr := LG.2.1
  rcases hr.2.2 with ⟨h1, -⟩ | ⟨-, h1 | ⟨h1, -⟩⟩
  · omega
  · exfalso
    unfold attk kin lin at h1
    rcases h1 with ⟨h1, -⟩ | ⟨h1, -⟩ | ⟨-, h1⟩ | ⟨h1, -⟩
    · omega
    · omega
    · omega
    · omega
  · exact h1
/-- the class writes a move's signs -/
theorem c_putSigns (hx : x0 = 17 ∨ x0 = 78) (hb : 84 < bb) (pg : PGd P) (hn : 0 ≤ onb P ∧ onb P ≤ 99999) (hl : w.length ≤ 78000) (LG : LGo P x2.toInt) (h : PSt S0 S x0 bb P w) (hf : d_X9_putSigns x0 bb x2 3 S = some o) : ∃ ck, csF (om P) (osd P) (ort P) (ops P) (okw P) (okb P) x2.toInt ck ∧ PSt S0 o.2 x0 bb P (w ++ sgW P x2.toInt ck) := by
  have hf : d_X9_putSigns_0 x0 bb x2 3 S = some o := hf
  have hxb := LG.1
  have hM := pg.2.1
  have hpr := LG.2.2.1
  have hme := LG.2.1.1
  obtain ⟨hT, X, bo, hr, F⟩ := id h
  have kb := bo.1.1
  have hm := bo.2.1
  unfold d_X9_putSigns_0 at hf
  obtain ⟨v1, g1, hf⟩ := m_bndE hf
  obtain ⟨v2, g2, hf⟩ := m_bndE hf
  obtain ⟨v3, g3, hf⟩ := m_bndE hf
  obtain ⟨t1, t3, -, -⟩ := mv_bits hxb g1 g2 g3 rfl rfl
  obtain ⟨-, hf⟩ := m_chkE hf
  obtain ⟨⟨r4, S4⟩, h_4, hf⟩ := m_calE hf
  obtain ⟨e4, b4, q4⟩ := ok_of (x_f_X0_castles hT kb (by omega) (by omega) (by rw [hm]; exact hM)) h_4
  obtain ⟨-, hf⟩ := m_chkE hf
  dsimp only at e4 b4 q4 hf
  rw [e4] at hf
  rw [hm, t1, t3] at q4
  unfold sgW spW
  rcases m_ifE hf with ⟨d4, hf⟩ | ⟨d4, hf⟩
  · have nc : ¬ (om P (x2.toInt % 64) % 8 = 6 ∧ (x2.toInt / 64 % 64 = x2.toInt % 64 + 2 ∨ x2.toInt / 64 % 64 = x2.toInt % 64 - 2)) := fun e => by
      have := q4.2 (cas_2 LG e.1 e.2)
      rw [d4] at this
      exact absurd this (by decide)
    rw [if_neg nc]
    obtain ⟨-, hf⟩ := m_chkE hf
    obtain ⟨⟨r5, S5⟩, h_5, hf⟩ := m_calE hf
    obtain ⟨e5, b5, q5⟩ := ok_of (x_f_X0_takes hT kb (by omega) (by omega) (by rw [hm]; exact hM)) h_5
    obtain ⟨-, hf⟩ := m_chkE hf
    dsimp only at e5 b5 q5 hf
    rw [e5] at hf
    rw [hm, t1, t3] at q5
    have tk : r5.toInt = tkV P (x2.toInt % 64) (x2.toInt / 64 % 64) := by
      unfold tkV
      by_cases e : tkg (om P) (x2.toInt % 64) (x2.toInt / 64 % 64)
      · rw [if_pos e]; exact q5.2 e
      · rw [if_neg e]
        have : r5.toInt ≠ 1 := fun h => e (q5.1 h)
        omega
    obtain ⟨-, hf⟩ := m_chkE hf
    obtain ⟨⟨r6, S6⟩, h_6, hf⟩ := m_calE hf
    obtain ⟨e6, b6, q6⟩ := ok_of (x_f_X0_kindAt hT kb (by omega) (by rw [hm]; exact hM)) h_6
    obtain ⟨-, hf⟩ := m_chkE hf
    dsimp only at e6 b6 q6 hf
    rw [e6] at hf
    rw [hm, t1] at q6
    unfold rend
    rcases m_ifE hf with ⟨d6, hf⟩ | ⟨d6, hf⟩
    · replace d6 := ti_eqP (a := r6) (b := (1 : Int32)) d6 rfl (show (1 : Int32).toInt = 1 from rfl)
      have k1 : om P (x2.toInt % 64) % 8 = 1 := by omega
      have ea : apW P x2.toInt = tkV P (x2.toInt % 64) (x2.toInt / 64 % 64) := if_pos k1
      rw [k1, ea, ← tk]
      rcases m_ifE hf with ⟨d5, hf⟩ | ⟨d5, hf⟩
      · have z5 : r5.toInt = 0 := by rw [d5]; rfl
        obtain ⟨ck, c1, c2⟩ := c_107 (t := x2.toInt / 64 % 64) hx hb pg hn (by omega) LG t3 (by omega) (by omega) h hf
        refine ⟨ck, c1, ?_⟩
        rw [z5] at c2 ⊢
        simp only [show ¬ (2 : Int) ≤ 1 by decide, show ¬ (0 : Int) % 2 = 1 by decide, show ¬ (1 : Int) < 0 by decide, show ¬ (0 : Int) ≤ -1 by decide, show ¬ (0 : Int) = 1 by decide, if_false, List.nil_append, List.append_assoc] at c2 ⊢
        exact c2
      · have z5 : r5.toInt = 1 := by
          have : r5.toInt ≠ 0 := fun e => d5 (i32_of e)
          omega
        obtain ⟨⟨r7, S7⟩, h_7, hf⟩ := m_calE hf
        obtain ⟨e7, q7⟩ := pc_fl (by omega) h_7
        obtain ⟨-, hf⟩ := m_chkE hf
        dsimp only at e7 q7 hf
        rw [e7] at hf
        obtain ⟨-, hf⟩ := m_chkE hf
        obtain ⟨⟨r9, S10⟩, h_9, hf⟩ := m_cal2E hf
        have P10 := ps_put hx hb h (by omega) (by omega) h_9
        rw [q7, t1] at P10
        obtain ⟨ck, c1, c2⟩ := c_107 (t := x2.toInt / 64 % 64) hx hb pg hn (by rw [List.length_append]; show w.length + 1 ≤ 78900; omega) LG t3 (by omega) (by omega) P10 hf
        refine ⟨ck, c1, ?_⟩
        rw [z5] at c2 ⊢
        have f1 : (0 : Int) ≤ x2.toInt % 64 % 8 := by omega
        simp only [show ¬ (2 : Int) ≤ 1 by decide, show (1 : Int) % 2 = 1 by decide, show ¬ (1 : Int) < 1 by decide, show ¬ (0 : Int) ≤ -1 by decide, f1, if_true, if_false, List.nil_append, List.append_assoc] at c2 ⊢
        exact c2
    · replace d6 := ti_eqN (a := r6) (b := (1 : Int32)) d6 rfl (show (1 : Int32).toInt = 1 from rfl)
      have k1 : ¬ om P (x2.toInt % 64) % 8 = 1 := by omega
      have mb := hM (x2.toInt % 64)
      have k2 : 2 ≤ om P (x2.toInt % 64) % 8 ∧ om P (x2.toInt % 64) % 8 ≤ 6 := by
        have := hme.1
        omega
      have ea : apW P x2.toInt = apP P (x2.toInt % 64) (x2.toInt / 64 % 64) := if_neg k1
      rw [ea, ← tk]
      obtain ⟨-, hf⟩ := m_chkE hf
      obtain ⟨⟨r13, S13⟩, h_13, hf⟩ := m_calE hf
      obtain ⟨e13, b13, q13⟩ := ok_of (x_f_X0_kindAt hT kb (by omega) (by rw [hm]; exact hM)) h_13
      obtain ⟨-, hf⟩ := m_chkE hf
      dsimp only at e13 b13 q13 hf
      rw [e13] at hf
      rw [hm, t1] at q13
      obtain ⟨⟨r14, S14⟩, h_14, hf⟩ := m_calE hf
      obtain ⟨e14, q14⟩ := pc_lt (by omega) h_14
      obtain ⟨-, hf⟩ := m_chkE hf
      dsimp only at e14 q14 hf
      rw [e14] at hf
      rw [q13] at q14
      obtain ⟨-, hf⟩ := m_chkE hf
      obtain ⟨⟨r16, S17⟩, h_16, hf⟩ := m_cal2E hf
      have lb : 0 ≤ r14.toInt ∧ r14.toInt ≤ 65535 := by
        rw [q14]
        unfold ltK
        repeat' split
        all_goals omega
      have P17 := ps_put hx hb h (by omega) lb h_16
      rw [q14] at P17
      obtain ⟨-, hf⟩ := m_chkE hf
      obtain ⟨⟨r21, S22⟩, h_21, hf⟩ := m_cal2E hf
      have hA : d_X9_putApart_12 mFuel x0 bb v1 v3 3 0 0 0 0 S17 = some (r21, S22) := h_21
      have z0 : (0 : Int32).toInt = 0 := rfl
      have P22 := pa_12 (a := x2.toInt % 64) (t := x2.toInt / 64 % 64) hx hb pg hn (by rw [List.length_append]; show w.length + 1 ≤ 79000; omega) t1 t3 (by omega) (by omega) mFuel 0 0 0 0 S17 (by decide) (Or.inl rfl) (Or.inl rfl) (Or.inl rfl) ⟨fun e => absurd e (by decide), fun ⟨b, b0, b1, _⟩ => by rw [z0] at b1; omega⟩ ⟨fun e => absurd e (by decide), fun ⟨b, b0, b1, _⟩ => by rw [z0] at b1; omega⟩ ⟨fun e => absurd e (by decide), fun ⟨b, b0, b1, _⟩ => by rw [z0] at b1; omega⟩ P17 hA
      dsimp only at P22
      have al : (apL (x2.toInt % 64) (apP P (x2.toInt % 64) (x2.toInt / 64 % 64))).length ≤ 2 := by
        unfold apL
        rw [List.length_append]
        have h1 : ∀ (c : Prop) [Decidable c] (z : Int), (if c then [z] else []).length ≤ 1 := fun c _ z => by
          split
          · exact Nat.le_refl _
          · exact Nat.zero_le _
        have := h1 (0 ≤ (if apP P (x2.toInt % 64) (x2.toInt / 64 % 64) % 2 = 1 then x2.toInt % 64 % 8 else -1)) (97 + (if apP P (x2.toInt % 64) (x2.toInt / 64 % 64) % 2 = 1 then x2.toInt % 64 % 8 else -1))
        have := h1 (0 ≤ (if 1 < apP P (x2.toInt % 64) (x2.toInt / 64 % 64) then x2.toInt % 64 / 8 else -1)) (49 + (if 1 < apP P (x2.toInt % 64) (x2.toInt / 64 % 64) then x2.toInt % 64 / 8 else -1))
        omega
      obtain ⟨ck, c1, c2⟩ := c_107 (t := x2.toInt / 64 % 64) hx hb pg hn (by rw [List.length_append, List.length_append]; show w.length + 1 + _ ≤ 78900; omega) LG t3 (by omega) (by omega) P22 hf
      refine ⟨ck, c1, ?_⟩
      unfold apL at c2
      rw [if_pos k2.1]
      simp only [List.append_assoc] at c2 ⊢
      exact c2
  · have yc : cas (om P) (x2.toInt % 64) (x2.toInt / 64 % 64) := q4.1 (by
      have : r4.toInt ≠ 0 := fun e => d4 (i32_of e)
      omega)
    rw [if_pos ⟨yc.1, yc.2.2⟩]
    have p0 : ¬ 2 ≤ x2.toInt / 4096 := by
      unfold PRo at hpr
      have := yc.1
      omega
    have s41 : ∀ k : Nat, (k = 7 ∨ k = 8) → d_X9_putSigns_41 x0 bb x2 3 k 3 S = some o → ∃ ck, csF (om P) (osd P) (ort P) (ops P) (okw P) (okb P) x2.toInt ck ∧ PSt S0 o.2 x0 bb P (w ++ (strL k ++ ckL ck)) := fun k hk hh => by
      unfold d_X9_putSigns_41 at hh
      obtain ⟨-, hh⟩ := m_chkE hh
      obtain ⟨⟨r2, S3⟩, h_2, hh⟩ := m_cal2E hh
      have h_2 : d_X6_putText_2 mFuel 3 k 0 S = some (r2, S3) := h_2
      have sl : (strL k).length ≤ 20 ∧ ∀ c ∈ strL k, 0 ≤ c ∧ c ≤ 65535 := by
        rcases hk with e | e <;> subst e <;> decide +kernel
      have P3 := pt_2 (S0 := S0) (P := P) (w := w) (k := k) hx hb (by omega) sl.1 sl.2 mFuel 0 S 0 rfl (Nat.zero_le _) (by rw [List.take_zero, List.append_nil]; exact h) h_2
      obtain ⟨ck, c1, c2⟩ := c_136 hx hb pg hn (by rw [List.length_append]; omega) LG P3 hh
      refine ⟨ck, c1, ?_⟩
      rw [if_neg p0, List.nil_append, List.append_assoc] at c2
      exact c2
    rcases m_ifE hf with ⟨d, hf⟩ | ⟨d, hf⟩
    · replace d := ti_leP (a := v3) (b := v1) d rfl rfl
      rw [if_neg (by omega)]
      exact s41 8 (Or.inr rfl) hf
    · replace d := ti_leN (a := v3) (b := v1) d rfl rfl
      rw [if_pos (by omega)]
      exact s41 7 (Or.inl rfl) hf
end PSH
