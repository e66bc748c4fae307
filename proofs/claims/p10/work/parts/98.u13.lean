/-- while a move's signs are written -/
noncomputable def PSt (S0 S : ZS) (x0 bb : Nat) (P : PO) (w : List Int) : Prop := ZT S ∧ FIX S ∧ BO S bb P ∧ RWL S 3 w ∧ FR (fun a => a = 3 ∨ (x0 + 2 ≤ a ∧ a ≤ x0 + 5)) S0 S
/-- another man of the same sort that may go there -/
noncomputable def OTh (P : PO) (a t b : Int) : Prop := b ≠ a ∧ om P b = om P a ∧ rch (om P) (osd P) (ort P) (ops P) b t ∧ safC (om P) (osd P) (ops P) (oko P) b t 0
noncomputable def exO (P : PO) (a t n : Int) : Prop := ∃ b, 0 ≤ b ∧ b < n ∧ OTh P a t b
noncomputable def exF (P : PO) (a t n : Int) : Prop := ∃ b, 0 ≤ b ∧ b < n ∧ OTh P a t b ∧ b % 8 = a % 8
noncomputable def exR (P : PO) (a t n : Int) : Prop := ∃ b, 0 ≤ b ∧ b < n ∧ OTh P a t b ∧ b / 8 = a / 8
/-- how a man is told apart -/
noncomputable def apP (P : PO) (a t : Int) : Int := @ite _ (exO P a t 64) (Classical.propDecidable _) (@ite _ (exF P a t 64) (Classical.propDecidable _) (@ite _ (exR P a t 64) (Classical.propDecidable _) 3 2) 1) 0
noncomputable def tkV (P : PO) (a t : Int) : Int := @ite _ (tkg (om P) a t) (Classical.propDecidable _) 1 0
noncomputable def apW (P : PO) (x : Int) : Int := if om P (x % 64) % 8 = 1 then tkV P (x % 64) (x / 64 % 64) else apP P (x % 64) (x / 64 % 64)
noncomputable def apL (a ap : Int) : List Int := (if 0 ≤ (if ap % 2 = 1 then a % 8 else -1) then [97 + (if ap % 2 = 1 then a % 8 else -1)] else []) ++ (if 0 ≤ (if 1 < ap then a / 8 else -1) then [49 + (if 1 < ap then a / 8 else -1)] else [])
section PSG
variable {S S0 S' : ZS} {x0 bb : Nat} {P : PO} {w : List Int} {x1 x2 x3 x4 x5 x6 x7 x8 v y c : Int32} {a t n : Int} {o : Int32 × ZS}
theorem fr_bt {b c : Nat} (hT : ZT S) (hk : zK S (b + 1) = 14) (hk2 : zK S (c + 1) = 14) (h : SBt S S' b c) : FR (fun a => a = b ∨ a = b + 1 ∨ a = c ∨ a = c + 1) S S' := fun a _ => by
  obtain ⟨⟨-, -, e1, e2, e3⟩, h2, h3, h4, -⟩ := h
  refine ⟨⟨by rw [e1], by rw [e2], fun _ _ => by rw [h2], fun _ => by rw [e3]⟩, fun hw => ⟨by rw [e1], by rw [e2], fun j => h3 j a (fun e => hw (Or.inl e)) (fun e => hw (Or.inr (Or.inr (Or.inl e)))), fun _ => by rw [h2], by rw [e3], fun _ => h4 a (fun e => hw (Or.inr (Or.inl e))) (fun e => hw (Or.inr (Or.inr (Or.inr e)))), fun h6 d hd => h4 d (row_n hT h6 hd (by rw [hk]; decide) (by rw [hk]; decide)) (row_n hT h6 hd (by rw [hk2]; decide) (by rw [hk2]; decide))⟩⟩
theorem ps_cx (hx : x0 = 17 ∨ x0 = 78) (hb : 84 < bb) (h : PSt S0 S x0 bb P w) (pg : PGd P) (hn : 0 ≤ onb P ∧ onb P ≤ 99999) : CXr S (x0 + 1) (x0 + 2) (x0 + 4) bb (om P) (osd P) (ort P) (ops P) (okw P) (okb P) := by
  obtain ⟨hT, X, ⟨⟨b1, b2, b3⟩, b4, b5, b6, b7, b8, b9, b10⟩, -, -⟩ := h
  have s := pg.1
  rcases hx with e | e
  · subst e
    exact ⟨⟨hT, ⟨fx_k X (by decide) (by decide), fx_p X (by decide)⟩, ⟨fx_k X (by decide) (by decide), fx_p X (by decide)⟩, ⟨b1, b2⟩, by omega, ⟨by omega, by omega⟩, b4, b5, b6, b7, b8, b9⟩, ⟨fx_p X (by decide), fx_k X (by decide) (by decide), fx_p X (by decide)⟩, ⟨by omega, by decide⟩, by omega⟩
  · subst e
    exact ⟨⟨hT, ⟨fx_k X (by decide) (by decide), fx_p X (by decide)⟩, ⟨fx_k X (by decide) (by decide), fx_p X (by decide)⟩, ⟨b1, b2⟩, by omega, ⟨by omega, by omega⟩, b4, b5, b6, b7, b8, b9⟩, ⟨fx_p X (by decide), fx_k X (by decide) (by decide), fx_p X (by decide)⟩, ⟨by omega, by decide⟩, by omega⟩
theorem ps_k (hx : x0 = 17 ∨ x0 = 78) (X : FIX S) : zK S (x0 + 2 + 1) = 14 ∧ zK S (x0 + 4 + 1) = 14 ∧ zK S 3 = 6 ∧ zP S 0 x0 = some (x0 + 1) := by
  rcases hx with e | e
  · subst e
    exact ⟨fx_k X (by decide) (by decide), fx_k X (by decide) (by decide), fx_k X (by decide) (by decide), fx_p X (by decide)⟩
  · subst e
    exact ⟨fx_k X (by decide) (by decide), fx_k X (by decide) (by decide), fx_k X (by decide) (by decide), fx_p X (by decide)⟩
theorem ps_put (hx : x0 = 17 ∨ x0 = 78) (hb : 84 < bb) (h : PSt S0 S x0 bb P w) (hl : w.length ≤ 80000) (hc : 0 ≤ c.toInt ∧ c.toInt ≤ 65535) (hf : d_X6_put 3 c S = some (y, S')) : PSt S0 S' x0 bb P (w ++ [c.toInt]) := by
  obtain ⟨hT, X, bo, hr, F⟩ := h
  have k3 : zK S 3 = 6 := fx_k X (by decide) (by decide)
  obtain ⟨g1, g2⟩ := p_rput hT k3 hr (by omega) hc hf
  have r3 : rL 3 = 90000 := by decide
  have T' : ZT S' := (ok_of (p_d_X6_put (SZ := S) hT (rpc_of (rp_0 S)) k3 hc (by rw [hr.1, r3]; omega)) hf).1
  have F1 : FR (fun a => a = 3) S S' := fr_r g2 k3
  exact ⟨T', fix_fr X F1, bo_fr bo F1 (by omega) (by omega), g1, fr_t F (fr_m F1 (fun a _ e => Or.inl e))⟩
theorem ps_safe (hx : x0 = 17 ∨ x0 = 78) (hb : 84 < bb) (h : PSt S0 S x0 bb P w) (pg : PGd P) (hn : 0 ≤ onb P ∧ onb P ≤ 99999) (hv : 0 ≤ v.toInt ∧ v.toInt ≤ 24575) (hf : f_X7_isSafe (x0 + 1) bb v S = some (y, S')) : PSt S0 S' x0 bb P w ∧ (y.toInt = 0 ∨ y.toInt = 1) ∧ (y.toInt = 1 ↔ safC (om P) (osd P) (ops P) (oko P) (v.toInt % 64) (v.toInt / 64 % 64) (v.toInt / 4096)) := by
  have cx := ps_cx hx hb h pg hn
  obtain ⟨b1, b2, b3, b4⟩ := bx_safe cx.1 pg.2.1 hv hf
  obtain ⟨hT, X, bo, hr, F⟩ := h
  obtain ⟨k1, -, k3, -⟩ := ps_k hx X
  have F1 := fr_b hT k1 b2
  refine ⟨⟨b1.1, fix_fr X F1, bo_fr bo F1 (by omega) (by omega), eqc_rl (fr_e F1 (by rw [k3]; decide) (by omega)) k3 hr, fr_t F (fr_m F1 (fun a _ e => Or.inr (by omega)))⟩, b3, b4⟩
theorem ps_check (hx : x0 = 17 ∨ x0 = 78) (hb : 84 < bb) (h : PSt S0 S x0 bb P w) (pg : PGd P) (hn : 0 ≤ onb P ∧ onb P ≤ 99999) (LG : LGo P v.toInt) (hf : f_X7_checkSign (x0 + 1) bb v S = some o) : PSt S0 o.2 x0 bb P w ∧ csF (om P) (osd P) (ort P) (ops P) (okw P) (okb P) v.toInt o.1.toInt := by
  have cx := ps_cx hx hb h pg hn
  have pa := pgd_af pg LG
  obtain ⟨b1, b2, b3⟩ := p_checkSign cx pg.2.1 LG.1 pg.1 pa.2.2.2.2.2.2.1 pa.2.1 hf
  obtain ⟨hT, X, bo, hr, F⟩ := h
  obtain ⟨k1, k2, k3, -⟩ := ps_k hx X
  have F1 := fr_bt hT k1 k2 b2
  exact ⟨⟨b1.1.1, fix_fr X F1, bo_fr bo F1 (by omega) (by omega), eqc_rl (fr_e F1 (by rw [k3]; decide) (by omega)) k3 hr, fr_t F (fr_m F1 (fun a _ e => Or.inr (by omega)))⟩, b3⟩
theorem pc_fl (h : 0 ≤ x1.toInt ∧ x1.toInt ≤ 63) (hf : f_X11_fileLetter x1 S = some o) : o.2 = S ∧ o.1.toInt = 97 + x1.toInt % 8 := by
  have hf : f_X11_fileLetter_0 x1 S = some o := hf
  unfold f_X11_fileLetter_0 at hf
  obtain ⟨v1, e1, hf⟩ := m_bndE hf
  obtain ⟨v2, e2, hf⟩ := m_bndE hf
  obtain ⟨v3, e3, hf⟩ := m_bndE hf
  have t1 : v1.toInt = x1.toInt % 8 := sq_7 e1 (by omega)
  have t2 : v2.toInt = 97 + v1.toInt := ti_add e2 (show (97 : Int32).toInt = 97 from rfl) rfl (by omega) (by omega)
  have t3 : v3.toInt = v2.toInt := by rw [e3]; exact nar_ci rfl (by omega) (by omega)
  obtain ⟨-, hf⟩ := m_chkE hf
  cases hf
  exact ⟨rfl, by show v3.toInt = _; omega⟩
theorem pc_rd (h : 0 ≤ x1.toInt ∧ x1.toInt ≤ 63) (hf : f_X11_rankDigit x1 S = some o) : o.2 = S ∧ o.1.toInt = 49 + x1.toInt / 8 := by
  have hf : f_X11_rankDigit_0 x1 S = some o := hf
  unfold f_X11_rankDigit_0 at hf
  obtain ⟨v1, e1, hf⟩ := m_bndE hf
  obtain ⟨v2, e2, hf⟩ := m_bndE hf
  obtain ⟨v3, e3, hf⟩ := m_bndE hf
  have t1 : v1.toInt = x1.toInt / 8 := b_sh3 e1 h
  have t2 : v2.toInt = 49 + v1.toInt := ti_add e2 (show (49 : Int32).toInt = 49 from rfl) rfl (by omega) (by omega)
  have t3 : v3.toInt = v2.toInt := by rw [e3]; exact nar_ci rfl (by omega) (by omega)
  obtain ⟨-, hf⟩ := m_chkE hf
  cases hf
  exact ⟨rfl, by show v3.toInt = _; omega⟩
theorem pc_lt (h : 2 ≤ x1.toInt ∧ x1.toInt ≤ 6) (hf : f_X11_letterOf x1 S = some o) : o.2 = S ∧ o.1.toInt = ltK x1.toInt := by
  have e0 : o.2 = S := ro_X11_letterOf hf
  have hf : f_X11_letterOf_0 x1 S = some o := hf
  have z1 : (1 : Int32).toInt = 1 := rfl
  unfold f_X11_letterOf_0 at hf
  rcases m_ifE hf with ⟨d, hf⟩ | ⟨-, hf⟩
  · replace d := ti_ltP (a := x1) (b := (1 : Int32)) d rfl z1
    omega
  · rcases m_ifE hf with ⟨d, hf⟩ | ⟨-, hf⟩
    · replace d := ti_ltP (a := (6 : Int32)) (b := x1) d (show (6 : Int32).toInt = 6 from rfl) rfl
      omega
    · obtain ⟨v1, e1, hf⟩ := m_bndE hf
      have t1 : v1.toInt = x1.toInt - 1 := ti_sub e1 rfl z1 (by omega) (by omega)
      obtain ⟨-, hf⟩ := m_chkE hf
      obtain ⟨⟨r2, S2⟩, h_2, hf⟩ := m_calE hf
      obtain ⟨-, -, -, q⟩ := pc_J0_charAt_5068e h_2
      unfold f_X11_letterOf_25 at hf
      obtain ⟨-, hf⟩ := m_chkE hf
      cases hf
      refine ⟨e0, ?_⟩
      show r2.toInt = _
      dsimp only at q
      rw [q]
      have key : ∀ k : Nat, k < 7 → 2 ≤ k → (strL 9).getD (k - 1) 0 = ltK (k : Int) := by decide +kernel
      have := key x1.toInt.toNat (by omega) (by omega)
      rw [show ((x1.toInt.toNat : Nat) : Int) = x1.toInt by omega] at this
      rw [← this, show v1.toInt.toNat = x1.toInt.toNat - 1 by omega]
theorem ex_s {Q : Int → Prop} {n : Int} (hn : 0 ≤ n) : (∃ b, 0 ≤ b ∧ b < n + 1 ∧ Q b) ↔ ((∃ b, 0 ≤ b ∧ b < n ∧ Q b) ∨ Q n) := by
  constructor
  · rintro ⟨b, b0, b1, hb⟩
    by_cases e : b = n
    · exact Or.inr (by rw [← e]; exact hb)
    · exact Or.inl ⟨b, b0, by omega, hb⟩
  · rintro (⟨b, b0, b1, hb⟩ | h)
    · exact ⟨b, b0, by omega, hb⟩
    · exact ⟨n, hn, by omega, h⟩
theorem apP_v {x5 x6 x7 : Prop} (h5 : x5 ↔ exO P a t 64) (h6 : x6 ↔ exF P a t 64) (h7 : x7 ↔ exR P a t 64) : (¬ x5 → apP P a t = 0) ∧ (x5 → ¬ x6 → apP P a t = 1) ∧ (x5 → x6 → ¬ x7 → apP P a t = 2) ∧ (x5 → x6 → x7 → apP P a t = 3) := by
  unfold apP
  refine ⟨fun h => if_neg (fun e => h (h5.2 e)), fun h g => ?_, fun h g f => ?_, fun h g f => ?_⟩
  · rw [if_pos (h5.1 h)]; exact if_neg (fun e => g (h6.2 e))
  · rw [if_pos (h5.1 h), if_pos (h6.1 g)]; exact if_neg (fun e => f (h7.2 e))
  · rw [if_pos (h5.1 h), if_pos (h6.1 g)]; exact if_pos (h7.1 f)
theorem exF_O (h : exF P a t n) : exO P a t n := h.elim (fun b h => ⟨b, h.1, h.2.1, h.2.2.1⟩)
/-- the class tells men apart -/
theorem pa_12 (hx : x0 = 17 ∨ x0 = 78) (hb : 84 < bb) (pg : PGd P) (hn : 0 ≤ onb P ∧ onb P ≤ 99999) (hl : w.length ≤ 79000) (h2 : x2.toInt = a) (h3 : x3.toInt = t) (ha : 0 ≤ a ∧ a ≤ 63) (ht : 0 ≤ t ∧ t ≤ 63) : ∀ (n : Nat) (x5 x6 x7 x8 : Int32) (S : ZS), (0 ≤ x8.toInt ∧ x8.toInt ≤ 64) → (x5.toInt = 0 ∨ x5.toInt = 1) → (x6.toInt = 0 ∨ x6.toInt = 1) → (x7.toInt = 0 ∨ x7.toInt = 1) → (x5.toInt = 1 ↔ exO P a t x8.toInt) → (x6.toInt = 1 ↔ exF P a t x8.toInt) → (x7.toInt = 1 ↔ exR P a t x8.toInt) → PSt S0 S x0 bb P w → d_X9_putApart_12 n x0 bb x2 x3 3 x5 x6 x7 x8 S = some o → PSt S0 o.2 x0 bb P (w ++ apL a (apP P a t)) := by
  have z0 : (0 : Int32).toInt = 0 := rfl
  have z1 : (1 : Int32).toInt = 1 := rfl
  have z64 : (64 : Int32).toInt = 64 := rfl
  have hM := pg.2.1
  have p148 : ∀ {w : List Int} {S : ZS} {x6 : Int32}, w.length ≤ 79010 → PSt S0 S x0 bb P w → d_X9_putApart_148 x2 3 x6 S = some o → (x6.toInt = 0 → PSt S0 o.2 x0 bb P w) ∧ (x6.toInt ≠ 0 → PSt S0 o.2 x0 bb P (w ++ [49 + a / 8])) := fun {w S x6} hl h hh => by
    unfold d_X9_putApart_148 d_X9_putApart_162 at hh
    rcases m_ifE hh with ⟨d, hh⟩ | ⟨d, hh⟩
    · cases hh
      exact ⟨fun _ => h, fun e => absurd (by rw [d]; rfl) e⟩
    · obtain ⟨⟨r1, S1⟩, h_1, hh⟩ := m_calE hh
      obtain ⟨e1, q1⟩ := pc_rd (by omega) h_1
      obtain ⟨-, hh⟩ := m_chkE hh
      dsimp only at e1 q1 hh
      rw [e1] at hh
      obtain ⟨-, hh⟩ := m_chkE hh
      obtain ⟨⟨r3, S4⟩, h_3, hh⟩ := m_cal2E hh
      have P4 := ps_put hx hb h (by omega) (by omega) h_3
      rw [q1, h2] at P4
      cases hh
      exact ⟨fun e => absurd (i32_of e) d, fun _ => P4⟩
  have p139 : ∀ {S : ZS} {x6 : Int32}, PSt S0 S x0 bb P w → d_X9_putApart_139 x2 3 x6 S = some o → (x6.toInt = 0 → PSt S0 o.2 x0 bb P (w ++ [97 + a % 8])) ∧ (x6.toInt ≠ 0 → PSt S0 o.2 x0 bb P (w ++ [97 + a % 8] ++ [49 + a / 8])) := fun {S x6} h hh => by
    unfold d_X9_putApart_139 at hh
    obtain ⟨⟨r1, S1⟩, h_1, hh⟩ := m_calE hh
    obtain ⟨e1, q1⟩ := pc_fl (by omega) h_1
    obtain ⟨-, hh⟩ := m_chkE hh
    dsimp only at e1 q1 hh
    rw [e1] at hh
    obtain ⟨-, hh⟩ := m_chkE hh
    obtain ⟨⟨r3, S4⟩, h_3, hh⟩ := m_cal2E hh
    have P4 := ps_put hx hb h (by omega) (by omega) h_3
    rw [q1, h2] at P4
    exact p148 (by rw [List.length_append]; show w.length + 1 ≤ 79010; omega) P4 hh
  have e0 : apL a 0 = [] := by
    unfold apL
    rw [if_neg (show ¬ (0 : Int) ≤ (if (0 : Int) % 2 = 1 then a % 8 else -1) by rw [if_neg (by decide)]; decide), if_neg (show ¬ (0 : Int) ≤ (if (1 : Int) < 0 then a / 8 else -1) by rw [if_neg (by decide)]; decide)]
    rfl
  have e1 : apL a 1 = [97 + a % 8] := by
    unfold apL
    rw [if_pos (show (1 : Int) % 2 = 1 by decide), if_pos (by omega), if_neg (show ¬ (0 : Int) ≤ (if (1 : Int) < 1 then a / 8 else -1) by rw [if_neg (by decide)]; decide)]
    rfl
  have e2 : apL a 2 = [49 + a / 8] := by
    unfold apL
    rw [if_neg (show ¬ (0 : Int) ≤ (if (2 : Int) % 2 = 1 then a % 8 else -1) by rw [if_neg (by decide)]; decide), if_pos (show (1 : Int) < 2 by decide), if_pos (by omega)]
    rfl
  have e3 : apL a 3 = [97 + a % 8] ++ [49 + a / 8] := by
    unfold apL
    rw [if_pos (show (3 : Int) % 2 = 1 by decide), if_pos (by omega), if_pos (show (1 : Int) < 3 by decide), if_pos (by omega)]
  intro n
  induction n with
  | zero => intro x5 x6 x7 x8 S _ _ _ _ _ _ _ _ hf; cases hf
  | succ n ih =>
    intro x5 x6 x7 x8 S h8 b5 b6 b7 q5 q6 q7 h hf
    have hf : d_X9_putApart_12s (d_X9_putApart_12 n) x0 bb x2 x3 3 x5 x6 x7 x8 S = some o := hf
    unfold d_X9_putApart_12s at hf
    rcases m_ifE hf with ⟨d, hf⟩ | ⟨d, hf⟩
    · replace d := ti_leP (a := (64 : Int32)) (b := x8) d z64 rfl
      have e64 : x8.toInt = 64 := by omega
      rw [e64] at q5 q6 q7
      obtain ⟨v0, v1, v2, v3⟩ := apP_v q5 q6 q7
      rcases m_ifE hf with ⟨d5, hf⟩ | ⟨d5, hf⟩
      · have d5' : x5.toInt = 0 := by rw [d5]; rfl
        have n6 : x6.toInt = 0 := by
          rcases b6 with b | b
          · exact b
          · have := q5.2 (exF_O (q6.1 b))
            omega
        rw [v0 (by omega), e0, List.append_nil]
        exact (p148 (by omega) h hf).1 n6
      · have d5' : x5.toInt = 1 := by
          rcases b5 with b | b
          · exact absurd (i32_of b) d5
          · exact b
        rcases m_ifE hf with ⟨d6, hf⟩ | ⟨d6, hf⟩
        · have d6' : x6.toInt = 0 := by rw [d6]; rfl
          rw [v1 d5' (by omega), e1]
          exact (p139 h hf).1 d6'
        · have d6' : x6.toInt = 1 := by
            rcases b6 with b | b
            · exact absurd (i32_of b) d6
            · exact b
          rcases m_ifE hf with ⟨d7, hf⟩ | ⟨d7, hf⟩
          · have d7' : x7.toInt = 0 := by rw [d7]; rfl
            rw [v2 d5' d6' (by omega), e2]
            exact (p148 (by omega) h hf).2 (by omega)
          · have d7' : x7.toInt = 1 := by
              rcases b7 with b | b
              · exact absurd (i32_of b) d7
              · exact b
            rw [v3 d5' d6' d7', e3, ← List.append_assoc]
            exact (p139 h hf).2 (by omega)
    · replace d := ti_leN (a := (64 : Int32)) (b := x8) d z64 rfl
      have nxt : ∀ {x5 x6 x7 : Int32} {S : ZS}, (x5.toInt = 0 ∨ x5.toInt = 1) → (x6.toInt = 0 ∨ x6.toInt = 1) → (x7.toInt = 0 ∨ x7.toInt = 1) → (x5.toInt = 1 ↔ exO P a t (x8.toInt + 1)) → (x6.toInt = 1 ↔ exF P a t (x8.toInt + 1)) → (x7.toInt = 1 ↔ exR P a t (x8.toInt + 1)) → PSt S0 S x0 bb P w → d_X9_putApart_118 (d_X9_putApart_12 n) x0 bb x2 x3 3 x5 x6 x7 x8 S = some o → PSt S0 o.2 x0 bb P (w ++ apL a (apP P a t)) := fun {x5 x6 x7 S} b5 b6 b7 q5 q6 q7 h hh => by
        unfold d_X9_putApart_118 at hh
        obtain ⟨v1, g1, hh⟩ := m_bndE hh
        have u1 : v1.toInt = x8.toInt + 1 := ti_add g1 rfl z1 (by omega) (by omega)
        exact ih x5 x6 x7 v1 S (by omega) b5 b6 b7 (by rw [u1]; exact q5) (by rw [u1]; exact q6) (by rw [u1]; exact q7) h hh
      have s5 : exO P a t (x8.toInt + 1) ↔ (exO P a t x8.toInt ∨ OTh P a t x8.toInt) := ex_s h8.1
      have s6 : exF P a t (x8.toInt + 1) ↔ (exF P a t x8.toInt ∨ (OTh P a t x8.toInt ∧ x8.toInt % 8 = a % 8)) := ex_s h8.1
      have s7 : exR P a t (x8.toInt + 1) ↔ (exR P a t x8.toInt ∨ (OTh P a t x8.toInt ∧ x8.toInt / 8 = a / 8)) := ex_s h8.1
      have no : ∀ {S : ZS}, ¬ OTh P a t x8.toInt → PSt S0 S x0 bb P w → d_X9_putApart_118 (d_X9_putApart_12 n) x0 bb x2 x3 3 x5 x6 x7 x8 S = some o → PSt S0 o.2 x0 bb P (w ++ apL a (apP P a t)) := fun {S} hno h hh =>
        nxt b5 b6 b7 (q5.trans ⟨fun e => s5.2 (Or.inl e), fun e => (s5.1 e).resolve_right hno⟩) (q6.trans ⟨fun e => s6.2 (Or.inl e), fun e => (s6.1 e).resolve_right (fun g => hno g.1)⟩) (q7.trans ⟨fun e => s7.2 (Or.inl e), fun e => (s7.1 e).resolve_right (fun g => hno g.1)⟩) h hh
      rcases m_ifE hf with ⟨d8, hf⟩ | ⟨d8, hf⟩
      · exact no (fun e => e.1 (by rw [d8]; exact h2)) h hf
      · have d8' := ti_eqN (a := x8) (b := x2) d8 rfl rfl
        obtain ⟨hT, X, bo, hr, F⟩ := id h
        have hm := bo.2.1
        have k1 := bo.1.1
        have pb := bo.1.2.1
        obtain ⟨-, hf⟩ := m_chkE hf
        replace hf := m_calY hf pb
        obtain ⟨-, hf⟩ := m_chkE hf
        obtain ⟨-, hf⟩ := m_chkE hf
        obtain ⟨v2, g2, hf⟩ := m_bndE hf
        obtain ⟨-, hf⟩ := m_chkE hf
        replace hf := m_calY hf pb
        obtain ⟨-, hf⟩ := m_chkE hf
        obtain ⟨-, hf⟩ := m_chkE hf
        obtain ⟨v4, g4, hf⟩ := m_bndE hf
        have mm : ∀ {x v : Int32}, 0 ≤ x.toInt → x.toInt < 64 → v = zA S (bb + 1) x.toNatClampNeg → om P x.toInt = v.toInt := fun {x v} y0 y1 e => by
          rw [← hm]
          unfold mCb
          rw [if_pos ⟨y0, y1⟩, pb, e, cl_n (n := x.toInt.toNat) (by omega)]
        have u2 := mm h8.1 (by omega) g2
        have u4 := mm (x := x2) (by omega) (by omega) g4
        rw [h2] at u4
        rcases m_ifE hf with ⟨d9, hf⟩ | ⟨d9, hf⟩
        · obtain ⟨-, hf⟩ := m_chkE hf
          obtain ⟨⟨r5, S5⟩, h_5, hf⟩ := m_calE hf
          have cx := ps_cx hx hb h pg hn
          obtain ⟨e5, c5, l5⟩ := bx_reach cx.1 hM pg.2.2.2.2.2.2.1 (by omega) (by omega) h_5
          obtain ⟨-, hf⟩ := m_chkE hf
          dsimp only at hf
          rw [e5] at hf
          rw [h3] at l5
          rcases m_ifE hf with ⟨da, hf⟩ | ⟨da, hf⟩
          · exact no (fun e => by have := l5.2 e.2.2.1; rw [da] at this; exact absurd this (by decide)) h hf
          · have hre := l5.1 (by
              rcases c5 with b | b
              · exact absurd (i32_of b) da
              · exact b)
            obtain ⟨-, hf⟩ := m_chkE hf
            replace hf := m_calY hf (ps_k hx X).2.2.2
            obtain ⟨v7, g7, hf⟩ := m_bndE hf
            obtain ⟨v8, g8, hf⟩ := m_bndE hf
            have u7 : v7.toInt = 64 * x3.toInt := ti_mul g7 z64 rfl (by omega) (by omega)
            have u8 : v8.toInt = x8.toInt + v7.toInt := ti_add g8 rfl rfl (by omega) (by omega)
            obtain ⟨-, hf⟩ := m_chkE hf
            obtain ⟨⟨r9, S9⟩, h_9, hf⟩ := m_calE hf
            obtain ⟨P9, c9, l9⟩ := ps_safe hx hb h pg hn (by omega) h_9
            obtain ⟨-, hf⟩ := m_chkE hf
            dsimp only at hf
            rw [show v8.toInt % 64 = x8.toInt by omega, show v8.toInt / 64 % 64 = t by omega, show v8.toInt / 4096 = 0 by omega] at l9
            rcases m_ifE hf with ⟨db, hf⟩ | ⟨db, hf⟩
            · exact no (fun e => by have := l9.2 e.2.2.2; rw [db] at this; exact absurd this (by decide)) P9 hf
            · have yes : OTh P a t x8.toInt := ⟨by omega, by rw [u2, u4, d9], hre, l9.1 (by
                rcases c9 with b | b
                · exact absurd (i32_of b) db
                · exact b)⟩
              -- the rank, once the file is known
              have rk : ∀ t0 : Int32, (t0.toInt = 0 ∨ t0.toInt = 1) → (t0.toInt = 1 ↔ exF P a t (x8.toInt + 1)) → d_X9_putApart_94 (d_X9_putApart_12 n) x0 bb x2 x3 3 1 x7 x8 t0 S9 = some o → PSt S0 o.2 x0 bb P (w ++ apL a (apP P a t)) := fun t0 b0 l0 hh => by
                have o5 : ((1 : Int32).toInt = 1 ↔ exO P a t (x8.toInt + 1)) := ⟨fun _ => s5.2 (Or.inr yes), fun _ => rfl⟩
                unfold d_X9_putApart_94 at hh
                rcases m_ifE hh with ⟨dc, hh⟩ | ⟨dc, hh⟩
                · have dc' : x7.toInt = 0 := by rw [dc]; rfl
                  obtain ⟨w1, k1', hh⟩ := m_bndE hh
                  obtain ⟨w2, k2', hh⟩ := m_bndE hh
                  have y1 : w1.toInt = x8.toInt / 8 := b_sh3 k1' (by omega)
                  have y2 : w2.toInt = x2.toInt / 8 := b_sh3 k2' (by omega)
                  rw [h2] at y2
                  rcases m_ifE hh with ⟨dd, hh⟩ | ⟨dd, hh⟩
                  · replace dd := ti_eqP (a := w1) (b := w2) dd rfl rfl
                    unfold d_X9_putApart_111 d_X9_putApart_116 at hh
                    exact nxt (Or.inr rfl) b0 (Or.inr rfl) o5 l0 ⟨fun _ => s7.2 (Or.inr ⟨yes, by omega⟩), fun _ => rfl⟩ P9 hh
                  · replace dd := ti_eqN (a := w1) (b := w2) dd rfl rfl
                    unfold d_X9_putApart_116 at hh
                    refine nxt (Or.inr rfl) b0 (Or.inl rfl) o5 l0 ⟨fun e => absurd e (by decide), fun e => ?_⟩ P9 hh
                    rcases s7.1 e with e | e
                    · have := q7.2 e
                      omega
                    · omega
                · have dc' : x7.toInt = 1 := by
                    rcases b7 with b | b
                    · exact absurd (i32_of b) dc
                    · exact b
                  unfold d_X9_putApart_111 d_X9_putApart_116 at hh
                  exact nxt (Or.inr rfl) b0 (Or.inr rfl) o5 l0 ⟨fun _ => s7.2 (Or.inl (q7.1 dc')), fun _ => rfl⟩ P9 hh
              rcases m_ifE hf with ⟨dc, hf⟩ | ⟨dc, hf⟩
              · have dc' : x6.toInt = 0 := by rw [dc]; rfl
                obtain ⟨w1, k1', hf⟩ := m_bndE hf
                obtain ⟨w2, k2', hf⟩ := m_bndE hf
                have y1 : w1.toInt = x8.toInt % 8 := sq_7 k1' (by omega)
                have y2 : w2.toInt = x2.toInt % 8 := sq_7 k2' (by omega)
                rw [h2] at y2
                rcases m_ifE hf with ⟨dd, hf⟩ | ⟨dd, hf⟩
                · replace dd := ti_eqP (a := w1) (b := w2) dd rfl rfl
                  unfold d_X9_putApart_89 at hf
                  exact rk 1 (Or.inr rfl) ⟨fun _ => s6.2 (Or.inr ⟨yes, by omega⟩), fun _ => rfl⟩ hf
                · replace dd := ti_eqN (a := w1) (b := w2) dd rfl rfl
                  refine rk 0 (Or.inl rfl) ⟨fun e => absurd e (by decide), fun e => ?_⟩ hf
                  rcases s6.1 e with e | e
                  · have := q6.2 e
                    omega
                  · omega
              · have dc' : x6.toInt = 1 := by
                  rcases b6 with b | b
                  · exact absurd (i32_of b) dc
                  · exact b
                unfold d_X9_putApart_89 at hf
                exact rk 1 (Or.inr rfl) ⟨fun _ => s6.2 (Or.inl (q6.1 dc')), fun _ => rfl⟩ hf
        · exact no (fun e => d9 (Int32.toInt_inj.1 (by rw [← u2, ← u4]; exact e.2.1))) h hf
end PSG
