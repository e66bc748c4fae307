/-- the signs of the tags -/
def LCb (L : List (List Int × List Int)) : Prop := ∀ i : Nat, i < L.length → (∀ q, 0 ≤ wA (nmL L (i : Int)) q ∧ wA (nmL L (i : Int)) q ≤ 65535) ∧ ∀ q, 0 ≤ wA (vlL L (i : Int)) q ∧ wA (vlL L (i : Int)) q ≤ 65535
section WCH
variable {S0 S S' : ZS} {g bb b k c : Nat} {T : TRa} {st P : PO} {L : List (List Int × List Int)} {w u : List Int} {o : Int32 × ZS} {x1 x2 x3 : Int32} {r : Int} {D : Nat → Nat}
theorem ps_eq {a : Nat} (h : PSt S0 S 78 bb P w) (X0 : FIX S0) (hk : zK S0 a < 18) (h6 : zK S0 a ≠ 6) (h0 : zK S0 a ≠ 0) (h14 : zK S0 a ≠ 14) : EQc S0 S a := by
  obtain ⟨-, -, -, -, F⟩ := h
  refine fr_e F hk ?_
  rintro (e | ⟨e1, e2⟩)
  · rw [e, fx_k X0 (by decide) (by decide)] at h6
    exact h6 (by decide)
  · rcases (show a = 80 ∨ a = 81 ∨ a = 82 ∨ a = 83 by omega) with e | e | e | e <;> rw [e, fx_k X0 (by decide) (by decide)] at h0 h14 <;> first | exact h0 (by decide) | exact h14 (by decide)
theorem pq_2 (hb : 84 < bb) (X0 : FIX S0) (kb : zK S0 b = 6) (hb3 : b ≠ 3) (hr : RWL S0 b u) (hu : u.length ≤ 96) (hcu : ∀ i, 0 ≤ wA u i ∧ wA u i ≤ 65535) : ∀ (n : Nat) (x2 : Int32) (S : ZS) (w : List Int) (j : Nat), x2.toInt = (j : Int) → j ≤ u.length → w.length + 2 * (u.length - j) ≤ 88000 → PSt S0 S 78 bb P w → d_X3_putQuoted_2 n b 3 x2 S = some o → PSt S0 o.2 78 bb P (w ++ qtW (u.drop j)) := by
  intro n
  induction n with
  | zero => intro x2 S w j _ _ _ _ hf; cases hf
  | succ n ih =>
    intro x2 S w j hx hj hl h hf
    have hf : d_X3_putQuoted_2s (d_X3_putQuoted_2 n) b 3 x2 S = some o := hf
    obtain ⟨kS, rS⟩ := ps_row h kb hb3 X0 hr
    unfold d_X3_putQuoted_2s at hf
    obtain ⟨-, hf⟩ := m_chkE hf
    obtain ⟨⟨y1, S1⟩, h_1, hf⟩ := m_calE hf
    have q1 := pc_X6_size h_1
    have e1 : S1 = S := ro_X6_size h_1
    obtain ⟨-, hf⟩ := m_chkE hf
    dsimp only at q1 hf
    rw [e1] at hf
    have t1 : y1.toInt = (u.length : Int) := by rw [q1]; exact rS.1
    rcases m_ifE hf with ⟨d, hf⟩ | ⟨d, hf⟩
    · replace d := ti_leP (a := y1) (b := x2) d rfl rfl
      have ej : j = u.length := by omega
      have ed : qtW (u.drop j) = [] := by rw [ej, List.drop_length]; rfl
      have eo := (Option.some.inj hf).symm
      rw [eo, ed, List.append_nil]
      exact h
    · replace d := ti_leN (a := y1) (b := x2) d rfl rfl
      have jl : j < u.length := by omega
      obtain ⟨-, hf⟩ := m_chkE hf
      obtain ⟨⟨y2, S2⟩, h_2, hf⟩ := m_calE hf
      have q2 := pc_X6_at h_2
      have e2 : S2 = S := ro_X6_at h_2
      obtain ⟨-, hf⟩ := m_chkE hf
      dsimp only at q2 hf
      rw [e2] at hf
      rw [rS.2, hx] at q2
      have b2 := hcu (j : Int)
      rw [← q2] at b2
      have t2 : y2.toInt = u[j] := by rw [q2, wA_in jl]
      have ed : qtW (u.drop j) = (if u[j] = 34 ∨ u[j] = 92 then [92, u[j]] else [u[j]]) ++ qtW (u.drop (j + 1)) := by
        rw [List.drop_eq_getElem_cons jl]
        unfold qtW
        rw [List.flatMap_cons]
      rw [ed, ← t2]
      have s34 : ∀ {S : ZS} {w : List Int}, w.length + 1 + 2 * (u.length - (j + 1)) ≤ 88000 → PSt S0 S 78 bb P w → d_X3_putQuoted_34 (d_X3_putQuoted_2 n) b 3 x2 y2 S = some o → PSt S0 o.2 78 bb P (w ++ ([y2.toInt] ++ qtW (u.drop (j + 1)))) := fun {S w} hl h hh => by
        unfold d_X3_putQuoted_34 at hh
        obtain ⟨-, hh⟩ := m_chkE hh
        obtain ⟨⟨r2, S3⟩, h_3, hh⟩ := m_cal2E hh
        have P3 := ps_put (Or.inr rfl) hb h (by omega) b2 h_3
        dsimp only at P3 hh
        obtain ⟨v6, g6, hh⟩ := m_bndE hh
        have s6 : v6.toInt = x2.toInt + 1 := ti_add g6 rfl (show (1 : Int32).toInt = 1 from rfl) (by omega) (by omega)
        have q := ih v6 S3 _ (j + 1) (by omega) (by omega) (by rw [List.length_append, List.length_singleton]; omega) P3 hh
        rw [List.append_assoc] at q
        exact q
      have s28 : d_X3_putQuoted_28 (d_X3_putQuoted_2 n) b 3 x2 y2 S = some o → PSt S0 o.2 78 bb P (w ++ ([92, y2.toInt] ++ qtW (u.drop (j + 1)))) := fun hh => by
        unfold d_X3_putQuoted_28 at hh
        obtain ⟨-, hh⟩ := m_chkE hh
        obtain ⟨⟨r2, S3⟩, h_3, hh⟩ := m_cal2E hh
        have P3 := ps_put (Or.inr rfl) hb h (by omega) (by decide) h_3
        dsimp only at P3 hh
        have q := s34 (by rw [List.length_append, List.length_singleton]; omega) P3 hh
        rw [List.append_assoc] at q
        exact q
      rcases m_ifE hf with ⟨d2, hf⟩ | ⟨d2, hf⟩
      · have d2' : y2.toInt = 34 := by rw [d2]; rfl
        rw [if_pos (Or.inl d2')]
        exact s28 hf
      · have d2' : ¬ y2.toInt = 34 := fun e => d2 (i32_of e)
        rcases m_ifE hf with ⟨d3, hf⟩ | ⟨d3, hf⟩
        · have d3' : y2.toInt = 92 := by rw [d3]; rfl
          rw [if_pos (Or.inr d3')]
          exact s28 hf
        · have d3' : ¬ y2.toInt = 92 := fun e => d3 (i32_of e)
          rw [if_neg (fun e => e.elim d2' d3')]
          exact s34 (by omega) h hf
theorem p_tagX {t rr : Nat} (h5 : x1.toInt < (zI S 5 g).toInt) (h0 : 0 ≤ x1.toInt) (hP : zP S 4 g = some (g + 6)) (ht : zB S (g + 6) x1.toInt.toNat = some t) (hf : d_X1_tagAt g x1 S = some (rr, S')) : S' = S ∧ rr = t := by
  have hf : d_X1_tagAt_0 g x1 S = some (rr, S') := hf
  have z0 : (0 : Int32).toInt = 0 := rfl
  unfold d_X1_tagAt_0 at hf
  rcases m_ifE hf with ⟨c1, hf⟩ | ⟨c1, hf⟩
  · replace c1 := ti_ltP (a := x1) (b := (0 : Int32)) c1 rfl rfl
    omega
  · obtain ⟨-, hf⟩ := m_chkE hf
    rcases m_ifE hf with ⟨c2, hf⟩ | ⟨c2, hf⟩
    · replace c2 := ti_leP (a := zI S 5 g) (b := x1) c2 rfl rfl
      omega
    · obtain ⟨-, hf⟩ := m_chkE hf
      replace hf := m_calY hf hP
      obtain ⟨-, hf⟩ := m_chkE hf
      obtain ⟨-, hf⟩ := m_chkE hf
      obtain ⟨v2, e2, hf⟩ := m_bndE hf
      have e3 : v2 = some t := by rw [e2, cl_n (n := x1.toInt.toNat) (by omega)]; exact ht
      unfold d_X1_tagAt_22 at hf
      rcases m_optE hf with ⟨n1, hf⟩ | ⟨b1, n1, hf⟩
      · rw [n1] at e3; cases e3
      · rw [n1] at e3
        cases e3
        unfold d_X1_tagAt_38 at hf
        replace hf := m_calY hf rfl
        cases hf
        exact ⟨rfl, rfl⟩
/-- the remark of the beginning, and the first board -/
theorem ph_72 (hg : g = 35 ∨ g = 99) (hb : 98 < bb) (hC0 : CG S0) (hw : WT T) (hc : TCb T) (tr0 : TRc S0 g T) (bo0 : BO S0 (g + 1) st) (hgp : gpW w = []) (hl : w.length ≤ 80000) (h : PSt S0 S 78 bb P w) (hf : d_X3_putHead_72 77 g 3 S = some o) : LOo g T 0 S0 o.2 (w ++ (if tR T 0 = [] then [] else rmW (tR T 0))) ∧ BO o.2 85 st := by
  have X0 := hC0.2.2.1
  unfold d_X3_putHead_72 at hf
  have L1 : LOo g T 0 S0 S w := ps_lo hC0 hg tr0 h
  obtain ⟨-, hf⟩ := m_chkE hf
  obtain ⟨⟨c1, S1⟩, h_1, hf⟩ := m_calE hf
  obtain ⟨e1, q1⟩ := p_at L1.1.1 hg L1.1.2 (by decide) (by show (0 : Int) ≤ _; omega) h_1
  obtain ⟨-, hf⟩ := m_chkE hf
  dsimp only at hf
  rw [e1, q1, show (0 : Int32).toInt.toNat = 0 from rfl, nk_fr hC0 hg L1.2.2] at hf
  obtain ⟨⟨r3, S4⟩, h_3, hf⟩ := m_cal2E hf
  have P4 := pc_rem (by omega) X0 (nd_w hC0 hg hw hc tr0 (Nat.zero_le _)) (by omega) h h_3
  rw [hgp, List.nil_append] at P4
  dsimp only at P4 hf
  have X4 := P4.2.1
  obtain ⟨kg, p0, -⟩ := (fx_g X4 hg).1
  obtain ⟨-, hf⟩ := m_chkE hf
  replace hf := m_calY hf (show zP S4 1 77 = some 84 from fx_p X4 (by decide))
  obtain ⟨-, hf⟩ := m_chkE hf
  obtain ⟨-, hf⟩ := m_chkE hf
  obtain ⟨b1, b2, b3, b4⟩ := fx_b (d := 0) X4 (by decide)
  replace hf := m_calY hf (show zB S4 84 (0 : Int32).toNatClampNeg = some 85 from b4)
  obtain ⟨-, hf⟩ := m_chkE hf
  replace hf := m_calY hf p0
  obtain ⟨-, hf⟩ := m_chkE hf
  obtain ⟨⟨r10, S10⟩, h_10, hf⟩ := m_calE hf
  obtain ⟨-, hf⟩ := m_chkE hf
  have bo4 : BO S4 (g + 1) st := bo_fr bo0 P4.2.2.2.2 (by omega) (by omega)
  obtain ⟨a1, a2, a3⟩ := bo_copy P4.1 b1 b2 b3 bo4 h_10
  dsimp only at a1 a2 a3
  have eo := (Option.some.inj hf).symm
  rw [eo]
  have L4 : LOo g T 0 S0 S4 (w ++ (if tR T 0 = [] then [] else rmW (tR T 0))) := ps_lo hC0 hg tr0 P4
  have k3 : zK S4 3 = 6 := fx_k X4 (by decide) (by decide)
  have r10 : RWL S10 3 (w ++ (if tR T 0 = [] then [] else rmW (tR T 0))) := eqc_rl (fr_e a2 (by rw [k3]; decide) (by omega)) k3 L4.2.1
  exact ⟨lo_t L4 (lo_mk L4.1.1 hg L4.1.2 a1 (fr_m a2 (fun a _ e => by unfold WD; omega)) r10), a3⟩
/-- the head -/
theorem ph_2 (hg : g = 35 ∨ g = 99) (hb : 98 < bb) (hC0 : CG S0) (hw : WT T) (hc : TCb T) (tr0 : TRc S0 g T) (bo0 : BO S0 (g + 1) st) (tg : TGk S0 g L) (lb : LBd L) (lc : LCb L) : ∀ (n : Nat) (x3 : Int32) (S : ZS) (w : List Int) (i : Nat), x3.toInt = (i : Int) → i ≤ L.length → (L = [] → w = []) → w.length + ((L.drop i).flatMap tgW).length ≤ 79000 → PSt S0 S 78 bb P w → d_X3_putHead_2 n 77 g 3 x3 S = some o → LOo g T 0 S0 o.2 (w ++ ((L.drop i).flatMap tgW ++ ((if L = [] then [] else [10]) ++ (if tR T 0 = [] then [] else rmW (tR T 0))))) ∧ BO o.2 85 st := by
  have z0 : (0 : Int32).toInt = 0 := rfl
  have X0 := hC0.2.2.1
  obtain ⟨kg, -, -, -, p4, -⟩ := (fx_g X0 hg).1
  have k17 : zK S0 (g + 6) = 17 := (fx_g X0 hg).2.1.2.2.2.2.2.1
  have gm := gm_of hC0 hg
  obtain ⟨tg1, tg2, tg3⟩ := tg
  have hb84 : 84 < bb := by omega
  intro n
  induction n with
  | zero => intro x3 S w i _ _ _ _ _ hf; cases hf
  | succ n ih =>
    intro x3 S w i hx hi hw0 hl h hf
    have hf : d_X3_putHead_2s (d_X3_putHead_2 n) 77 g 3 x3 S = some o := hf
    have eg := ps_eq h X0 (a := g) (by rw [kg]; decide) (by rw [kg]; decide) (by rw [kg]; decide) (by rw [kg]; decide)
    have t5 : (zI S 5 g).toInt = (L.length : Int) := by rw [eg.2.2.1]; exact tg1
    unfold d_X3_putHead_2s at hf
    obtain ⟨-, hf⟩ := m_chkE hf
    rcases m_ifE hf with ⟨d, hf⟩ | ⟨d, hf⟩
    · replace d := ti_leP (a := zI S 5 g) (b := x3) d rfl rfl
      have ei : i = L.length := by omega
      have ed : (L.drop i).flatMap tgW = [] := by rw [ei, List.drop_length]; rfl
      rw [ed, List.nil_append]
      obtain ⟨-, hf⟩ := m_chkE hf
      rcases m_ifE hf with ⟨d2, hf⟩ | ⟨d2, hf⟩
      · replace d2 := ti_leP (a := zI S 5 g) (b := (0 : Int32)) d2 rfl z0
        have e0 : L = [] := List.length_eq_zero_iff.1 (by omega)
        have ew := hw0 e0
        rw [if_pos e0, List.nil_append]
        exact ph_72 hg hb hC0 hw hc tr0 bo0 (by rw [ew]; rfl) (by omega) h hf
      · replace d2 := ti_leN (a := zI S 5 g) (b := (0 : Int32)) d2 rfl z0
        have e0 : ¬ L = [] := fun e => by
          rw [e] at t5
          have t5 : (zI S 5 g).toInt = 0 := t5
          omega
        rw [if_neg e0]
        obtain ⟨-, hf⟩ := m_chkE hf
        obtain ⟨⟨r2, S3⟩, h_2, hf⟩ := m_cal2E hf
        have P3 := ps_put (Or.inr rfl) hb84 h (by omega) (by decide) h_2
        dsimp only at P3 hf
        have q := ph_72 hg hb hC0 hw hc tr0 bo0 gp_10 (by rw [List.length_append, List.length_singleton]; omega) P3 hf
        rw [List.append_assoc] at q
        exact q
    · replace d := ti_leN (a := zI S 5 g) (b := x3) d rfl rfl
      have il : i < L.length := by omega
      obtain ⟨t, ht, hrn, hrv⟩ := tg3 i il
      obtain ⟨g1, g2, g3, g4, g5, g6⟩ := gm.2 i t ht
      have e6 := ps_eq h X0 (a := g + 6) (by rw [k17]; decide) (by rw [k17]; decide) (by rw [k17]; decide) (by rw [k17]; decide)
      have bn := lb (i : Int) (by omega) (by omega)
      have bc := lc i il
      obtain ⟨en, ev⟩ := nm_g il
      have ed : (L.drop i).flatMap tgW = tgW L[i] ++ (L.drop (i + 1)).flatMap tgW := by rw [List.drop_eq_getElem_cons il, List.flatMap_cons]
      have tl : (tgW L[i]).length = 1 + (L[i]).1.length + 2 + (qtW (L[i]).2).length + 3 := by
        unfold tgW
        simp only [List.length_cons, List.length_append, List.length_nil]
        omega
      rw [ed, List.length_append, tl] at hl
      have qv : ∀ v : List Int, (qtW v).length ≤ 2 * v.length := fun v => by
        induction v with
        | nil => exact Nat.le_refl _
        | cons a v ihv =>
          unfold qtW at ihv ⊢
          rw [List.flatMap_cons, List.length_append, List.length_cons]
          have : (if a = 34 ∨ a = 92 then [92, a] else [a]).length ≤ 2 := by
            split
            · exact Nat.le_refl 2
            · exact Nat.le_succ 1
          omega
      have q2 := qv (L[i]).2
      rw [en, ev] at bn bc
      obtain ⟨-, hf⟩ := m_chkE hf
      obtain ⟨⟨r7, S8⟩, h_7, hf⟩ := m_cal2E hf
      obtain ⟨s8, e7⟩ := p_tagX (t := t) (by omega) (by omega) ((eg.2.2.2.1 4).trans p4) (by rw [show x3.toInt.toNat = i by omega, e6.2.2.2.2.1]; exact ht) h_7
      dsimp only at hf
      rw [s8, e7] at hf
      obtain ⟨-, hf⟩ := m_chkE hf
      obtain ⟨⟨r12, S13⟩, h_12, hf⟩ := m_cal2E hf
      have P13 := ps_put (Or.inr rfl) hb84 h (by omega) (by decide) h_12
      dsimp only at P13 hf
      have et := fun {S' : ZS} {w' : List Int} (h' : PSt S0 S' 78 bb P w') => ps_eq h' X0 (a := t) (by rw [g2]; decide) (by rw [g2]; decide) (by rw [g2]; decide) (by rw [g2]; decide)
      obtain ⟨-, hf⟩ := m_chkE hf
      replace hf := m_calY hf (((et P13).2.2.2.1 0).trans g3)
      obtain ⟨-, hf⟩ := m_chkE hf
      obtain ⟨⟨r18, S19⟩, h_18, hf⟩ := m_cal2E hf
      rw [en] at hrn
      rw [ev] at hrv
      have P19 := pc_all hb84 X0 g5 (by omega) hrn (by omega) bc.1 (by rw [List.length_append, List.length_singleton]; omega) P13 h_18
      dsimp only at P19 hf
      obtain ⟨-, hf⟩ := m_chkE hf
      obtain ⟨⟨r23, S24⟩, h_23, hf⟩ := m_cal2E hf
      have k11 : strL 11 = [32, 34] := by decide +kernel
      have k12 : strL 12 = [34, 93, 10] := by decide +kernel
      have P24 := pc_txt hb84 (k := 11) (by rw [k11]; decide) (by rw [k11]; decide) (by rw [List.length_append, List.length_append, List.length_singleton]; omega) P19 h_23
      rw [k11] at P24
      dsimp only at P24 hf
      obtain ⟨-, hf⟩ := m_chkE hf
      replace hf := m_calY hf (((et P24).2.2.2.1 1).trans g4)
      obtain ⟨⟨r29, S30⟩, h_29, hf⟩ := m_cal2E hf
      have P30 := pq_2 hb84 X0 g6 (by omega) hrv bn.2 bc.2 mFuel 0 S24 _ 0 rfl (Nat.zero_le _) (by simp only [List.length_append, List.length_cons, List.length_nil]; omega) P24 h_29
      rw [List.drop_zero] at P30
      dsimp only at P30 hf
      obtain ⟨-, hf⟩ := m_chkE hf
      obtain ⟨⟨r34, S35⟩, h_34, hf⟩ := m_cal2E hf
      have P35 := pc_txt hb84 (k := 12) (by rw [k12]; decide) (by rw [k12]; decide) (by simp only [List.length_append, List.length_cons, List.length_nil]; omega) P30 h_34
      rw [k12] at P35
      dsimp only at P35 hf
      obtain ⟨v38, e38, hf⟩ := m_bndE hf
      have t38 : v38.toInt = x3.toInt + 1 := ti_add e38 rfl (show (1 : Int32).toInt = 1 from rfl) (by omega) (by omega)
      have q := ih v38 S35 _ (i + 1) (by omega) (by omega) (fun e => by rw [e] at il; exact absurd il (Nat.not_lt_zero _)) (by simp only [List.length_append, List.length_cons, List.length_nil]; omega) P35 hf
      have ea : ∀ X : List Int, w ++ [(91 : Int32).toInt] ++ (L[i]).1 ++ [32, 34] ++ qtW (L[i]).2 ++ [34, 93, 10] ++ X = w ++ (tgW L[i] ++ X) := fun X => by
        unfold tgW
        simp
      rw [ea, ← List.append_assoc (tgW L[i]), ← ed] at q
      exact q
/-- the text that the class writes is the same -/
theorem wt_c (hx : ∀ k, 1 ≤ k → k ≤ tn T → 0 ≤ tM T k) : ∀ w1 w2 : List Int, w1 = hdW L ++ (if tR T 0 = [] then [] else rmW (tR T 0)) → w2 = w1 ++ ((if tL T 0 = [] then [] else gpW w1) ++ lnP st T 301 true 0) → (tL T 0 ≠ [] → gpW w2 = [32]) → w2 ++ (gpW w2 ++ rsW r) = wtW L st T r := by
  intro w1 w2 e1 e2 hg2
  have hh : gpW (hdW L) = [] := by
    unfold hdW
    by_cases e : L = []
    · rw [if_pos e, e]; rfl
    · rw [if_neg e]; exact gp_10
  have hg1 : gpW w1 = if tR T 0 = [] then [] else [32] := by
    rw [e1]
    by_cases e : tR T 0 = []
    · rw [if_pos e, if_pos e, List.append_nil]; exact hh
    · rw [if_neg e, if_neg e]; exact gp_rm
  unfold wtW
  by_cases eL : tL T 0 = []
  · rw [if_pos eL] at e2 ⊢
    rw [ln_n eL, List.append_nil, List.append_nil] at e2
    rw [e2, hg1, e1]
    by_cases eR : tR T 0 = []
    · rw [if_pos eR, if_pos eR, if_pos eR]
      simp only [List.append_nil, List.nil_append]
    · rw [if_neg eR, if_neg eR, if_neg eR]
      simp only [List.append_assoc, List.nil_append]
  · rw [hg2 eL]
    rw [if_neg eL] at e2 ⊢
    rw [e2, hg1, e1]
    by_cases eR : tR T 0 = []
    · rw [if_pos eR, if_pos eR, if_pos eR]
      simp only [List.append_nil, List.nil_append, List.append_assoc]
    · rw [if_neg eR, if_neg eR, if_neg eR]
      simp only [List.append_assoc]
/-- behind a line no sign opens -/
theorem gp_ln (hw : WT T) (tl : ∀ p, p ≤ tn T → ∀ k ∈ tL T p, 1 ≤ k ∧ k ≤ tn T ∧ p < k) : ∀ (m p : Nat) (w : List Int) (fr : Bool), p ≤ tn T → tn T < p + m → tL T p ≠ [] → gpW (w ++ lnP st T m fr p) = [32] := by
  intro m
  induction m with
  | zero => intro p w fr hp hm; omega
  | succ m ih =>
    intro p w fr hp hm hne
    cases hL : tL T p with
    | nil => exact absurd hL hne
    | cons F os =>
      have hF := tl p hp F (by rw [hL]; exact List.mem_cons_self)
      rw [ln_c hL]
      by_cases e : tL T F = []
      · have et : tlW T F = [] := if_pos e
        rw [et, ln_n e, List.nil_append, List.append_nil]
        cases os with
        | nil =>
          have ev : vsT st T m [] = [] := rfl
          rw [ev, List.append_nil]
          exact gp_mv (hw.2.1 F hF.1 hF.2.1).2.1
        | cons j os =>
          have key : ∀ (l : List Nat) (j : Nat) (w : List Int), gpW (w ++ vsT st T m (j :: l)) = [32] := by
            intro l
            induction l with
            | nil =>
              intro j w
              have ev : vsT st T m [] = [] := rfl
              rw [vs_c, ev, List.append_nil]
              have ea : w ++ ([32] ++ ([40] ++ (vrT st T m j ++ [41]))) = (w ++ ([32] ++ ([40] ++ vrT st T m j))) ++ [41] := by simp only [List.append_assoc]
              rw [ea]
              exact gp_1 (by decide)
            | cons i l ihl =>
              intro j w
              rw [vs_c]
              have ea : w ++ ([32] ++ ([40] ++ (vrT st T m j ++ ([41] ++ vsT st T m (i :: l))))) = (w ++ ([32] ++ ([40] ++ (vrT st T m j ++ [41])))) ++ vsT st T m (i :: l) := by simp only [List.append_assoc]
              rw [ea]
              exact ihl i _
          rw [← List.append_assoc]
          exact key os j _
      · have ea : w ++ (mvT st T F fr ++ (vsT st T m os ++ (tlW T F ++ lnP st T m (rkB T F || !os.isEmpty) F))) = (w ++ (mvT st T F fr ++ (vsT st T m os ++ tlW T F))) ++ lnP st T m (rkB T F || !os.isEmpty) F := by simp only [List.append_assoc]
        rw [ea]
        exact ih F _ _ hF.2.1 (by omega) e
end WCH
