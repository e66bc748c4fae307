/-- while the reference writes -/
noncomputable def WIn (I0 : Nat → Int32) (A0 : Nat → Nat → Int32) (I : Nat → Int32) (A : Nat → Nat → Int32) (b : Int) : Prop := (TJ I ∧ TK A) ∧ (I 3).toInt ≤ b ∧ (I 5 = I0 5 ∧ I 6 = I0 6) ∧ ∀ j, 7 ≤ j → j ≤ 23 → A j = A0 j
/-- it ends with its way back to the node -/
noncomputable def WOu (I0 : Nat → Int32) (A0 : Nat → Nat → Int32) (o : Int32 × MS) : Prop := ∃ I1 A1 o3, WIn I0 A0 I1 A1 80000 ∧ f_place (I1 5) (I1 6) I1 A1 = some o3 ∧ o.2 = o3.2
section RDQ
variable {S S' : ZS} {g g' c k p : Nat} {I I' I0 : Nat → Int32} {A A' A0 : Nat → Nat → Int32} {L : List (List Int × List Int)} {st P : PO} {T T' : TRa} {r v b : Int} {x1 x2 x3 : Int32} {o2 : Int32 × MS} {D : Nat → Nat}
theorem fj_q (hR : RIt I A) (qs : QS I A P) : FJ (om P) (osd P) (ort P) (ops P) (txR I A) (I 1).toInt I A := ⟨hR.1, hR.2.1, qs.1.1, qs.1.2.1, qs.1.2.2.1, qs.1.2.2.2, hR.2.2.2.2, rfl, rfl⟩
theorem rit_0 {t : Int32} (hR : RIt I A) (ht : 0 ≤ t.toInt ∧ t.toInt ≤ 2) : RIt (upd I 0 t) A := by
  refine ⟨tj_u hR.1 (show (0 : Int) ≤ t.toInt from ht.1) (show t.toInt ≤ (2 : Int) from ht.2), hR.2.1, ?_⟩
  have h := hR.2.2
  unfold RIv at h ⊢
  rw [upd_ne (by decide), upd_ne (by decide), upd_ne (by decide)]
  exact h
/-- find leaves the reference where it was -/
theorem vq_find (hR : RIt I A) (qs : QS I A P) (pg : PGd P) (hN : 0 ≤ (I 1).toInt ∧ (I 1).toInt ≤ 2000) (hf : f_find I A = some o2) : QS o2.2.1 o2.2.2 P ∧ RSr (om P) (osd P) (ort P) (ops P) (okw P) (okb P) (oko P) (txR I A) 0 (I 1).toInt o2.1.toInt := by
  have fw := fw_find hf
  have hf : f_find_0 I A = some o2 := hf
  unfold f_find_0 at hf
  obtain ⟨I1, e1, hf⟩ := m_bndE hf
  have jj : ∀ j, j ≠ 0 → I1 j = I j := fun j hj => by rw [e1, upd_ne hj]
  have R1 : RIt I1 A := by rw [e1]; exact rit_0 hR (by decide)
  have q1 : QS I1 A P := qs_e qs rfl rfl (fun j hj => jj j (by omega))
  obtain ⟨⟨r2, Ic2, Ac2⟩, h_2, hf⟩ := m_clE hf
  have eo : o2 = (r2, (Ic2, Ac2)) := (Option.some.inj hf).symm
  have J := fj_q R1 q1
  have i1 : I1 1 = I 1 := jj 1 (by decide)
  obtain ⟨a1, a2⟩ := p_understood (ko := oko P) ⟨J, q1.2.1, q1.2.2⟩ pg rfl (by decide) (by rw [i1]; omega) (by rw [i1]; omega) h_2
  obtain ⟨-, -, b3, b4, b5, b6, -⟩ := a1
  dsimp only at b3 b4 b5 b6 a2
  have e33 : o2.2.1 33 = I 33 := fw.1 33 (by decide)
  have e32 : o2.2.2 32 = A 32 := fw.2 32 (by decide)
  refine ⟨⟨?_, ?_, ?_⟩, ?_⟩
  · rw [eo]; exact ⟨b3, b4, b5, b6⟩
  · rw [e33]; exact qs.2.1
  · rw [e32]; exact qs.2.2
  · rw [eo]
    rw [tx_fr (A := A) (A2 := A) i1 rfl, i1] at a2
    exact a2
theorem vs_33 : ∀ (n : Nat) (x2 : Int32) (I : Nat → Int32) (A : Nat → Nat → Int32), f_signs_33 n x2 I A = some o2 → (∀ j, j ≠ 3 → o2.2.1 j = I j) ∧ ∀ j, j ≠ 4 → o2.2.2 j = A j := by
  intro n
  induction n with
  | zero => intro x2 I A hf; cases hf
  | succ n ih =>
    intro x2 I A hf
    have hf : f_signs_33s (f_signs_33 n) x2 I A = some o2 := hf
    unfold f_signs_33s at hf
    rcases m_ifE hf with ⟨-, hf⟩ | ⟨-, hf⟩
    · obtain ⟨I1, e1, hf⟩ := m_bndE hf
      have eo := (Option.some.inj hf).symm
      rw [eo]
      exact ⟨fun j hj => by show I1 j = I j; rw [e1, upd_ne hj], fun _ _ => rfl⟩
    · obtain ⟨-, hf⟩ := m_chkE hf
      obtain ⟨v2, -, hf⟩ := m_bndE hf
      obtain ⟨-, hf⟩ := m_chkE hf
      obtain ⟨A3, e3, hf⟩ := m_bndE hf
      obtain ⟨v4, -, hf⟩ := m_bndE hf
      obtain ⟨a1, a2⟩ := ih _ _ _ hf
      exact ⟨a1, fun j hj => (a2 j hj).trans (by rw [e3]; exact va_up_ne _ _ hj)⟩
/-- signs leaves the reference where it was -/
theorem vq_signs (hR : RIt I A) (qs : QS I A P) (pg : PGd P) (hf : f_signs x1 I A = some o2) : QS o2.2.1 o2.2.2 P := by
  have fw := fw_signs hf
  have hf : f_signs_0 x1 I A = some o2 := hf
  unfold f_signs_0 at hf
  obtain ⟨⟨r1, Ic1, Ac1⟩, h_1, hf⟩ := m_clE hf
  obtain ⟨e1, q1, l1⟩ := v_isLegal hR.1 qs.2 h_1
  have i1 : Ic1 = I := congrArg Prod.fst e1
  have a1 : Ac1 = A := congrArg Prod.snd e1
  dsimp only at q1 l1 hf
  rw [i1, a1] at hf
  rcases m_ifE hf with ⟨-, hf⟩ | ⟨d, hf⟩
  · unfold f_signs_14 at hf
    obtain ⟨I1, f1, hf⟩ := m_bndE hf
    rcases m_ifE hf with ⟨d2, hf⟩ | ⟨-, hf⟩
    · rw [f1, upd_self] at d2
      exact absurd d2 (by decide)
    · have eo := (Option.some.inj hf).symm
      rw [eo]
      exact qs_e qs rfl rfl (fun j hj => by show I1 j = I j; rw [f1, upd_ne (by omega)])
  · have hlk : ∃ key, key < 32768 ∧ LR (om P) (osd P) (ort P) (ops P) (oko P) key ∧ mvk key = x1.toInt := by
      rcases q1 with q | q
      · exact absurd (i32_of q) d
      · exact l1.1 q
    have LG : LGo P x1.toInt := by
      obtain ⟨key, k1, k2, k3⟩ := hlk
      rw [← k3]
      exact (lg_key pg rfl k1 k2).1
    unfold f_signs_14 at hf
    obtain ⟨I1, f1, hf⟩ := m_bndE hf
    have jj : ∀ j, j ≠ 0 → I1 j = I j := fun j hj => by rw [f1, upd_ne hj]
    have R1 : RIt I1 A := by rw [f1]; exact rit_0 hR (by decide)
    have qs1 : QS I1 A P := qs_e qs rfl rfl (fun j hj => jj j (by omega))
    rcases m_ifE hf with ⟨-, hf⟩ | ⟨d2, hf⟩
    · obtain ⟨⟨r2, Ic2, Ac2⟩, h_2, hf⟩ := m_clE hf
      obtain ⟨s1, s2⟩ := vs_33 _ _ _ _ hf
      have h_2 : f_spellWhole_0 x1 I1 A = some (r2, Ic2, Ac2) := h_2
      unfold f_spellWhole_0 at h_2
      obtain ⟨⟨r3, Ic3, Ac3⟩, h_3, h_2⟩ := m_clE h_2
      have e3 := rro_apartOf h_3
      obtain ⟨-, p3⟩ := ok_of (t_apartOf R1.1 R1.2.1 LG.1) h_3
      have i3 : Ic3 = I1 := congrArg Prod.fst e3
      have a3 : Ac3 = A := congrArg Prod.snd e3
      dsimp only at h_2 p3
      rw [i3, a3] at h_2
      obtain ⟨⟨r4, Ic4, Ac4⟩, h_4, h_2⟩ := m_clE h_2
      have e4 := rro_isTaking h_4
      have i4 : Ic4 = I1 := congrArg Prod.fst e4
      have a4 : Ac4 = A := congrArg Prod.snd e4
      obtain ⟨-, b4, -⟩ := ok_of (x_isTaking R1.1 R1.2.1 LG.1 (by rw [qs1.1.1]; exact pg.2.1)) h_4
      dsimp only at h_2 b4
      rw [i4, a4] at h_2
      obtain ⟨⟨r5, Ic5, Ac5⟩, h_5, h_2⟩ := m_clE h_2
      have J5 := fj_sp (fj_q R1 qs1) LG.1 p3 (by omega) h_5
      have f5 := fw_spellMove h_5
      dsimp only at h_2 f5
      obtain ⟨⟨r6, Ic6, Ac6⟩, h_6, h_2⟩ := m_clE h_2
      obtain ⟨j1, j2, j3, j4, j5, j6, j7, -⟩ := J5
      obtain ⟨e6, -⟩ := p_behind (ko := oko P) j1 j2 j3 j4 j5 j6 j7 pg rfl LG h_6
      have i6 : Ic6 = Ic5 := congrArg Prod.fst e6
      have a6 : Ac6 = nA Ic5 Ac5 := congrArg Prod.snd e6
      dsimp only at h_2
      rw [i6, a6] at h_2
      have m6 : mR (nA Ic5 Ac5) = om P := by rw [mR_nA]; exact j3
      have fin : ∀ {I7 : Nat → Int32} {A7 : Nat → Nat → Int32}, (∀ j, j ≠ 36 → I7 j = Ic5 j) → (∀ j, j ≠ 35 → A7 j = nA Ic5 Ac5 j) → Ic2 = I7 → Ac2 = A7 → QS o2.2.1 o2.2.2 P := fun {I7 A7} g1 g2 g3 g4 => by
        have ii : ∀ j, j ≠ 3 → j ≠ 36 → o2.2.1 j = Ic5 j := fun j h3 h36 => by rw [s1 j h3, g3]; exact g1 j h36
        refine ⟨⟨?_, ?_, ?_, ?_⟩, ?_, ?_⟩
        · rw [mR_fr (s2 24 (by decide)), g4, mR_fr (g2 24 (by decide))]; exact m6
        · rw [ii 25 (by decide) (by decide)]; exact j4
        · rw [ii 26 (by decide) (by decide)]; exact j5
        · rw [ii 27 (by decide) (by decide)]; exact j6
        · rw [fw.1 33 (by decide)]; exact qs.2.1
        · rw [fw.2 32 (by decide)]; exact qs.2.2
      rcases m_ifE h_2 with ⟨-, h_2⟩ | ⟨-, h_2⟩
      · unfold f_spellWhole_30 at h_2
        have eo := Option.some.inj h_2
        have g3 : Ic5 = Ic2 := congrArg (fun z => z.2.1) eo
        have g4 : nA Ic5 Ac5 = Ac2 := congrArg (fun z => z.2.2) eo
        exact fin (fun _ _ => rfl) (fun _ _ => rfl) g3.symm g4.symm
      · obtain ⟨⟨r7, Ic7, Ac7⟩, h_7, h_2⟩ := m_clE h_2
        have f7 := fw_spell h_7
        unfold f_spellWhole_30 at h_2
        have eo := Option.some.inj h_2
        have g3 : Ic7 = Ic2 := congrArg (fun z => z.2.1) eo
        have g4 : Ac7 = Ac2 := congrArg (fun z => z.2.2) eo
        dsimp only at f7
        exact fin (fun j hj => f7.1 j (by simpa using hj)) (fun j hj => f7.2 j (by simpa using hj)) g3.symm g4.symm
    · exact absurd (show I1 0 ≤ 0 by rw [f1, upd_self]; decide) d2
/-- while the reference writes -/
theorem wi_m {b2 : Int} (h : WIn I0 A0 I A b) (hb : b ≤ b2) : WIn I0 A0 I A b2 := ⟨h.1, by have := h.2.1; omega, h.2.2⟩
theorem wi_8 (h : WIn I0 A0 I A b) : WIn I0 A0 I A 80000 := ⟨h.1, (show 0 ≤ (I 3).toInt ∧ (I 3).toInt ≤ 80000 from h.1.1 3).2, h.2.2⟩
theorem wi_f (h : WIn I0 A0 I A b) (hI : TJ I') (hA : TK A') {V W : List Nat} (f : FrS V W I A I' A') (h5 : 5 ∉ V) (h6 : 6 ∉ V) (hW : ∀ j ∈ W, j < 7 ∨ 23 < j) {b2 : Int} (hb : (I' 3).toInt ≤ b2) : WIn I0 A0 I' A' b2 := ⟨⟨hI, hA⟩, hb, ⟨(f.1 5 h5).trans h.2.2.1.1, (f.1 6 h6).trans h.2.2.1.2⟩, fun j j1 j2 => (f.2 j (fun hm => by have := hW j hm; omega)).trans (h.2.2.2 j j1 j2)⟩
theorem wi_ink (h : WIn I0 A0 I A b) (hf : f_ink x1 I A = some o2) : WIn I0 A0 o2.2.1 o2.2.2 (b + 1) := by
  have q : (I 3).toInt ≤ 79999 := by
    have b3 : 0 ≤ (I 3).toInt ∧ (I 3).toInt ≤ 80000 := h.1.1 3
    have hf : f_ink_0 x1 I A = some o2 := hf
    unfold f_ink_0 at hf
    obtain ⟨d, -⟩ := m_chkE hf
    rw [cl_n (n := (I 3).toInt.toNat) (by omega)] at d
    have : ¬ 80000 ≤ (I 3).toInt.toNat := fun e => d (Or.inr e)
    omega
  obtain ⟨a1, a2, a3⟩ := ok_of (t_ink h.1.1 h.1.2 q) hf
  exact wi_f h a1 a2 (fw_ink hf) (by decide) (by decide) (by decide) (by rw [a3]; have := h.2.1; omega)
theorem wo_280 : ∀ (n : Nat) (x1 : Int32) (I : Nat → Int32) (A : Nat → Nat → Int32), WIn I0 A0 I A 80000 → f_write_280 n x1 I A = some o2 → WOu I0 A0 o2 := by
  intro n
  induction n with
  | zero => intro x1 I A _ hf; cases hf
  | succ n ih =>
    intro x1 I A w hf
    have hf : f_write_280s (f_write_280 n) x1 I A = some o2 := hf
    unfold f_write_280s at hf
    obtain ⟨-, hf⟩ := m_chkE hf
    obtain ⟨v1, -, hf⟩ := m_bndE hf
    obtain ⟨r2, -, hf⟩ := m_clR hf (fun _ h => rro_resultSize h)
    rcases m_ifE hf with ⟨-, hf⟩ | ⟨-, hf⟩
    · obtain ⟨⟨r3, Ic3, Ac3⟩, h_3, hf⟩ := m_clE hf
      have eo := (Option.some.inj hf).symm
      exact ⟨I, A, _, w, h_3, by rw [eo]⟩
    · obtain ⟨-, hf⟩ := m_chkE hf
      obtain ⟨v4, -, hf⟩ := m_bndE hf
      obtain ⟨r5, -, hf⟩ := m_clR hf (fun _ h => rro_resultSign h)
      obtain ⟨⟨r6, Ic6, Ac6⟩, h_6, hf⟩ := m_clE hf
      obtain ⟨v7, -, hf⟩ := m_bndE hf
      exact ih _ _ _ (wi_8 (wi_ink w h_6)) hf
theorem wo_238 (hT : TRE A0 (I0 5).toInt.toNat) (h5 : 0 ≤ (I0 5).toInt) (w : WIn I0 A0 I A 1950) (hf : f_write_238 I A = some o2) : WOu I0 A0 o2 := by
  unfold f_write_238 at hf
  obtain ⟨v1, e1, hf⟩ := m_bndE hf
  obtain ⟨-, hf⟩ := m_chkE hf
  obtain ⟨v2, -, hf⟩ := m_bndE hf
  rcases m_ifE hf with ⟨-, hf⟩ | ⟨-, hf⟩
  · unfold f_write_278 at hf
    exact wo_280 _ _ _ _ (wi_8 w) hf
  · obtain ⟨v3, e3, hf⟩ := m_bndE hf
    obtain ⟨-, hf⟩ := m_chkE hf
    obtain ⟨v4, e4, hf⟩ := m_bndE hf
    obtain ⟨⟨r5, Ic5, Ac5⟩, h_5, hf⟩ := m_clE hf
    have b5 : 0 ≤ (I 5).toInt ∧ (I 5).toInt ≤ 1 := w.1.1 5
    have i5 := w.2.2.1.1
    have t3 : v3.toInt = 301 * (I 5).toInt := ti_mul e3 (show (301 : Int32).toInt = 301 from rfl) rfl (by omega) (by omega)
    rw [cl_n (n := 301 * (I 5).toInt.toNat) (by omega)] at e4
    have tre : TRE A (I 5).toInt.toNat := by
      rw [i5]
      exact TRE_fr (w.2.2.2 7 (by decide) (by decide)) (w.2.2.2 8 (by decide) (by decide)) (w.2.2.2 9 (by decide) (by decide)) (w.2.2.2 10 (by decide) (by decide)) (w.2.2.2 11 (by decide) (by decide)) hT
    obtain ⟨a1, a2, a3⟩ := ok_of (t_sayLine (gg := (I 5).toInt.toNat) (cc := 1950) w.1.1 w.1.2 tre (by omega) (by rw [e4]; rfl) rfl ⟨w.2.1, by decide⟩) h_5
    obtain ⟨⟨r6, Ic6, Ac6⟩, h_6, hf⟩ := m_clE hf
    unfold f_write_278 at hf
    have w5 : WIn I0 A0 Ic5 Ac5 80000 := wi_8 (wi_f w a1 a2 (fw_sayLine h_5) (by decide) (by decide) (by decide) a3)
    exact wo_280 _ _ _ _ (wi_8 (wi_ink w5 h_6)) hf
theorem wo_204 (hT : TRE A0 (I0 5).toInt.toNat) (h5 : 0 ≤ (I0 5).toInt) (w : WIn I0 A0 I A 1730) (hf : f_write_204 I A = some o2) : WOu I0 A0 o2 := by
  unfold f_write_204 at hf
  obtain ⟨v1, e1, hf⟩ := m_bndE hf
  obtain ⟨-, hf⟩ := m_chkE hf
  obtain ⟨v2, -, hf⟩ := m_bndE hf
  rcases m_ifE hf with ⟨-, hf⟩ | ⟨-, hf⟩
  · exact wo_238 hT h5 (wi_m w (by decide)) hf
  · obtain ⟨v3, e3, hf⟩ := m_bndE hf
    obtain ⟨⟨r4, Ic4, Ac4⟩, h_4, hf⟩ := m_clE hf
    have b5 : 0 ≤ (I 5).toInt ∧ (I 5).toInt ≤ 1 := w.1.1 5
    have t3 : v3.toInt = 301 * (I 5).toInt := ti_mul e3 (show (301 : Int32).toInt = 301 from rfl) rfl (by omega) (by omega)
    obtain ⟨a1, a2, a3⟩ := ok_of (t_sayRemark (cc := 1730) w.1.1 w.1.2 (by omega) ⟨w.2.1, by decide⟩) h_4
    have w4 : WIn I0 A0 Ic4 Ac4 1932 := wi_f w a1 a2 (fw_sayRemark h_4) (by decide) (by decide) (by decide) a3
    obtain ⟨⟨r5, Ic5, Ac5⟩, h_5, hf⟩ := m_clE hf
    exact wo_238 hT h5 (wi_m (wi_ink w4 h_5) (by decide)) hf
theorem wo_94 {self12 : Int32 → (Nat → Int32) → (Nat → Nat → Int32) → Option (Int32 × MS)} (hs : ∀ (x1 : Int32) (I : Nat → Int32) (A : Nat → Nat → Int32), (0 ≤ x1.toInt ∧ x1.toInt ≤ 8) → WIn I0 A0 I A (215 * x1.toInt) → self12 x1 I A = some o2 → WOu I0 A0 o2) (h1 : 0 ≤ x1.toInt ∧ x1.toInt ≤ 7) : ∀ (n : Nat) (x2 : Int32) (I : Nat → Int32) (A : Nat → Nat → Int32), (0 ≤ x2.toInt ∧ x2.toInt ≤ 96) → WIn I0 A0 I A (215 * x1.toInt + 15 + 2 * x2.toInt) → f_write_94 self12 n x1 x2 I A = some o2 → WOu I0 A0 o2 := by
  intro n
  induction n with
  | zero => intro x2 I A _ _ hf; cases hf
  | succ n ih =>
    intro x2 I A h2 w hf
    have hf : f_write_94s self12 (f_write_94 self12 n) x1 x2 I A = some o2 := hf
    unfold f_write_94s at hf
    obtain ⟨v1, e1, hf⟩ := m_bndE hf
    obtain ⟨v2, e2, hf⟩ := m_bndE hf
    obtain ⟨-, hf⟩ := m_chkE hf
    obtain ⟨v3, e3, hf⟩ := m_bndE hf
    have b3 : 0 ≤ v3.toInt ∧ v3.toInt ≤ 96 := by rw [e3]; exact w.1.2 21 _
    have r151 : ∀ {I A}, x2.toInt < 96 → ∀ y : Int32, WIn I0 A0 I A (215 * x1.toInt + 15 + 2 * x2.toInt + 1) → f_write_151 self12 (f_write_94 self12 n) x1 x2 y I A = some o2 → WOu I0 A0 o2 := fun {I A} hx y w hh => by
      unfold f_write_151 at hh
      obtain ⟨⟨r1, Ic1, Ac1⟩, h_1, hh⟩ := m_clE hh
      obtain ⟨v9, e9, hh⟩ := m_bndE hh
      have t9 : v9.toInt = x2.toInt + 1 := ti_add e9 rfl (show (1 : Int32).toInt = 1 from rfl) (by omega) (by omega)
      exact ih v9 Ic1 Ac1 (by omega) (wi_m (wi_ink w h_1) (by omega)) hh
    have r145 : x2.toInt < 96 → ∀ y : Int32, f_write_145 self12 (f_write_94 self12 n) x1 x2 y I A = some o2 → WOu I0 A0 o2 := fun hx y hh => by
      unfold f_write_145 at hh
      obtain ⟨⟨r1, Ic1, Ac1⟩, h_1, hh⟩ := m_clE hh
      exact r151 hx y (wi_ink w h_1) hh
    rcases m_ifE hf with ⟨d, hf⟩ | ⟨d, hf⟩
    · obtain ⟨⟨r4, Ic4, Ac4⟩, h_4, hf⟩ := m_clE hf
      obtain ⟨⟨r5, Ic5, Ac5⟩, h_5, hf⟩ := m_clE hf
      obtain ⟨⟨r6, Ic6, Ac6⟩, h_6, hf⟩ := m_clE hf
      obtain ⟨v7, e7, hf⟩ := m_bndE hf
      have t7 : v7.toInt = x1.toInt + 1 := ti_add e7 rfl (show (1 : Int32).toInt = 1 from rfl) (by omega) (by omega)
      exact hs v7 Ic6 Ac6 (by omega) (wi_m (wi_ink (wi_ink (wi_ink w h_4) h_5) h_6) (by omega)) hf
    · replace d := ti_leN (a := v3) (b := x2) d rfl rfl
      obtain ⟨v8, -, hf⟩ := m_bndE hf
      obtain ⟨v9, -, hf⟩ := m_bndE hf
      obtain ⟨v10, -, hf⟩ := m_bndE hf
      obtain ⟨v11, -, hf⟩ := m_bndE hf
      obtain ⟨-, hf⟩ := m_chkE hf
      obtain ⟨v12, -, hf⟩ := m_bndE hf
      rcases m_ifE hf with ⟨-, hf⟩ | ⟨-, hf⟩
      · exact r145 (by omega) _ hf
      · rcases m_ifE hf with ⟨-, hf⟩ | ⟨-, hf⟩
        · exact r145 (by omega) _ hf
        · exact r151 (by omega) _ (wi_m w (by omega)) hf
theorem wo_33 {self12 : Int32 → (Nat → Int32) → (Nat → Nat → Int32) → Option (Int32 × MS)} (hs : ∀ (x1 : Int32) (I : Nat → Int32) (A : Nat → Nat → Int32), (0 ≤ x1.toInt ∧ x1.toInt ≤ 8) → WIn I0 A0 I A (215 * x1.toInt) → self12 x1 I A = some o2 → WOu I0 A0 o2) (h1 : 0 ≤ x1.toInt ∧ x1.toInt ≤ 7) : ∀ (n : Nat) (x2 : Int32) (I : Nat → Int32) (A : Nat → Nat → Int32), (0 ≤ x2.toInt ∧ x2.toInt ≤ 12) → WIn I0 A0 I A (215 * x1.toInt + 1 + x2.toInt) → f_write_33 self12 n x1 x2 I A = some o2 → WOu I0 A0 o2 := by
  intro n
  induction n with
  | zero => intro x2 I A _ _ hf; cases hf
  | succ n ih =>
    intro x2 I A h2 w hf
    have hf : f_write_33s self12 (f_write_33 self12 n) x1 x2 I A = some o2 := hf
    unfold f_write_33s at hf
    obtain ⟨v1, e1, hf⟩ := m_bndE hf
    obtain ⟨v2, e2, hf⟩ := m_bndE hf
    obtain ⟨-, hf⟩ := m_chkE hf
    obtain ⟨v3, e3, hf⟩ := m_bndE hf
    have b3 : 0 ≤ v3.toInt ∧ v3.toInt ≤ 12 := by rw [e3]; exact w.1.2 19 _
    rcases m_ifE hf with ⟨d, hf⟩ | ⟨d, hf⟩
    · obtain ⟨⟨r4, Ic4, Ac4⟩, h_4, hf⟩ := m_clE hf
      obtain ⟨⟨r5, Ic5, Ac5⟩, h_5, hf⟩ := m_clE hf
      have z0 : (0 : Int32).toInt = 0 := rfl
      exact wo_94 hs h1 mFuel 0 Ic5 Ac5 (by decide) (wi_m (wi_ink (wi_ink w h_4) h_5) (by omega)) hf
    · replace d := ti_leN (a := v3) (b := x2) d rfl rfl
      obtain ⟨v6, -, hf⟩ := m_bndE hf
      obtain ⟨v7, -, hf⟩ := m_bndE hf
      obtain ⟨v8, -, hf⟩ := m_bndE hf
      obtain ⟨v9, -, hf⟩ := m_bndE hf
      obtain ⟨-, hf⟩ := m_chkE hf
      obtain ⟨v10, -, hf⟩ := m_bndE hf
      obtain ⟨⟨r11, Ic11, Ac11⟩, h_11, hf⟩ := m_clE hf
      obtain ⟨v12, e12, hf⟩ := m_bndE hf
      have t12 : v12.toInt = x2.toInt + 1 := ti_add e12 rfl (show (1 : Int32).toInt = 1 from rfl) (by omega) (by omega)
      exact ih v12 Ic11 Ac11 (by omega) (wi_m (wi_ink w h_11) (by omega)) hf
theorem wo_12 (hT : TRE A0 (I0 5).toInt.toNat) (h5 : 0 ≤ (I0 5).toInt) : ∀ (n : Nat) (x1 : Int32) (I : Nat → Int32) (A : Nat → Nat → Int32), (0 ≤ x1.toInt ∧ x1.toInt ≤ 8) → WIn I0 A0 I A (215 * x1.toInt) → f_write_12 n x1 I A = some o2 → WOu I0 A0 o2 := by
  intro n
  induction n with
  | zero => intro x1 I A _ _ hf; cases hf
  | succ n ih =>
    intro x1 I A h1 w hf
    have hf : f_write_12s (f_write_12 n) x1 I A = some o2 := hf
    unfold f_write_12s at hf
    obtain ⟨-, hf⟩ := m_chkE hf
    obtain ⟨v1, e1, hf⟩ := m_bndE hf
    have b1 : 0 ≤ v1.toInt ∧ v1.toInt ≤ 8 := by rw [e1]; exact w.1.2 18 _
    rcases m_ifE hf with ⟨d, hf⟩ | ⟨d, hf⟩
    · obtain ⟨-, hf⟩ := m_chkE hf
      obtain ⟨v2, -, hf⟩ := m_bndE hf
      rcases m_ifE hf with ⟨-, hf⟩ | ⟨-, hf⟩
      · exact wo_204 hT h5 (wi_m w (by omega)) hf
      · obtain ⟨⟨r3, Ic3, Ac3⟩, h_3, hf⟩ := m_clE hf
        exact wo_204 hT h5 (wi_m (wi_ink w h_3) (by omega)) hf
    · replace d := ti_leN (a := v1) (b := x1) d rfl rfl
      obtain ⟨⟨r4, Ic4, Ac4⟩, h_4, hf⟩ := m_clE hf
      have z0 : (0 : Int32).toInt = 0 := rfl
      exact wo_33 ih (by omega) mFuel 0 Ic4 Ac4 (by decide) (wi_m (wi_ink w h_4) (by omega)) hf
/-- write brings the reference back to its node -/
theorem vq_write (hR : RIt I A) (gr : GMr A (I 5).toInt.toNat L st T r) (h6 : (I 6).toInt = (c : Int)) (hc : c ≤ tn T) (hf : f_write I A = some o2) : QS o2.2.1 o2.2.2 (posT st T c) := by
  have hf : f_write_0 I A = some o2 := hf
  have b5 : 0 ≤ (I 5).toInt ∧ (I 5).toInt ≤ 1 := hR.1 5
  unfold f_write_0 at hf
  obtain ⟨I1, e1, hf⟩ := m_bndE hf
  obtain ⟨I2, e2, hf⟩ := m_bndE hf
  have t1 : TJ I1 := by rw [e1]; exact tj_u hR.1 (show (0 : Int) ≤ (0 : Int32).toInt by decide) (show (0 : Int32).toInt ≤ (2 : Int) by decide)
  have t2 : TJ I2 := by rw [e2]; exact tj_u t1 (show (0 : Int) ≤ (0 : Int32).toInt by decide) (show (0 : Int32).toInt ≤ (80000 : Int) by decide)
  have w : WIn I A I2 A (215 * (0 : Int32).toInt) := by
    refine ⟨⟨t2, hR.2.1⟩, ?_, ⟨?_, ?_⟩, fun _ _ _ => rfl⟩
    · rw [e2, upd_self]; decide
    · rw [e2, upd_ne (by decide), e1, upd_ne (by decide)]
    · rw [e2, upd_ne (by decide), e1, upd_ne (by decide)]
  obtain ⟨I3, A3, o3, w3, h3, eo⟩ := wo_12 hR.2.2.1 b5.1 mFuel 0 I2 A (by decide) w hf
  obtain ⟨⟨j1, j2⟩, -, ⟨j5, j6⟩, jA⟩ := w3
  obtain ⟨qn, -⟩ := qs_place (k := c) j1 j2 (by rw [j5]; exact b5) (by rw [j5]; exact gmr_7 (by omega) gr jA) (by rw [j6]; exact h6) hc h3
  rw [eo]
  exact qn
/-- read ends with its way to the node -/
theorem vq_read (hR : RIt I A) (hf : f_read I A = some o2) : ∃ I1 A1 o3, (TJ I1 ∧ TK A1) ∧ f_place (I1 5) (I1 6) I1 A1 = some o3 ∧ o2.2 = o3.2 := by
  obtain ⟨hI, hA, ht, -⟩ := hR
  have b5 : 0 ≤ (I 5).toInt ∧ (I 5).toInt ≤ 1 := hI 5
  have hf : f_read_0 I A = some o2 := hf
  unfold f_read_0 at hf
  obtain ⟨I1, e1, hf⟩ := m_bndE hf
  have hI1 : TJ I1 := by rw [e1]; exact tj_u hI (show (0 : Int) ≤ (0 : Int32).toInt by decide) (show (0 : Int32).toInt ≤ (2 : Int) by decide)
  have j5 : I1 5 = I 5 := by rw [e1, upd_ne (by decide)]
  obtain ⟨v2, e2, hf⟩ := m_bndE hf
  have t2 : v2.toInt = 1 - (I1 5).toInt := ti_sub e2 (show (1 : Int32).toInt = 1 from rfl) rfl (by rw [j5]; omega) (by rw [j5]; omega)
  rw [j5] at t2
  obtain ⟨⟨r3, Ic3, Ac3⟩, h_r3, hf⟩ := m_clE hf
  obtain ⟨hI3, hA3, c0, cH, c2, c3⟩ := ok_of (t_clearGame2 (gg := 1 - (I 5).toInt.toNat) (x1 := v2) hI1 hA (by omega) (by omega)) h_r3
  dsimp only at hI3 hA3 c0 cH c2 c3 hf
  have th3 : TRH Ac3 (I 5).toInt.toNat (aK A (I 5).toInt.toNat) := cH _ _ (by omega) (by omega) ⟨ht, rfl⟩
  obtain ⟨⟨r4, Ic4, Ac4⟩, h_r4, hf⟩ := m_clE hf
  obtain ⟨hI4, hA4, u0⟩ := ok_of (t_usual (x1 := v2) hI3 hA3 (by omega)) h_r4
  have f_r4 := fw_usual h_r4
  dsimp only at hI4 hA4 u0 f_r4 hf
  have k41 : TRE Ac4 (1 - (I 5).toInt.toNat) := TRE_fr (f_r4.2 7 (by decide)) (f_r4.2 8 (by decide)) (f_r4.2 9 (by decide)) (f_r4.2 10 (by decide)) (f_r4.2 11 (by decide)) c0
  have k42 : lnk Ac4 (1 - (I 5).toInt.toNat) 0 0 := lnk_fr (f_r4.2 7 (by decide)) (f_r4.2 8 (by decide)) (f_r4.2 10 (by decide)) c2
  have k43 : leaf Ac4 (1 - (I 5).toInt.toNat) 0 := leaf_fr (f_r4.2 10 (by decide)) c3
  have k44 : TRH Ac4 (I 5).toInt.toNat (aK A (I 5).toInt.toNat) := TRH_fr (f_r4.2 7 (by decide)) (f_r4.2 8 (by decide)) (f_r4.2 9 (by decide)) (f_r4.2 10 (by decide)) (f_r4.2 11 (by decide)) th3
  obtain ⟨⟨r5, Ic5, Ac5⟩, h_r5, hf⟩ := m_clE hf
  obtain ⟨hI5, hA5, -⟩ := ok_of (t_readGame (x1 := v2) (gg := 1 - (I 5).toInt.toNat) (hh := (I 5).toInt.toNat) (nb := aK A (I 5).toInt.toNat) hI4 hA4 (by omega) (by omega) k41 k44 (by omega) ⟨by omega, by omega⟩ k42 k43) h_r5
  dsimp only at hI5 hA5 hf
  have fin : ∀ {I9 : Nat → Int32}, TJ I9 → f_read_47 r5 I9 Ac5 = some o2 → ∃ I1 A1 o3, (TJ I1 ∧ TK A1) ∧ f_place (I1 5) (I1 6) I1 A1 = some o3 ∧ o2.2 = o3.2 := fun {I9} h9 hh => by
    unfold f_read_47 at hh
    obtain ⟨⟨r1, Ic1, Ac1⟩, h_1, hh⟩ := m_clE hh
    have eo := (Option.some.inj hh).symm
    exact ⟨I9, Ac5, _, ⟨h9, hA5⟩, h_1, by rw [eo]⟩
  rcases m_ifE hf with ⟨-, hf⟩ | ⟨-, hf⟩
  · obtain ⟨I6, e6, hf⟩ := m_bndE hf
    obtain ⟨I7, e7, hf⟩ := m_bndE hf
    obtain ⟨I8, e8, hf⟩ := m_bndE hf
    have t6 : TJ I6 := by rw [e6]; exact tj_u hI5 (show (0 : Int) ≤ v2.toInt by omega) (show v2.toInt ≤ (1 : Int) by omega)
    have t7 : TJ I7 := by rw [e7]; exact tj_u t6 (show (0 : Int) ≤ (0 : Int32).toInt by decide) (show (0 : Int32).toInt ≤ (300 : Int) by decide)
    have t8 : TJ I8 := by rw [e8]; exact tj_u t7 (show (0 : Int) ≤ (0 : Int32).toInt by decide) (show (0 : Int32).toInt ≤ (2000 : Int) by decide)
    exact fin t8 hf
  · exact fin hI5 hf
/-- the other game of the reference, while one is read -/
theorem gmr_rdf {g0 : Nat} (h : GMr A g0 L st T r) (hg0 : g0 ≤ 1) (hg : g ≤ 1) (hne : g0 ≠ g) (D : RDf A A' g) : GMr A' g0 L st T r := by
  obtain ⟨⟨⟨t1, t2, t3⟩, hw, hl⟩, ⟨sp, sp2⟩, tg, hr⟩ := h
  have h3 := hw.1
  have E : ∀ j, 8 ≤ j → j ≤ 14 → j ≠ 13 → ∀ k, k ≤ tn T → A' j (301 * g0 + k) = A j (301 * g0 + k) := fun j j1 j2 j3 k hk => by
    refine D.2 j (by omega) (by omega) _ ?_
    have e : sz j = 301 := by
      unfold sz
      rw [if_neg (by omega), if_neg (by omega), if_neg (by omega), if_neg (by omega), if_neg (by omega), if_neg (by omega), if_neg (by omega), if_neg (by omega)]
    rw [e]
    omega
  have e8 : ∀ k, k ≤ tn T → aP A' g0 k = aP A g0 k := fun k hk => by unfold aP; rw [E 8 (by decide) (by decide) (by decide) k hk]
  have e9 : ∀ k, k ≤ tn T → aM A' g0 k = aM A g0 k := fun k hk => by unfold aM; rw [E 9 (by decide) (by decide) (by decide) k hk]
  have e10 : ∀ k, k ≤ tn T → aC A' g0 k = aC A g0 k := fun k hk => by unfold aC; rw [E 10 (by decide) (by decide) (by decide) k hk]
  have e11 : ∀ k, k ≤ tn T → aN A' g0 k = aN A g0 k := fun k hk => by unfold aN; rw [E 11 (by decide) (by decide) (by decide) k hk]
  refine ⟨⟨⟨⟨?_, ?_⟩, fun p hp => ?_, fun k hk => ?_⟩, hw, hl⟩, ⟨?_, sp2⟩, tgr_rdf tg hg0 hg hne D, ?_⟩
  · unfold aK
    rw [D.2 7 (by decide) (by decide) g0 (by rw [show sz 7 = 1 from rfl, Nat.div_one]; exact hne)]
    exact t1.1
  · rw [e11 0 (Nat.zero_le _)]; exact t1.2
  · obtain ⟨a1, a2, a3⟩ := t2 p hp
    refine ⟨?_, a2, fun k => (a3 k).trans ⟨fun ⟨b1, b2, b3⟩ => ⟨b1, b2, by rw [e8 k b2]; exact b3⟩, fun ⟨b1, b2, b3⟩ => ⟨b1, b2, by rw [← e8 k b2]; exact b3⟩⟩⟩
    rw [e10 p hp]
    exact chn_congr (fun k hk => e11 k ((a3 k).1 hk).2.1) a1
  · obtain ⟨b1, ⟨b2, b3⟩, b4, b5⟩ := t3 k hk
    have l4 := hw.2.2.1 k
    rw [e8 k hk, e9 k hk]
    refine ⟨b1, ⟨by rw [E 12 (by decide) (by decide) (by decide) k hk]; exact b2, fun i hi => ?_⟩, by rw [E 14 (by decide) (by decide) (by decide) k hk]; exact b4, fun i hi => ?_⟩
    · rw [D.2 13 (by decide) (by decide) _ (by rw [show sz 13 = 1204 from rfl]; omega)]
      exact b3 i hi
    · rw [D.2 15 (by decide) (by decide) _ (by rw [show sz 15 = 60200 from rfl]; omega)]
      exact b5 i hi
  · obtain ⟨s1, s2, s3, s4, s5⟩ := sp
    have E17 : ∀ i : Int, 0 ≤ i → i < 5 → A' 17 (5 * (g0 : Int) + i).toNat = A 17 (5 * (g0 : Int) + i).toNat := fun i i0 i1 => D.2 17 (by decide) (by decide) _ (by rw [show sz 17 = 5 from rfl]; omega)
    refine ⟨fun s q0 q1 => ?_, ?_, ?_, ?_, ?_⟩
    · rw [D.2 16 (by decide) (by decide) _ (by rw [show sz 16 = 64 from rfl]; omega)]
      exact s1 s q0 q1
    · have := E17 0 (by decide) (by decide)
      rw [Int.add_zero] at this
      rw [this]; exact s2
    · rw [E17 1 (by decide) (by decide)]; exact s3
    · rw [E17 2 (by decide) (by decide)]; exact s4
    · rw [E17 4 (by decide) (by decide)]; exact s5
  · rw [D.2 23 (by decide) (by decide) g0 (by rw [show sz 23 = 1 from rfl, Nat.div_one]; exact hne)]
    exact hr
/-- the game that stands, while another is read: the class -/
theorem gmc_kp (hC : CG S) (hg : g = 35 ∨ g = 99) (h : GMc S g L st T r) (hE : ∀ a, zK S a < 18 → a ≠ 23 → KPc S g a → EQc S S' a) : GMc S' g L st T r := by
  obtain ⟨⟨tr, hw, hl⟩, bo, tg, lb, hr⟩ := h
  obtain ⟨⟨kg, -⟩, ⟨kb, ka, k3, k4, k5, k6, -⟩, -⟩ := fx_g hC.2.2.1 hg
  have K : ∀ a, g ≤ a → a ≤ g + 7 → KPc S g a := fun a h1 h2 => Or.inr (Or.inr (Or.inr (Or.inr (Or.inl ⟨h1, h2⟩))))
  have eg := hE g (by rw [kg]; decide) (by omega) (K _ (by omega) (by omega))
  refine ⟨⟨trc_e hC hg tr (fun a ha => ?_), hw, hl⟩, bo_e bo (hE _ (by rw [kb]; decide) (by omega) (K _ (by omega) (by omega))) (hE (g + 2) (by rw [ka]; decide) (by omega) (K _ (by omega) (by omega))), tgk_e hC hg tg eg (hE _ (by rw [k6]; decide) (by omega) (K _ (by omega) (by omega))) (fun i t ht => ?_), lb, by rw [eg.2.2.1]; exact hr⟩
  · have lt := tc_lt hC hg ha
    rcases ha with e | e | e | e | ⟨i, n, e1, e2⟩
    · exact hE a lt (by omega) (K _ (by omega) (by omega))
    · exact hE a lt (by omega) (K _ (by omega) (by omega))
    · exact hE a lt (by omega) (K _ (by omega) (by omega))
    · exact hE a lt (by omega) (K _ (by omega) (by omega))
    · have := ((gm_of hC hg).1 i n e1).1
      exact hE a lt (by omega) (Or.inr (Or.inr (Or.inr (Or.inr (Or.inr (Or.inl ⟨i, n, e1, e2⟩))))))
  · obtain ⟨b1, -, -, -, b5, b6⟩ := (gm_of hC hg).2 i t ht
    exact ⟨hE _ (by rw [b5]; decide) (by omega) (Or.inr (Or.inr (Or.inr (Or.inr (Or.inr (Or.inr ⟨i, t, ht, by omega⟩)))))), hE _ (by rw [b6]; decide) (by omega) (Or.inr (Or.inr (Or.inr (Or.inr (Or.inr (Or.inr ⟨i, t, ht, by omega⟩))))))⟩
/-- read on both sides -/
theorem fm_read {o : Int32 × ZS} (hC : CG S) (hR : RIt I A) (h : FM I A S) (h2 : f_read I A = some o2) (ho : d_X11_read 1 S = some o) : FM o2.2.1 o2.2.2 o.2 := by
  obtain ⟨hm, g', L0, st0, T0, r0, c, w⟩ := h
  obtain ⟨⟨p7, gc⟩, gr, ⟨c1, c2, c3⟩, bo, qs⟩ := id w
  have hI := hR.1
  have hA := hR.2.1
  have hs := sm_read hC hI hA hm h2 ho
  refine ⟨hs, ?_⟩
  obtain ⟨g, g2, hg, p3, p72⟩ := hm.1.2
  rw [p7] at p72
  cases p72
  have wb := hm.2.2.2
  have b5 : 0 ≤ (I 5).toInt ∧ (I 5).toInt ≤ 1 := hI 5
  have hgr : g' = 35 ∨ g' = 99 := gg_g (gg_s hg)
  obtain ⟨I1, A1, o3, ⟨t1, t2⟩, hp, eo⟩ := vq_read hR h2
  have fp := fw_place hp
  have e5 : o2.2.1 5 = I1 5 := by rw [eo]; exact fp.1 5 (by decide)
  have e6 : o2.2.1 6 = I1 6 := by rw [eo]; exact fp.1 6 (by decide)
  have eA : ∀ j, 7 ≤ j → j ≤ 23 → A1 j = o2.2.2 j := fun j j1 j2 => by
    rw [eo]
    exact (fp.2 j (by simp only [List.mem_cons, List.not_mem_nil, or_false]; omega)).symm
  have pl : ∀ {L st T r} {k : Nat}, GMr o2.2.2 (o2.2.1 5).toInt.toNat L st T r → (o2.2.1 6).toInt = (k : Int) → k ≤ tn T → QS o2.2.1 o2.2.2 (posT st T k) := fun {L st T r k} G h6 hk => by
    have b15 : 0 ≤ (I1 5).toInt ∧ (I1 5).toInt ≤ 1 := t1 5
    obtain ⟨qn, -⟩ := qs_place (k := k) t1 t2 b15 (by rw [e5] at G; exact gmr_7 (by omega) G eA) (by rw [← e6]; exact h6) hk hp
    rw [eo]
    exact qn
  rcases p_read hC hg p3 p7 hm.2 ho with ⟨L, st, T, r, a1, a2, a3, a4, a5, a6, a7, a8, a9⟩ | ⟨a1, a2, a3⟩
  · rcases v_read (g := 1 - (I 5).toInt.toNat) hI hA rfl rfl wb.1 wb.2 (by omega) (by omega) h2 with ⟨L', st', T', r', b1, b2, b3, b4, b5', b6⟩ | ⟨b1, -⟩
    · rw [a1] at b1
      cases b1
      have e5' : (o2.2.1 5).toInt.toNat = 1 - (I 5).toInt.toNat := by omega
      rw [← e5'] at b6
      exact ⟨g, L, st, T, r, 0, ⟨a5, a7⟩, b6, ⟨a8, b5', Nat.zero_le _⟩, a9, pl b6 b5' (Nat.zero_le _)⟩
    · rw [a1] at b1; cases b1
  · rcases v_read (g := 1 - (I 5).toInt.toNat) hI hA rfl rfl wb.1 wb.2 (by omega) (by omega) h2 with ⟨L', st', T', r', b1, -⟩ | ⟨b1, b2, b3, b4, b5', b6'⟩
    · rw [a1] at b1; cases b1
    · have D := rdt_read (g := 1 - (I 5).toInt.toNat) hI hA rfl rfl wb.1 wb.2 (by omega) (by omega) h2
      have K : ∀ a, zK S a < 18 → a ≠ 23 → KPc S g' a → EQc S o.2 a := fun a ha hn hk => eqc_t (eqc_P rfl hn) (fr_e a3 ha (fun hh => hh hk))
      have k1 : zK S 1 = 11 := fx_k hC.2.2.1 (by decide) (by decide)
      have ee := K 1 (by rw [k1]; decide) (by decide) (Or.inl ⟨by decide, by decide⟩)
      have k107 : zK S 107 = 0 := fx_k hC.2.2.1 (by decide) (by decide)
      have k108 : zK S 108 = 14 := fx_k hC.2.2.1 (by decide) (by decide)
      have G : GMr o2.2.2 (o2.2.1 5).toInt.toNat L0 st0 T0 r0 := by
        rw [b5']
        exact gmr_rdf gr (by omega) (by omega) (by omega) D
      exact ⟨g', L0, st0, T0, r0, c, ⟨(ee.2.2.2.1 7).trans p7, gmc_kp hC hgr gc K⟩, G, ⟨by rw [ee.2.2.1 8]; exact c1, by rw [b6']; exact c2, c3⟩, bo_e bo (K 107 (by rw [k107]; decide) (by decide) (Or.inr (Or.inr (Or.inl rfl)))) (K 108 (by rw [k108]; decide) (by decide) (Or.inr (Or.inr (Or.inr (Or.inl rfl))))), pl G (by rw [b6']; exact c2) c3⟩
end RDQ
