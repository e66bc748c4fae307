/-- the result that stands is one -/
def R0t (I : Nat → Int32) (A : Nat → Nat → Int32) : Prop := 0 ≤ (A 23 (I 5).toInt.toNat).toInt
/-- the full relation, and a result -/
def FWr (I : Nat → Int32) (A : Nat → Nat → Int32) (S : ZS) : Prop := FM I A S ∧ R0t I A
section WWW
variable {S S' : ZS} {g k c : Nat} {T : TRa} {st P : PO} {L : List (List Int × List Int)} {I I' : Nat → Int32} {A A' : Nat → Nat → Int32} {o2 : Int32 × MS} {x1 x2 x3 : Int32} {r : Int} {D : Nat → Nat}
theorem fw_c (hK : zK S' = zK S) (hI : zI S' = zI S) (hP : zP S' = zP S) (hN : zN S' = zN S) (hA : zA S' = zA S) (hB : zB S' = zB S) (h : FWr I A S) : FWr I A S' := ⟨fm_c hK hI hP hN hA hB h.1, h.2⟩
theorem r0_e (h : R0t I A) (h5 : I' 5 = I 5) (h23 : A' 23 = A 23) : R0t I' A' := by
  unfold R0t
  rw [h5, h23]
  exact h
theorem mach_r {ch : Int → Int} {N : Int} : ∀ (n : Nat) (p : Int) (l : List (Nat × Nat)) (T : TRa) (e : Int) (T' : TRa), mach ch N st n p l T = some (e, T') → rsV ch e ≠ -1 := by
  intro n
  induction n with
  | zero => intro p l T e T' h; cases h
  | succ n ih =>
    intro p l T e T' h
    cases l with
    | nil => cases h
    | cons a rest =>
      obtain ⟨ro, la⟩ := a
      by_cases h1 : rest = [] ∧ rsV ch (blk ch p) ≠ -1
      · rw [mc_r h1.1 h1.2] at h
        cases h
        exact h1.2
      · by_cases h2 : la ≠ ro ∧ ch (blk ch p) = 40
        · rw [mc_o h1 h2] at h
          by_cases h6 : 6 ≤ rest.length
          · rw [if_pos h6] at h
            cases h
          · rw [if_neg h6] at h
            exact ih _ _ _ _ _ h
        · by_cases h3 : la ≠ ro ∧ rest ≠ [] ∧ ch (blk ch p) = 41
          · rw [mc_c h1 h3] at h
            cases e9 : rmkP ch N 2001 (blk ch (blk ch p + 1)) (tR T (rest.headD (0, 0)).2) with
            | none => rw [e9] at h; cases h
            | some z =>
              obtain ⟨ea, wa⟩ := z
              rw [e9] at h
              exact ih _ _ _ _ _ h
          · rw [mc_m h1 h2 h3] at h
            cases e9 : mvP ch N st T la (blk ch p) with
            | none => rw [e9] at h; cases h
            | some z =>
              obtain ⟨ea, wa⟩ := z
              rw [e9] at h
              exact ih _ _ _ _ _ h
theorem rs_0 {ch : Int → Int} {p : Int} (h : rsV ch p ≠ -1) : 0 ≤ rsV ch p := by
  unfold rsV at h ⊢
  split
  · decide
  · rename_i h1
    rw [if_neg h1] at h
    split
    · decide
    · rename_i h2
      rw [if_neg h2] at h
      split
      · decide
      · rename_i h3
        rw [if_neg h3] at h
        split
        · decide
        · rename_i h4
          rw [if_neg h4] at h
          exact absurd rfl h
theorem rdP_r {ch : Int → Int} {N : Int} (h : rdP ch N = some (L, st, T, r)) : 0 ≤ r := by
  unfold rdP at h
  cases e1 : hdP ch N 9 (blk ch 0) [] st00 with
  | none => simp only [e1] at h; cases h
  | some q =>
    simp only [e1] at h
    cases e2 : rmkP ch N 2001 (blk ch q.1) [] with
    | none => simp only [e2] at h; cases h
    | some q2 =>
      obtain ⟨e9, w9⟩ := q2
      simp only [e2] at h
      cases e3 : mach ch N q.2.2 2001 e9 [(0, 0)] (rkT T00 0 w9) with
      | none => simp only [e3] at h; cases h
      | some q3 =>
        obtain ⟨e8, T8⟩ := q3
        simp only [e3] at h
        have hr := mach_r _ _ _ _ e8 T8 e3
        by_cases c : AGr q.2.1 (rsV ch e8) ∧ blk ch (e8 + rsN (rsV ch e8)) = N
        · rw [if_pos c] at h
          cases h
          exact rs_0 hr
        · rw [if_neg c] at h
          cases h
theorem r0_read (hR : RIt I A) (hs : SM I A S) (hz : R0t I A) (h2 : f_read I A = some o2) : R0t o2.2.1 o2.2.2 := by
  have wb := hs.2.2.2
  have b5 : 0 ≤ (I 5).toInt ∧ (I 5).toInt ≤ 1 := hR.1 5
  rcases v_read (g := 1 - (I 5).toInt.toNat) hR.1 hR.2.1 rfl rfl wb.1 wb.2 (by omega) (by omega) h2 with ⟨L', st', T', r', b1, b2, b3, b4, b5', b6⟩ | ⟨b1, b2, b3, b4, b5', b6⟩
  · have e : (o2.2.1 5).toInt.toNat = 1 - (I 5).toInt.toNat := by omega
    unfold R0t
    rw [e, b6.2.2.2]
    exact rdP_r b1
  · have D := rdt_read (g := 1 - (I 5).toInt.toNat) hR.1 hR.2.1 rfl rfl wb.1 wb.2 (by omega) (by omega) h2
    have e := D.2 23 (by decide) (by decide) (I 5).toInt.toNat (by rw [show sz 23 = 1 from rfl, Nat.div_one]; omega)
    unfold R0t
    rw [b5', e]
    exact hz
theorem v_end (h5b : 0 ≤ (I 5).toInt ∧ (I 5).toInt ≤ 1) (h2 : f_end x1 I A = some o2) : o2.2.2 23 (I 5).toInt.toNat = A 23 (I 5).toInt.toNat ∨ (0 ≤ x1.toInt ∧ o2.2.2 23 (I 5).toInt.toNat = x1) := by
  have h2 : f_end_0 x1 I A = some o2 := h2
  have z0 : (0 : Int32).toInt = 0 := rfl
  have k46 : ∀ (t0 : Int32) (I1 : Nat → Int32), I1 5 = I 5 → f_end_46 t0 (I1 5) I1 A = some o2 → o2.2.2 23 (I 5).toInt.toNat = t0 := fun t0 I1 j5 hh => by
    unfold f_end_46 at hh
    obtain ⟨-, hh⟩ := m_chkE hh
    obtain ⟨A1, e1, hh⟩ := m_bndE hh
    have eo := (Option.some.inj hh).symm
    rw [eo]
    show A1 23 _ = t0
    rw [e1, va_up_self, j5, cl_n (n := (I 5).toInt.toNat) (by omega), upd_self]
  have k15 : ∀ t0 : Int32, f_end_15 x1 t0 I A = some o2 → (t0 ≤ 0 ∧ o2.2.2 23 (I 5).toInt.toNat = x1) ∨ o2.2.2 23 (I 5).toInt.toNat = A 23 (I 5).toInt.toNat := fun t0 hh => by
    unfold f_end_15 at hh
    obtain ⟨I1, e1, hh⟩ := m_bndE hh
    have j0 : I1 0 = t0 := by rw [e1, upd_self]
    have j5 : I1 5 = I 5 := by rw [e1, upd_ne (by decide)]
    rcases m_ifE hh with ⟨d, hh⟩ | ⟨-, hh⟩
    · rw [j0] at d
      exact Or.inl ⟨d, k46 x1 I1 j5 hh⟩
    · obtain ⟨-, hh⟩ := m_chkE hh
      obtain ⟨v2, e2, hh⟩ := m_bndE hh
      rw [j5, cl_n (n := (I 5).toInt.toNat) (by omega)] at e2
      have q := k46 v2 I1 j5 hh
      rw [e2] at q
      exact Or.inr q
  have k10 : f_end_10 x1 I A = some o2 → o2.2.2 23 (I 5).toInt.toNat = A 23 (I 5).toInt.toNat := fun hh => by
    unfold f_end_10 at hh
    rcases k15 1 hh with ⟨d, -⟩ | q
    · exact absurd d (by decide)
    · exact q
  unfold f_end_0 at h2
  rcases m_ifE h2 with ⟨-, h2⟩ | ⟨d, h2⟩
  · exact Or.inl (k10 h2)
  · replace d := ti_ltN (a := x1) (b := (0 : Int32)) d rfl z0
    rcases m_ifE h2 with ⟨-, h2⟩ | ⟨-, h2⟩
    · rcases k15 0 h2 with ⟨-, q⟩ | q
      · exact Or.inr ⟨d, q⟩
      · exact Or.inl q
    · exact Or.inl (k10 h2)
theorem tg_len (lb : LBd L) (h8 : L.length ≤ 8) : (L.flatMap tgW).length ≤ 79000 := by
  have qv : ∀ v : List Int, (qtW v).length ≤ 2 * v.length := fun v => by
    induction v with
    | nil => exact Nat.le_refl _
    | cons a v ihv =>
      unfold qtW at ihv ⊢
      rw [List.flatMap_cons, List.length_append, List.length_cons]
      have : (if a = 34 ∨ a = 92 then [92, a] else [a]).length ≤ 2 := by
        split
        · exact Nat.le_refl 2
        · exact Nat.le_succ 1
      omega
  have key : ∀ l : List (List Int × List Int), (∀ t ∈ l, t.1.length ≤ 12 ∧ t.2.length ≤ 96) → (l.flatMap tgW).length ≤ 210 * l.length := fun l => by
    induction l with
    | nil => intro _; exact Nat.le_refl _
    | cons a l ih =>
      intro hm
      have h1 := hm a List.mem_cons_self
      have h2 := ih (fun t ht => hm t (List.mem_cons_of_mem _ ht))
      have h3 := qv a.2
      have tl : (tgW a).length = 1 + a.1.length + 2 + (qtW a.2).length + 3 := by
        unfold tgW
        simp only [List.length_cons, List.length_append, List.length_nil]
        omega
      rw [List.flatMap_cons, List.length_append, List.length_cons, tl]
      omega
  have q := key L (fun t ht => by
    obtain ⟨i, hi, e⟩ := List.mem_iff_getElem.1 ht
    obtain ⟨en, ev⟩ := nm_g hi
    have b := lb (i : Int) (by omega) (by omega)
    rw [en, ev, e] at b
    exact b)
  omega
theorem r0_end (h5b : 0 ≤ (I 5).toInt ∧ (I 5).toInt ≤ 1) (hz : R0t I A) (h2 : f_end x1 I A = some o2) : R0t o2.2.1 o2.2.2 := by
  have e5 : o2.2.1 5 = I 5 := (fw_end h2).1 5 (by decide)
  have z0 : (0 : Int32).toInt = 0 := rfl
  unfold R0t
  rw [e5]
  rcases v_end h5b h2 with h | ⟨h0, h⟩
  · rw [h]; exact hz
  · rw [h]; exact h0
/-- depths, signs, marks: what the reference's bounds tell of the game -/
theorem dp_r (hR : RIt I A) (gr : GMr A (I 5).toInt.toNat L st T r) : ∃ D : Nat → Nat, D 0 = 0 ∧ (∀ k, 1 ≤ k → k ≤ tn T → D k = D (tP T k).toNat + (if hdC T (tP T k).toNat = (k : Int) then 0 else 1)) ∧ ∀ k, k ≤ tn T → D k ≤ 6 := by
  obtain ⟨hb, L', D, hl', hd⟩ := hR.2.2.1
  have ek : aK A (I 5).toInt.toNat = tn T := gr.1.1.1
  rw [ek] at hd
  obtain ⟨d1, d2, d3⟩ := hd
  refine ⟨D, d1, fun k k1 hk => ?_, d3⟩
  have eP := (gr.1.1.2.2 k hk).1.1
  have hP := (gr.1.2.1.2.1 k k1 hk).1
  have q := d2 k k1 hk
  rw [eP, trr_hd gr.1.1 (show (tP T k).toNat ≤ tn T by omega)] at q
  exact q
theorem tc_r (hA : TK A) (gr : GMr A g L st T r) : TCb T := fun k hk => by
  obtain ⟨-, hK, hR⟩ := gr.1.1.2.2 k hk
  refine ⟨fun i => ?_, fun m hm => ?_⟩
  · by_cases h : 0 ≤ i ∧ i < ((tR T k).length : Int)
    · have q := hR.2 i.toNat (by omega)
      rw [show ((i.toNat : Nat) : Int) = i by omega] at q
      rw [← q]
      exact tA_15 hA _
    · rw [wA_out (by omega)]
      decide
  · obtain ⟨i, hi, ei⟩ := List.mem_iff_getElem.1 hm
    have q := hK.2 i hi
    rw [wA_in hi, ei] at q
    rw [← q]
    exact tA_13 hA _
theorem lc_r (hA : TK A) (gr : GMr A g L st T r) : LCb L := fun i hi => by
  obtain ⟨hN, hV⟩ := gr.2.2.1.2.2 (i : Int) (by omega) (by omega)
  refine ⟨fun q => ?_, fun q => ?_⟩
  · by_cases h : 0 ≤ q ∧ q < ((nmL L (i : Int)).length : Int)
    · rw [← hN.2.2 q h.1 h.2]
      exact tA_20 hA _
    · rw [wA_out (by omega)]
      decide
  · by_cases h : 0 ≤ q ∧ q < ((vlL L (i : Int)).length : Int)
    · rw [← hV.2.2 q h.1 h.2]
      exact tA_22 hA _
    · rw [wA_out (by omega)]
      decide
/-- write on the class's side -/
theorem p_write {o : Int32 × ZS} (hC : CG S) (hg : g = 35 ∨ g = 99) (p7 : zP S 7 1 = some g) (gc : GMc S g L st T r) (bo : BO S 107 P) (hc : TCb T) (lc : LCb L) (hr : 0 ≤ r ∧ r ≤ 3) (hD : D 0 = 0 ∧ (∀ k, 1 ≤ k → k ≤ tn T → D k = D (tP T k).toNat + (if hdC T (tP T k).toNat = (k : Int) then 0 else 1)) ∧ ∀ k, k ≤ tn T → D k ≤ 6) (hl : (wtW L st T r).length ≤ 80000) (hf : d_X11_write 1 S = some o) : RWL o.2 3 (wtW L st T r) ∧ o.1.toInt = ((wtW L st T r).length : Int) := by
  obtain ⟨⟨tr, hw, hlt⟩, bos, tg, lb, hres⟩ := gc
  have X := hC.2.2.1
  have z0 : (0 : Int32).toInt = 0 := rfl
  have hf : d_X11_write_0 1 S = some o := hf
  unfold d_X11_write_0 at hf
  obtain ⟨-, hf⟩ := m_chkE hf
  replace hf := m_calY hf (show zP S 1 1 = some 3 from fx_p X (by decide))
  obtain ⟨k3, hf⟩ := m_chkE hf
  obtain ⟨⟨y2, S2⟩, h_2, hf⟩ := m_calE hf
  obtain ⟨w0, hw0⟩ := rwl_ex hC.1 k3
  obtain ⟨a2, b2, c2⟩ := p_keep hw0 (show (0 : Int) ≤ (0 : Int32).toInt by decide) h_2
  rw [show (0 : Int32).toInt.toNat = 0 from rfl, List.take_zero] at a2
  have T2 : ZT S2 := by
    rcases c2 with c2 | c2
    · rw [c2]; exact hC.1
    · rw [c2]
      exact zt_I0 hC.1 k3 (fun _ => ⟨show (0 : Int) ≤ (0 : Int32).toInt by decide, show (0 : Int32).toInt ≤ _ by rw [hw0.1]; exact Int.natCast_nonneg _⟩) (fun e => absurd e.1 (by decide)) (tf_b _)
  have F2 : FR (fun a => a = 3) S S2 := fr_r b2 k3
  have L2 : LOo g T 0 S S2 [] := lo_mk hC hg tr T2 (fr_m F2 (fun a _ e => Or.inl e)) a2
  obtain ⟨C2, tr2⟩ := L2.1
  have X2 := C2.2.2.1
  have bo2 : BO S2 107 P := bo_fr bo F2 (by decide) (by decide)
  have bos2 : BO S2 (g + 1) st := bo_fr bos F2 (by omega) (by omega)
  have kl := fun a h1 h2 => fx_l (a := a) X h1 h2
  have tg2 : TGk S2 g L := tgk_fr hC hg tg F2 ((fr_e F2 (kl g (by omega) (by omega)) (by omega)).2.2.1 5) (by omega) (fun i t ht => by
    have := ((gm_of hC hg).2 i t ht).1
    exact ⟨by omega, by omega⟩)
  obtain ⟨-, hf⟩ := m_chkE hf
  dsimp only at hf
  obtain ⟨-, hf⟩ := m_chkE hf
  replace hf := m_calY hf (show zP S2 6 1 = some 77 from fx_p X2 (by decide))
  obtain ⟨-, hf⟩ := m_chkE hf
  have k1 : zK S 1 = 11 := fx_k X (by decide) (by decide)
  have p72 : zP S2 7 1 = some g := ((fr_e F2 (by rw [k1]; decide) (by decide)).2.2.2.1 7).trans p7
  replace hf := m_calY hf p72
  obtain ⟨-, hf⟩ := m_chkE hf
  replace hf := m_calY hf (show zP S2 1 1 = some 3 from fx_p X2 (by decide))
  obtain ⟨-, hf⟩ := m_chkE hf
  obtain ⟨⟨r7, S8⟩, h_7, hf⟩ := m_cal2E hf
  -- what will be written
  have tl : ∀ p, p ≤ tn T → ∀ k ∈ tL T p, 1 ≤ k ∧ k ≤ tn T ∧ p < k := fun p hp k hk => by
    have q := ((tr.2.2.1 p hp).2.2 k).1 hk
    have q2 := (tr.2.2.2 k q.2.1).1.1
    have q3 := (hw.2.1 k q.1 q.2.1).1
    have q4 : tP T k = (p : Int) := by rw [← q2]; exact q.2.2
    exact ⟨q.1, q.2.1, by omega⟩
  have h300 := hw.1
  obtain ⟨w1, ew1⟩ : ∃ w1, w1 = hdW L ++ (if tR T 0 = [] then [] else rmW (tR T 0)) := ⟨_, rfl⟩
  obtain ⟨w2, ew2⟩ : ∃ w2, w2 = w1 ++ ((if tL T 0 = [] then [] else gpW w1) ++ lnP st T 301 true 0) := ⟨_, rfl⟩
  have et := wt_c (r := r) (fun k k1 k2 => (hw.2.1 k k1 k2).2.1) w1 w2 ew1 ew2 (fun hne => by
    rw [ew2, ← List.append_assoc]
    exact gp_ln hw tl 301 0 _ true (Nat.zero_le _) (by omega) hne)
  rw [← et] at hl ⊢
  rw [List.length_append] at hl
  have hl2 : w2.length ≤ 80000 := by omega
  have hl1 : w1.length ≤ 80000 := by
    rw [ew2, List.length_append] at hl2
    omega
  have hl0 : (L.flatMap tgW).length ≤ 80000 := by
    rw [ew1] at hl1
    unfold hdW at hl1
    simp only [List.length_append] at hl1
    omega
  have tlen : (L.flatMap tgW).length ≤ 79000 := tg_len lb tg.2.1
  have h_7 : d_X3_putHead_2 mFuel 77 g 3 0 S2 = some (r7, S8) := h_7
  obtain ⟨L8, bo8⟩ := ph_2 (bb := 107) (P := P) hg (by decide) C2 hw hc tr2 bos2 tg2 lb lc mFuel 0 S2 [] 0 rfl (Nat.zero_le _) (fun _ => rfl) (by rw [List.drop_zero]; show 0 + _ ≤ _; omega) (lo_ps C2 a2 bo2) h_7
  rw [List.nil_append, List.drop_zero] at L8
  dsimp only at L8 bo8 hf
  have e1 : L.flatMap tgW ++ ((if L = [] then [] else [10]) ++ (if tR T 0 = [] then [] else rmW (tR T 0))) = w1 := by
    rw [ew1]
    unfold hdW
    rw [List.append_assoc]
  rw [e1] at L8
  obtain ⟨C8, tr8⟩ := L8.1
  have X8 := C8.2.2.1
  have k12 : zK S2 1 = 11 := fx_k X2 (by decide) (by decide)
  have p78 : zP S8 7 1 = some g := ((fr_e L8.2.2 (by rw [k12]; decide) (by unfold WD; omega)).2.2.2.1 7).trans p72
  obtain ⟨-, hf⟩ := m_chkE hf
  replace hf := m_calY hf (show zP S8 6 1 = some 77 from fx_p X8 (by decide))
  obtain ⟨-, hf⟩ := m_chkE hf
  replace hf := m_calY hf p78
  obtain ⟨-, hf⟩ := m_chkE hf
  replace hf := m_calY hf p78
  obtain ⟨-, hf⟩ := m_chkE hf
  obtain ⟨⟨c14, S14⟩, h_14, hf⟩ := m_calE hf
  obtain ⟨e14, q14⟩ := p_at C8 hg tr8 (by decide) (by show (0 : Int) ≤ _; omega) h_14
  rw [show (0 : Int32).toInt.toNat = 0 from rfl] at q14
  obtain ⟨-, hf⟩ := m_chkE hf
  dsimp only at hf
  rw [e14, q14] at hf
  obtain ⟨-, hf⟩ := m_chkE hf
  obtain ⟨-, hf⟩ := m_chkE hf
  replace hf := m_calY hf (show zP S8 1 1 = some 3 from fx_p X8 (by decide))
  obtain ⟨-, hf⟩ := m_chkE hf
  obtain ⟨⟨r17, S18⟩, h_17, hf⟩ := m_cal2E hf
  have h_17 : d_X3_putLine_0 (dr_X3_putLine 7) 77 g (zI S8 2 (nk S8 (g + 3) (g + 5) 0)) 0 3 S8 = some (r17, S18) := h_17
  unfold d_X3_putLine_0 at h_17
  rcases m_ifE h_17 with ⟨-, h_17⟩ | ⟨dn, -⟩
  rotate_left
  · exact absurd (show (0 : Int32) ≤ 6 by decide) dn
  obtain ⟨-, h_17⟩ := m_chkE h_17
  replace h_17 := m_calY h_17 (show zP S8 1 77 = some 84 from fx_p X8 (by decide))
  obtain ⟨-, h_17⟩ := m_chkE h_17
  obtain ⟨-, h_17⟩ := m_chkE h_17
  replace h_17 := m_calY h_17 (show zB S8 84 (0 : Int32).toNatClampNeg = some 85 from (fx_b (d := 0) X8 (by decide)).2.2.2)
  have e85 : 85 + 2 * D 0 = 85 := by rw [hD.1]
  have hdS : (zI S8 2 (nk S8 (g + 3) (g + 5) 0)).toInt = hdC T 0 := trc_hd tr8 (Nat.zero_le _)
  have L18 := cl_main (D := D) hg hw hlt hc hD 301 0 (Nat.zero_le _) (by omega) 7 mFuel 0 1 (zI S8 2 (nk S8 (g + 3) (g + 5) 0)) 0 S8 w1 true _ hdS (by rw [hD.1]; rfl) rfl ⟨by decide, by decide⟩ C8 tr8 L8.2.1 (by rw [e85]; exact bo8) (by rw [← ew2]; exact hl2) (by rw [e85]; exact h_17)
  rw [hD.1, ← ew2] at L18
  dsimp only at L18 hf
  obtain ⟨C18, tr18⟩ := L18.1
  have X18 := C18.2.2.1
  have k18 : zK S8 1 = 11 := fx_k X8 (by decide) (by decide)
  have p718 : zP S18 7 1 = some g := ((fr_e L18.2.2 (by rw [k18]; decide) (by unfold WD; omega)).2.2.2.1 7).trans p78
  have bo18 : BO S18 107 P := bo_fr (bo_fr bo2 L8.2.2 (by unfold WD; omega) (by unfold WD; omega)) L18.2.2 (by unfold WD; omega) (by unfold WD; omega)
  obtain ⟨-, hf⟩ := m_chkE hf
  replace hf := m_calY hf (show zP S18 6 1 = some 77 from fx_p X18 (by decide))
  obtain ⟨-, hf⟩ := m_chkE hf
  replace hf := m_calY hf p718
  obtain ⟨-, hf⟩ := m_chkE hf
  replace hf := m_calY hf (show zP S18 1 1 = some 3 from fx_p X18 (by decide))
  obtain ⟨-, hf⟩ := m_chkE hf
  obtain ⟨⟨r25, S26⟩, h_25, hf⟩ := m_cal2E hf
  have h_25 : d_X3_putEnd_0 g 3 S18 = some (r25, S26) := h_25
  unfold d_X3_putEnd_0 at h_25
  obtain ⟨⟨r2', S21⟩, h_21, h_25⟩ := m_cal2E h_25
  have P21 := pc_gap (show 84 < 107 by decide) (lo_ps C18 L18.2.1 bo18) (by omega) h_21
  dsimp only at P21 h_25
  obtain ⟨-, h_25⟩ := m_chkE h_25
  obtain ⟨⟨k6, S22⟩, h_22, h_25⟩ := m_calE h_25
  have kgS : zK S g = 1 := (fx_g X hg).1.1
  have kg2 : zK S2 g = 1 := (fx_g X2 hg).1.1
  have kg8 : zK S8 g = 1 := (fx_g X8 hg).1.1
  have kg18 : zK S18 g = 1 := (fx_g X18 hg).1.1
  have i21 : (zI S21 6 g).toInt = r := by
    rw [(ps_eq P21 X18 (a := g) (by rw [kg18]; decide) (by rw [kg18]; decide) (by rw [kg18]; decide) (by rw [kg18]; decide)).2.2.1, (fr_e L18.2.2 (by rw [kg8]; decide) (by unfold WD; omega)).2.2.1, (fr_e L8.2.2 (by rw [kg2]; decide) (by unfold WD; omega)).2.2.1, (fr_e F2 (by rw [kgS]; decide) (by omega)).2.2.1]
    exact hres
  have key22 : S22 = S21 ∧ strL k6 = rsW r := by
    have h_22 : f_X11_resultSign_0 (zI S21 6 g) S21 = some (k6, S22) := h_22
    unfold f_X11_resultSign_0 at h_22
    have s3 : strL 3 = rsW 1 ∧ strL 4 = rsW 2 ∧ strL 5 = rsW 3 ∧ strL 6 = rsW 0 := by decide +kernel
    rcases m_ifE h_22 with ⟨d, h_22⟩ | ⟨d, h_22⟩
    · have d' : r = 1 := by rw [← i21, d]; rfl
      cases h_22
      rw [d']; exact ⟨rfl, s3.1⟩
    · have d1' : r ≠ 1 := fun e => d (i32_of (i21.trans e))
      rcases m_ifE h_22 with ⟨d, h_22⟩ | ⟨d, h_22⟩
      · have d' : r = 2 := by rw [← i21, d]; rfl
        cases h_22
        rw [d']; exact ⟨rfl, s3.2.1⟩
      · have d2' : r ≠ 2 := fun e => d (i32_of (i21.trans e))
        rcases m_ifE h_22 with ⟨d, h_22⟩ | ⟨d, h_22⟩
        · have d' : r = 3 := by rw [← i21, d]; rfl
          cases h_22
          rw [d']; exact ⟨rfl, s3.2.2.1⟩
        · have d3' : r ≠ 3 := fun e => d (i32_of (i21.trans e))
          have d' : r = 0 := by omega
          cases h_22
          rw [d']; exact ⟨rfl, s3.2.2.2⟩
  obtain ⟨e22, es⟩ := key22
  obtain ⟨-, h_25⟩ := m_chkE h_25
  dsimp only at h_25
  rw [e22] at h_25
  obtain ⟨-, h_25⟩ := m_chkE h_25
  obtain ⟨⟨r8, S9⟩, h_8, h_25⟩ := m_cal2E h_25
  have rl : (rsW r).length ≤ 7 ∧ ∀ c ∈ rsW r, 0 ≤ c ∧ c ≤ 65535 := by
    have : ∀ q : Nat, q < 4 → (rsW (q : Int)).length ≤ 7 ∧ ∀ c ∈ rsW (q : Int), 0 ≤ c ∧ c ≤ 65535 := by decide
    have := this r.toNat (by omega)
    rw [show ((r.toNat : Nat) : Int) = r by omega] at this
    exact this
  have P9 := pc_txt (show 84 < 107 by decide) (k := k6) (by rw [es]; omega) (by rw [es]; exact rl.2) (by rw [List.length_append] at hl ⊢; omega) P21 h_8
  rw [es, List.append_assoc] at P9
  have e26 := (Option.some.inj h_25).symm
  have s26 : S26 = S9 := congrArg Prod.snd e26
  dsimp only at P9 hf
  rw [s26] at hf
  obtain ⟨-, hf⟩ := m_chkE hf
  replace hf := m_calY hf (show zP S9 1 1 = some 3 from fx_p P9.2.1 (by decide))
  obtain ⟨-, hf⟩ := m_chkE hf
  obtain ⟨⟨y30, S30⟩, h_30, hf⟩ := m_calE hf
  have q30 := pc_X6_size h_30
  have e30 : S30 = S9 := ro_X6_size h_30
  obtain ⟨-, hf⟩ := m_chkE hf
  have eo := (Option.some.inj hf).symm
  dsimp only at q30 eo
  rw [eo]
  refine ⟨by show RWL S30 3 _; rw [e30]; exact P9.2.2.2.1, ?_⟩
  show y30.toInt = _
  rw [q30]
  exact P9.2.2.2.1.1
/-- write on both sides -/
theorem an_write {o : Int32 × ZS} (hC : CG S) (hR : RIt I A) (h : FM I A S) (hz : R0t I A) (h2 : f_write I A = some o2) (ho : d_X11_write 1 S = some o) : o.1 = o2.1 ∧ ∃ w, w.length ≤ 80000 ∧ RWL o.2 3 w ∧ OUr o2.2.1 o2.2.2 w := by
  obtain ⟨hm, g, L, st, T, r, c, w⟩ := h
  obtain ⟨⟨p7, gc⟩, gr, ⟨c1, c2, c3⟩, bo, qs⟩ := id w
  have hgg := (sc_7 hm.1 p7).1
  have h23 := gr.2.2.2
  have b23 : -1 ≤ (A 23 (I 5).toInt.toNat).toInt ∧ (A 23 (I 5).toInt.toNat).toInt ≤ 3 := hR.2.1 23 _
  unfold R0t at hz
  have hr : 0 ≤ r ∧ r ≤ 3 := ⟨by omega, by omega⟩
  obtain ⟨D, hD⟩ := dp_r hR gr
  obtain ⟨v1, v2, v3⟩ := v_write hR gr hr c2 c3 h2
  have hl : (wtW L st T r).length ≤ 80000 := by
    have := v1.1
    omega
  obtain ⟨q1, q2⟩ := p_write hC hgg p7 gc bo (tc_r hR.2.1 gr) (lc_r hR.2.1 gr) hr hD hl ho
  exact ⟨Int32.toInt_inj.1 (q2.trans v2.symm), _, hl, q1, v1⟩
end WWW
