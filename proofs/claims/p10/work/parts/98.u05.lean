/-- the first child -/
noncomputable def hdC (T : TRa) (p : Nat) : Int := match tL T p with
  | [] => -1
  | k :: _ => (k : Int)
noncomputable def dpc (P C : Nat → Int) : List Nat → Nat
  | [] => 0
  | k :: l => dpc P C l + (if C (P k).toNat = (k : Int) then 0 else 1)
/-- how deep a node is, by who goes on -/
noncomputable def dpx (T : TRa) (C : Nat → Int) (k : Nat) : Nat := dpc (tP T) C (ancL (tP T) k k)
/-- the tree once H goes on behind u -/
noncomputable def ldT (T : TRa) (u H : Nat) : TRa := (tn T, tP T, tM T, fun p => if p = u then H :: (tL T u).erase H else tL T p, tK T, tR T)
section LEA
variable {S S' : ZS} {g g' c k p u H F : Nat} {I I' : Nat → Int32} {A A' : Nat → Nat → Int32} {W : Nat → Prop} {L : List (List Int × List Int)} {st P : PO} {T T' : TRa} {r v : Int} {x1 x2 x3 : Int32} {o : Int32 × ZS} {o2 : Int32 × MS} {N C : Nat → Int}
theorem hd_c (h : chn N (tL T p) v) : v = hdC T p := by
  unfold hdC
  cases e : tL T p with
  | nil => rw [e] at h; exact h
  | cons k l => rw [e] at h; exact h.1
theorem hdC_n : hdC T p = -1 ↔ tL T p = [] := by
  unfold hdC
  cases e : tL T p with
  | nil => exact ⟨fun _ => rfl, fun _ => rfl⟩
  | cons k l => exact ⟨fun h => by have h : (k : Int) = -1 := h; omega, fun h => by cases h⟩
theorem trc_hd (tr : TRc S g T) (hp : p ≤ tn T) : nF S 2 (g + 3) (g + 5) p = hdC T p := hd_c (tr.2.2.1 p hp).1
theorem trr_hd (tr : TRr A g T) (hp : p ≤ tn T) : aC A g p = hdC T p := hd_c (tr.2.1 p hp).1
theorem dpx_s (hw : WT T) (h1 : 1 ≤ k) (hk : k ≤ tn T) : dpx T C k = dpx T C (tP T k).toNat + (if C (tP T k).toNat = (k : Int) then 0 else 1) := by
  unfold dpx
  rw [anc_s hw h1 hk]
  rfl
theorem dpx_0 : dpx T C 0 = 0 := rfl
theorem dpx_le (hw : WT T) : ∀ k, k ≤ tn T → dpx T C k ≤ k := by
  intro k
  induction k using Nat.strongRecOn with
  | ind k ih =>
    intro hk
    by_cases k0 : k = 0
    · subst k0; exact Nat.le_refl _
    · rw [dpx_s hw (by omega) hk]
      have hb := (hw.2.1 k (by omega) hk).1
      have := ih (tP T k).toNat (by omega) (by omega)
      split <;> omega
theorem D_dpx {D : Nat → Nat} (hw : WT T) (tr : TRr A g T) (hd : TTd (tn T) (aP A g) (aC A g) D) : ∀ k, k ≤ tn T → D k = dpx T (hdC T) k := by
  intro k
  induction k using Nat.strongRecOn with
  | ind k ih =>
    intro hk
    by_cases k0 : k = 0
    · subst k0; exact hd.1
    · have e := (tr.2.2 k hk).1.1
      have hb := (hw.2.1 k (by omega) hk).1
      rw [hd.2.1 k (by omega) hk, dpx_s hw (by omega) hk, e, ih (tP T k).toNat (by omega) (by omega), trr_hd tr (by omega)]
/-- does a node go on: the class -/
theorem p_goesOn (hC : CG S) (hg : g = 35 ∨ g = 99) (hw : WT T) (tr : TRc S g T) (h1 : x1.toInt = (k : Int)) (k1 : 1 ≤ k) (hk : k ≤ tn T) (hf : f_X1_goesOn g x1 S = some o) : o.2 = S ∧ ((o.1.toInt = 1 ∧ hdC T (tP T k).toNat = (k : Int)) ∨ (o.1.toInt = 0 ∧ hdC T (tP T k).toNat ≠ (k : Int))) := by
  have hf : f_X1_goesOn_0 g x1 S = some o := hf
  have hb := (hw.2.1 k k1 hk).1
  have tp : (zI S 0 (nk S (g + 3) (g + 5) k)).toInt = tP T k := (tr.2.2.2 k hk).1.1
  unfold f_X1_goesOn_0 at hf
  obtain ⟨-, hf⟩ := m_chkE hf
  obtain ⟨⟨n1, S1⟩, h_1, hf⟩ := m_calE hf
  obtain ⟨e1, q1⟩ := p_at hC hg tr (by omega) (by omega) h_1
  rw [show x1.toInt.toNat = k by omega] at q1
  dsimp only at hf
  rw [e1, q1] at hf
  obtain ⟨-, hf⟩ := m_chkE hf
  obtain ⟨-, hf⟩ := m_chkE hf
  obtain ⟨⟨n2, S2⟩, h_2, hf⟩ := m_calE hf
  obtain ⟨e2, q2⟩ := p_at hC hg tr (by omega) (by omega) h_2
  rw [tp] at q2
  dsimp only at hf
  rw [e2, q2] at hf
  obtain ⟨-, hf⟩ := m_chkE hf
  have hd : (zI S 2 (nk S (g + 3) (g + 5) (tP T k).toNat)).toInt = hdC T (tP T k).toNat := trc_hd tr (by omega)
  rcases m_ifE hf with ⟨d, hf⟩ | ⟨d, hf⟩
  · replace d := ti_eqP (a := zI S 2 (nk S (g + 3) (g + 5) (tP T k).toNat)) (b := x1) d rfl rfl
    unfold f_X1_goesOn_24 at hf
    obtain ⟨-, hf⟩ := m_chkE hf
    cases hf
    exact ⟨rfl, Or.inl ⟨rfl, by omega⟩⟩
  · replace d := ti_eqN (a := zI S 2 (nk S (g + 3) (g + 5) (tP T k).toNat)) (b := x1) d rfl rfl
    unfold f_X1_goesOn_24 at hf
    obtain ⟨-, hf⟩ := m_chkE hf
    cases hf
    exact ⟨rfl, Or.inr ⟨rfl, by omega⟩⟩
theorem dn_23 (hC : CG S) (hg : g = 35 ∨ g = 99) (hw : WT T) (tr : TRc S g T) : ∀ (n : Nat) (x2 x3 x4 : Int32) (k : Nat), x3.toInt = (k : Int) → k ≤ tn T → 0 ≤ x4.toInt → x4.toInt + (k : Int) ≤ 300 → 0 ≤ x2.toInt → x2.toInt + (k : Int) ≤ 1000 → f_X1_deepOfNext_23 n g x2 x3 x4 S = some o → o.2 = S ∧ o.1.toInt = x2.toInt + (dpx T (hdC T) k : Int) := by
  intro n
  induction n with
  | zero => intro x2 x3 x4 k _ _ _ _ _ _ hf; cases hf
  | succ n ih =>
    intro x2 x3 x4 k h3 hk h40 h41 h20 h21 hf
    have hf : f_X1_deepOfNext_23s (f_X1_deepOfNext_23 n) g x2 x3 x4 S = some o := hf
    have z0 : (0 : Int32).toInt = 0 := rfl
    have fin : k = 0 → f_X1_deepOfNext_66 x2 S = some o → o.2 = S ∧ o.1.toInt = x2.toInt + (dpx T (hdC T) k : Int) := fun k0 hh => by
      unfold f_X1_deepOfNext_66 at hh
      cases hh
      rw [k0, dpx_0]
      exact ⟨rfl, by show x2.toInt = x2.toInt + ((0 : Nat) : Int); omega⟩
    unfold f_X1_deepOfNext_23s at hf
    rcases m_ifE hf with ⟨d, hf⟩ | ⟨d, hf⟩
    · replace d := ti_leP (a := (300 : Int32)) (b := x4) d (show (300 : Int32).toInt = 300 from rfl) rfl
      exact fin (by omega) hf
    · replace d := ti_leN (a := (300 : Int32)) (b := x4) d (show (300 : Int32).toInt = 300 from rfl) rfl
      rcases m_ifE hf with ⟨d2, hf⟩ | ⟨d2, hf⟩
      · replace d2 := ti_leP (a := x3) (b := (0 : Int32)) d2 rfl z0
        exact fin (by omega) hf
      · replace d2 := ti_leN (a := x3) (b := (0 : Int32)) d2 rfl z0
        have k1 : 1 ≤ k := by omega
        have hb := (hw.2.1 k k1 hk).1
        obtain ⟨-, hf⟩ := m_chkE hf
        obtain ⟨⟨y1, S1⟩, h_1, hf⟩ := m_calE hf
        obtain ⟨e1, q1⟩ := p_goesOn hC hg hw tr h3 k1 hk h_1
        dsimp only at e1 q1 hf
        rw [e1] at hf
        have ds := dpx_s (C := hdC T) hw k1 hk
        have go : ∀ t0 : Int32, (t0.toInt = 0 ∨ t0.toInt = 1) → t0.toInt = (if hdC T (tP T k).toNat = (k : Int) then 0 else 1) → f_X1_deepOfNext_49 (f_X1_deepOfNext_23 n) g x3 x4 t0 x2 S = some o → o.2 = S ∧ o.1.toInt = x2.toInt + (dpx T (hdC T) k : Int) := fun t0 ht hte hh => by
          unfold f_X1_deepOfNext_49 at hh
          obtain ⟨v1, f1, hh⟩ := m_bndE hh
          have s1 : v1.toInt = x2.toInt + t0.toInt := ti_add f1 rfl rfl (by omega) (by omega)
          obtain ⟨-, hh⟩ := m_chkE hh
          obtain ⟨⟨n2, S2⟩, h_2, hh⟩ := m_calE hh
          obtain ⟨e2, q2⟩ := p_at hC hg tr (by omega) (by omega) h_2
          rw [show x3.toInt.toNat = k by omega] at q2
          dsimp only at hh
          rw [e2, q2] at hh
          obtain ⟨-, hh⟩ := m_chkE hh
          obtain ⟨v3, f3, hh⟩ := m_bndE hh
          have s3 : v3.toInt = x4.toInt + 1 := ti_add f3 rfl (show (1 : Int32).toInt = 1 from rfl) (by omega) (by omega)
          have tp : (zI S 0 (nk S (g + 3) (g + 5) k)).toInt = tP T k := (tr.2.2.2 k hk).1.1
          obtain ⟨a1, a2⟩ := ih v1 _ v3 (tP T k).toNat (by omega) (by omega) (by omega) (by omega) (by omega) (by omega) hh
          refine ⟨a1, ?_⟩
          rw [a2, s1, ds, hte]
          by_cases e : hdC T (tP T k).toNat = (k : Int)
          · rw [if_pos e, if_pos e]; omega
          · rw [if_neg e, if_neg e]; omega
        rcases m_ifE hf with ⟨d3, hf⟩ | ⟨d3, hf⟩
        · rw [d3] at q1
          rcases q1 with ⟨q, -⟩ | ⟨-, q⟩
          · exact absurd q (by decide)
          · exact go 1 (Or.inr rfl) (by rw [if_neg q]; rfl) hf
        · rcases q1 with ⟨-, q⟩ | ⟨q, -⟩
          · exact go 0 (Or.inl rfl) (by rw [if_pos q]; rfl) hf
          · exact absurd (i32_of q) d3
/-- how deep a new child would be: the class -/
theorem p_deepNext (hC : CG S) (hg : g = 35 ∨ g = 99) (hw : WT T) (tr : TRc S g T) (h1 : x1.toInt = (k : Int)) (hk : k ≤ tn T) (hf : f_X1_deepOfNext g x1 S = some o) : o.2 = S ∧ o.1.toInt = (dpx T (hdC T) k : Int) + (if tL T k = [] then 0 else 1) := by
  have hf : f_X1_deepOfNext_0 g x1 S = some o := hf
  have h3 := hw.1
  unfold f_X1_deepOfNext_0 at hf
  obtain ⟨-, hf⟩ := m_chkE hf
  obtain ⟨⟨n1, S1⟩, h_1, hf⟩ := m_calE hf
  obtain ⟨e1, q1⟩ := p_at hC hg tr (by omega) (by omega) h_1
  rw [show x1.toInt.toNat = k by omega] at q1
  dsimp only at hf
  rw [e1, q1] at hf
  obtain ⟨-, hf⟩ := m_chkE hf
  have hd : (zI S 2 (nk S (g + 3) (g + 5) k)).toInt = hdC T k := trc_hd tr hk
  have zm : (-1 : Int32).toInt = -1 := rfl
  have go : ∀ t0 : Int32, (0 ≤ t0.toInt ∧ t0.toInt ≤ 1) → f_X1_deepOfNext_17 g x1 t0 S = some o → o.2 = S ∧ o.1.toInt = t0.toInt + (dpx T (hdC T) k : Int) := fun t0 ht hh => by
    unfold f_X1_deepOfNext_17 at hh
    exact dn_23 hC hg hw tr mFuel t0 x1 0 k h1 hk (by decide) (by have z : (0 : Int32).toInt = 0 := rfl; omega) ht.1 (by omega) hh
  rcases m_ifE hf with ⟨d, hf⟩ | ⟨d, hf⟩
  · replace d := ti_eqP (a := zI S 2 (nk S (g + 3) (g + 5) k)) (b := (-1 : Int32)) d rfl zm
    obtain ⟨a1, a2⟩ := go 0 (by decide) hf
    rw [if_pos (hdC_n.1 (by omega))]
    exact ⟨a1, by rw [a2]; show (0 : Int) + _ = _ + 0; omega⟩
  · replace d := ti_eqN (a := zI S 2 (nk S (g + 3) (g + 5) k)) (b := (-1 : Int32)) d rfl zm
    obtain ⟨a1, a2⟩ := go 1 (by decide) hf
    rw [if_neg (fun e => d (by rw [hd]; exact hdC_n.2 e))]
    exact ⟨a1, by rw [a2]; show (1 : Int) + _ = _ + 1; omega⟩
/-- may a node lead: the class -/
theorem ml_11 (hg : g = 35 ∨ g = 99) (hw : WT T) (h1 : x1.toInt = (H : Int)) (hH1 : 1 ≤ H) (hH : H ≤ tn T) (hC2 : ∀ p, C p = if p = (tP T H).toNat then (H : Int) else hdC T p) : ∀ (n : Nat) (x3 : Int32) (S : ZS) (i : Nat), x3.toInt = (i : Int) → 1 ≤ i → i ≤ tn T + 1 → CG S → TRc S g T → (∀ j, j < i → (zA S (g + 7) j).toInt = (dpx T C j : Int) ∧ dpx T C j ≤ 6) → f_X1_mayLead_11 n g x1 (g + 7) x3 S = some o → (CG o.2 ∧ TRc o.2 g T ∧ FR (fun a => a = g + 7) S o.2) ∧ ((o.1.toInt = 1 ∧ ∀ k, k ≤ tn T → dpx T C k ≤ 6) ∨ (o.1.toInt = 0 ∧ ∃ k, k ≤ tn T ∧ 6 < dpx T C k)) := by
  intro n
  induction n with
  | zero => intro x3 S i _ _ _ _ _ _ hf; cases hf
  | succ n ih =>
    intro x3 S i h3 i1 i2 hC tr hp hf
    have hf : f_X1_mayLead_11s (f_X1_mayLead_11 n) g x1 (g + 7) x3 S = some o := hf
    have h300 := hw.1
    obtain ⟨⟨kg, -⟩, ⟨-, -, -, -, -, -, k7⟩, -⟩ := fx_g hC.2.2.1 hg
    have hn := (cn_le hC.1 kg).2
    rw [tr.1] at hn
    have z0 : (0 : Int32).toInt = 0 := rfl
    unfold f_X1_mayLead_11s at hf
    obtain ⟨-, hf⟩ := m_chkE hf
    rcases m_ifE hf with ⟨d, hf⟩ | ⟨d, hf⟩
    · replace d := ti_ltP (a := zI S 3 g) (b := x3) d rfl rfl
      obtain ⟨-, hf⟩ := m_chkE hf
      cases hf
      exact ⟨⟨hC, tr, fr_0⟩, Or.inl ⟨rfl, fun k hk => (hp k (by omega)).2⟩⟩
    · replace d := ti_ltN (a := zI S 3 g) (b := x3) d rfl rfl
      have hi : i ≤ tn T := by omega
      have hb := (hw.2.1 i i1 hi).1
      have hbH := (hw.2.1 H hH1 hH).1
      have tp : (zI S 0 (nk S (g + 3) (g + 5) i)).toInt = tP T i := (tr.2.2.2 i hi).1.1
      have tpH : (zI S 0 (nk S (g + 3) (g + 5) H)).toInt = tP T H := (tr.2.2.2 H hH).1.1
      have ds := dpx_s (C := C) hw i1 hi
      obtain ⟨-, hf⟩ := m_chkE hf
      obtain ⟨⟨n1, S1⟩, h_1, hf⟩ := m_calE hf
      obtain ⟨e1, q1⟩ := p_at hC hg tr (by omega) (by omega) h_1
      rw [show x3.toInt.toNat = i by omega] at q1
      dsimp only at hf
      rw [e1, q1] at hf
      obtain ⟨-, hf⟩ := m_chkE hf
      obtain ⟨-, hf⟩ := m_chkE hf
      obtain ⟨⟨n2, S2⟩, h_2, hf⟩ := m_calE hf
      obtain ⟨e2, q2⟩ := p_at hC hg tr (by omega) (by omega) h_2
      rw [show x1.toInt.toNat = H by omega] at q2
      dsimp only at hf
      rw [e2, q2] at hf
      obtain ⟨-, hf⟩ := m_chkE hf
      -- the step, once the first child is known
      have go : ∀ t0 : Int32, t0.toInt = C (tP T i).toNat → f_X1_mayLead_55 (f_X1_mayLead_11 n) g x1 (g + 7) x3 (zI S 0 (nk S (g + 3) (g + 5) i)) t0 S = some o → (CG o.2 ∧ TRc o.2 g T ∧ FR (fun a => a = g + 7) S o.2) ∧ ((o.1.toInt = 1 ∧ ∀ k, k ≤ tn T → dpx T C k ≤ 6) ∨ (o.1.toInt = 0 ∧ ∃ k, k ≤ tn T ∧ 6 < dpx T C k)) := fun t0 ht hh => by
        unfold f_X1_mayLead_55 at hh
        rcases m_ifE hh with ⟨d2, hh⟩ | ⟨d2, hh⟩
        · replace d2 := ti_ltP (a := zI S 0 (nk S (g + 3) (g + 5) i)) (b := (0 : Int32)) d2 rfl z0
          omega
        · rcases m_ifE hh with ⟨d3, hh⟩ | ⟨d3, hh⟩
          · replace d3 := ti_leP (a := x3) (b := zI S 0 (nk S (g + 3) (g + 5) i)) d3 rfl rfl
            omega
          · obtain ⟨-, hh⟩ := m_chkE hh
            obtain ⟨-, hh⟩ := m_chkE hh
            obtain ⟨v1, f1, hh⟩ := m_bndE hh
            rw [cl_n (n := (tP T i).toNat) (by omega)] at f1
            obtain ⟨s1, s6⟩ := hp (tP T i).toNat (by omega)
            rw [← f1] at s1
            have fin : ∀ t : Int32, (t.toInt = 0 ∨ t.toInt = 1) → t.toInt = (if C (tP T i).toNat = (i : Int) then 0 else 1) → f_X1_mayLead_89 (f_X1_mayLead_11 n) g x1 (g + 7) x3 t v1 x3 (g + 7) S = some o → (CG o.2 ∧ TRc o.2 g T ∧ FR (fun a => a = g + 7) S o.2) ∧ ((o.1.toInt = 1 ∧ ∀ k, k ≤ tn T → dpx T C k ≤ 6) ∨ (o.1.toInt = 0 ∧ ∃ k, k ≤ tn T ∧ 6 < dpx T C k)) := fun t htb hte hh => by
              unfold f_X1_mayLead_89 at hh
              obtain ⟨w1, g1, hh⟩ := m_bndE hh
              have u1 : w1.toInt = v1.toInt + t.toInt := ti_add g1 rfl rfl (by omega) (by omega)
              have ud : w1.toInt = (dpx T C i : Int) := by
                rw [u1, ds, s1, hte]
                by_cases e : C (tP T i).toNat = (i : Int)
                · rw [if_pos e, if_pos e]; omega
                · rw [if_neg e, if_neg e]; omega
              obtain ⟨-, hh⟩ := m_chkE hh
              obtain ⟨-, hh⟩ := m_chkE hh
              obtain ⟨S3, e3, hh⟩ := m_bndE hh
              rw [cl_n (n := i) h3] at e3
              have F3 : FR (fun a => a = g + 7) S S3 := fr_A hC.1 k7 e3
              have T3 : ZT S3 := by rw [e3]; exact zt_A hC.1 k7
              have Z3 : TZ S3 := tz_k hC.1 hC.2.1 F3 (fun a _ e => by
                rw [e, k7]
                exact ⟨by decide, by decide, fun h => absurd h (by decide)⟩)
              have C3 : CG S3 := cg_w hC T3 Z3 F3 (by omega) (by omega) (by omega) (by omega)
              have tr3 : TRc S3 g T := trc_e hC hg tr (fun a ha => fr_e F3 (tc_lt hC hg ha) (fun e => by
                rw [e] at ha
                exact tc_no hC hg (by omega) (by omega) (by omega) (by omega) (by omega) ha))
              have a3 : zA S3 (g + 7) = upd (zA S (g + 7)) i w1 := by
                rw [e3]
                exact va_up_self _ _ _
              obtain ⟨-, hh⟩ := m_chkE hh
              obtain ⟨-, hh⟩ := m_chkE hh
              obtain ⟨w3, g3, hh⟩ := m_bndE hh
              rw [cl_n (n := i) h3, a3, upd_self] at g3
              rcases m_ifE hh with ⟨d4, hh⟩ | ⟨d4, hh⟩
              · replace d4 := ti_leP (a := w3) (b := (6 : Int32)) d4 rfl (show (6 : Int32).toInt = 6 from rfl)
                rw [g3] at d4
                obtain ⟨w4, g4, hh⟩ := m_bndE hh
                have u4 : w4.toInt = x3.toInt + 1 := ti_add g4 rfl (show (1 : Int32).toInt = 1 from rfl) (by omega) (by omega)
                obtain ⟨⟨b1, b2, b3⟩, b4⟩ := ih w4 S3 (i + 1) (by omega) (by omega) (by omega) C3 tr3 (fun j hj => by
                  rw [a3]
                  by_cases e : j = i
                  · rw [e, upd_self]
                    exact ⟨ud, by omega⟩
                  · rw [upd_ne e]
                    exact hp j (by omega)) hh
                exact ⟨⟨b1, b2, fr_t F3 b3⟩, b4⟩
              · replace d4 := ti_leN (a := w3) (b := (6 : Int32)) d4 rfl (show (6 : Int32).toInt = 6 from rfl)
                rw [g3] at d4
                obtain ⟨-, hh⟩ := m_chkE hh
                cases hh
                exact ⟨⟨C3, tr3, F3⟩, Or.inr ⟨rfl, i, hi, by omega⟩⟩
            unfold f_X1_mayLead_78 at hh
            rcases m_ifE hh with ⟨d4, hh⟩ | ⟨d4, hh⟩
            · replace d4 := ti_eqP (a := x3) (b := t0) d4 rfl rfl
              exact fin 0 (Or.inl rfl) (by rw [if_pos (by omega)]; rfl) hh
            · replace d4 := ti_eqN (a := x3) (b := t0) d4 rfl rfl
              exact fin 1 (Or.inr rfl) (by rw [if_neg (by omega)]; rfl) hh
      rcases m_ifE hf with ⟨d2, hf⟩ | ⟨d2, hf⟩
      · replace d2 := ti_eqP (a := zI S 0 (nk S (g + 3) (g + 5) i)) (b := zI S 0 (nk S (g + 3) (g + 5) H)) d2 rfl rfl
        exact go x1 (by rw [hC2, if_pos (by omega)]; exact h1) hf
      · replace d2 := ti_eqN (a := zI S 0 (nk S (g + 3) (g + 5) i)) (b := zI S 0 (nk S (g + 3) (g + 5) H)) d2 rfl rfl
        obtain ⟨-, hf⟩ := m_chkE hf
        obtain ⟨⟨n3, S3⟩, h_3, hf⟩ := m_calE hf
        obtain ⟨e3, q3⟩ := p_at hC hg tr (by omega) (by omega) h_3
        rw [tp] at q3
        dsimp only at hf
        rw [e3, q3] at hf
        obtain ⟨-, hf⟩ := m_chkE hf
        have hd : (zI S 2 (nk S (g + 3) (g + 5) (tP T i).toNat)).toInt = hdC T (tP T i).toNat := trc_hd tr (by omega)
        exact go _ (by rw [hC2, if_neg (by omega)]; exact hd) hf
theorem p_mayLead (hC : CG S) (hg : g = 35 ∨ g = 99) (hw : WT T) (tr : TRc S g T) (h1 : x1.toInt = (H : Int)) (hH1 : 1 ≤ H) (hH : H ≤ tn T) (hC2 : ∀ p, C p = if p = (tP T H).toNat then (H : Int) else hdC T p) (hf : f_X1_mayLead g x1 S = some o) : (CG o.2 ∧ TRc o.2 g T ∧ FR (fun a => a = g + 7) S o.2) ∧ ((o.1.toInt = 1 ∧ ∀ k, k ≤ tn T → dpx T C k ≤ 6) ∨ (o.1.toInt = 0 ∧ ∃ k, k ≤ tn T ∧ 6 < dpx T C k)) := by
  have hf : f_X1_mayLead_0 g x1 S = some o := hf
  obtain ⟨⟨kg, -, -, -, -, p7⟩, ⟨-, -, -, -, -, -, k7⟩, -⟩ := fx_g hC.2.2.1 hg
  unfold f_X1_mayLead_0 at hf
  obtain ⟨-, hf⟩ := m_chkE hf
  replace hf := m_calY hf p7
  obtain ⟨-, hf⟩ := m_chkE hf
  obtain ⟨-, hf⟩ := m_chkE hf
  obtain ⟨S3, e3, hf⟩ := m_bndE hf
  rw [cl_n (n := 0) (show (0 : Int32).toInt = ((0 : Nat) : Int) from rfl)] at e3
  have F3 : FR (fun a => a = g + 7) S S3 := fr_A hC.1 k7 e3
  have T3 : ZT S3 := by rw [e3]; exact zt_A hC.1 k7
  have Z3 : TZ S3 := tz_k hC.1 hC.2.1 F3 (fun a _ e => by
    rw [e, k7]
    exact ⟨by decide, by decide, fun h => absurd h (by decide)⟩)
  have C3 : CG S3 := cg_w hC T3 Z3 F3 (by omega) (by omega) (by omega) (by omega)
  have tr3 : TRc S3 g T := trc_e hC hg tr (fun a ha => fr_e F3 (tc_lt hC hg ha) (fun e => by
    rw [e] at ha
    exact tc_no hC hg (by omega) (by omega) (by omega) (by omega) (by omega) ha))
  have a3 : zA S3 (g + 7) = upd (zA S (g + 7)) 0 0 := by
    rw [e3]
    exact va_up_self _ _ _
  obtain ⟨⟨b1, b2, b3⟩, b4⟩ := ml_11 hg hw h1 hH1 hH hC2 mFuel 1 S3 1 rfl (Nat.le_refl _) (by omega) C3 tr3 (fun j hj => by
    have e : j = 0 := by omega
    rw [a3, e, upd_self, dpx_0]
    exact ⟨rfl, by decide⟩) hf
  exact ⟨⟨b1, b2, fr_t F3 b3⟩, b4⟩
/-- the depths once H goes on -/
theorem dp_lead (hw : WT T) (tr : TRr A g T) (hC2 : ∀ p, C p = if p = u then (H : Int) else hdC T p) (hF : hdC T u = (F : Int)) (hne : F ≠ H) (F1 : 1 ≤ F) (pF : ∀ k, k ≤ tn T → k = F → (tP T k).toNat = u ∧ u < F) (pH : u < H) : ∀ k, k ≤ tn T → (bh (aP A g) F k → dpx T C k = dpx T (hdC T) k + 1) ∧ (¬ bh (aP A g) F k → dpx T C k ≤ dpx T (hdC T) k) ∧ (k < F → k < H → dpx T C k = dpx T (hdC T) k) := by
  have hb : TTb (tn T) (aP A g) (aM A g) := fun k k1 k2 => by
    have e := (tr.2.2 k k2).1
    rw [e.1, e.2]
    exact ⟨(hw.2.1 k k1 k2).1, (hw.2.1 k k1 k2).2.1⟩
  intro k
  induction k using Nat.strongRecOn with
  | ind k ih =>
    intro hk
    by_cases k0 : k = 0
    · subst k0
      refine ⟨fun h => ?_, fun _ => Nat.le_refl _, fun _ _ => rfl⟩
      have := bh_le hb 0 hk h
      omega
    · have k1 : 1 ≤ k := by omega
      have hbk := (hw.2.1 k k1 hk).1
      have e := (tr.2.2 k hk).1.1
      have st := bh_step hb (a := F) k1 hk
      rw [e] at st
      obtain ⟨i1, i2, i3⟩ := ih (tP T k).toNat (by omega) (by omega)
      have d1 := dpx_s (C := C) hw k1 hk
      have d2 := dpx_s (C := hdC T) hw k1 hk
      rw [hC2] at d1
      by_cases pu : (tP T k).toNat = u
      · rw [if_pos pu] at d1
        rw [pu] at st i1 i2 i3 d1 d2
        rw [hF] at d2
        by_cases kF : k = F
        · have uF := (pF k hk kF).2
          have nb : ¬ bh (aP A g) F u := fun h => by
            have := bh_le hb u (by omega) h
            omega
          have q := i3 uF pH
          rw [if_neg (show ¬ (H : Int) = (k : Int) by omega)] at d1
          rw [if_pos (show (F : Int) = (k : Int) by omega)] at d2
          refine ⟨fun _ => by omega, fun h => absurd (st.2 (Or.inl kF)) h, fun h => by omega⟩
        · have uk : u < k := by omega
          by_cases bu : bh (aP A g) F u
          · -- F is among u's own ancestors: then u < F is false
            have := bh_le hb u (by omega) bu
            have q := i1 bu
            rw [if_neg (show ¬ (F : Int) = (k : Int) by omega)] at d2
            have hFn : F ≤ tn T := by omega
            have := (pF F hFn rfl).2
            omega
          · have q := i2 bu
            rw [if_neg (show ¬ (F : Int) = (k : Int) by omega)] at d2
            refine ⟨fun h => ?_, fun _ => ?_, fun a b => ?_⟩
            · rcases st.1 h with h | h
              · exact absurd h kF
              · exact absurd h bu
            · split at d1 <;> omega
            · rw [if_neg (show ¬ (H : Int) = (k : Int) by omega)] at d1
              have := i3 (by omega) (by omega)
              omega
      · rw [if_neg pu] at d1
        have kF : k ≠ F := fun h => pu (pF k hk h).1
        refine ⟨fun h => ?_, fun h => ?_, fun a b => ?_⟩
        · have := i1 ((st.1 h).resolve_left kF)
          omega
        · have := i2 (fun h2 => h (st.2 (Or.inr h2)))
          omega
        · have := i3 (by omega) (by omega)
          omega
theorem er_mid {l r : List Nat} {b H : Nat} (hn : (l ++ b :: H :: r).Nodup) : (l ++ b :: H :: r).erase H = l ++ b :: r := by
  have hnd2 := List.nodup_append.mp hn
  have hHl : H ∉ l := fun h => hnd2.2.2 H h H (by simp) rfl
  have hbH : b ≠ H := fun e => (List.nodup_cons.mp hnd2.2.1).1 (by rw [e]; exact List.mem_cons_self)
  rw [List.erase_append_right _ hHl]
  simp [List.erase_cons, hbH]
/-- a node goes on: the class -/
theorem p_putFirst {y : Int32} (hC : CG S) (hGG : GG g g') (hw : WT T) (tr : TRc S g T) (hH : x1.toInt = (H : Int)) (h1 : 1 ≤ H) (h2 : H ≤ tn T) (hne : hdC T (tP T H).toNat ≠ (H : Int)) (hf : f_X1_putFirst g x1 S = some (y, S')) : TRc S' g (ldT T (tP T H).toNat H) ∧ FR (fun a => zK S a = 4) S S' := by
  have hg := gg_g hGG
  have hT := hC.1
  obtain ⟨⟨a1, -, b1, c1, -, -⟩, -, -⟩ := fx_g hC.2.2.1 hg
  have h300 := hw.1
  obtain ⟨hcn, hn, hl, hr⟩ := id tr
  have hP := (hw.2.1 H h1 h2).1
  generalize hu0 : (tP T H).toNat = u at *
  have hu : u ≤ tn T := by omega
  have hPu : nF S 0 (g + 3) (g + 5) H = (u : Int) := by rw [(hr H h2).1.1]; omega
  have hin : H ∈ tL T u := ((hl u hu).2.2 H).2 ⟨h1, h2, hPu⟩
  have ka : ∀ j, zK S (nk S (g + 3) (g + 5) j) = 4 := fun j => (nk_nd hC hg j).1
  have inj : ∀ i j, i ≤ tn T → j ≤ tn T → nk S (g + 3) (g + 5) i = nk S (g + 3) (g + 5) j → i = j := fun i j hi hj he => nk_ij hC hGG tr hi hj he
  have hf : f_X1_putFirst_0 g x1 S = some (y, S') := hf
  unfold f_X1_putFirst_0 at hf
  obtain ⟨-, hf⟩ := m_chkE hf
  obtain ⟨⟨q, Sx⟩, h4, hf⟩ := m_calE hf
  obtain ⟨s4, k4, a4⟩ := ok_of (t_f_X1_at hT a1) h4
  dsimp only at s4 k4 a4 hf
  rw [s4] at hf k4
  have eq : q = nk S (g + 3) (g + 5) H := by rw [a4, nd_nk hT a1 b1 c1 (by omega) (by omega), hH]; rfl
  obtain ⟨-, hf⟩ := m_chkE hf
  obtain ⟨-, hf⟩ := m_chkE hf
  obtain ⟨⟨d, Sy⟩, h5, hf⟩ := m_calE hf
  obtain ⟨s5, k5, a5⟩ := ok_of (t_f_X1_at hT a1) h5
  dsimp only at s5 k5 a5 hf
  rw [s5] at hf k5
  have hPq : (zI S 0 q).toInt = (u : Int) := by rw [eq]; exact hPu
  have ed : d = nk S (g + 3) (g + 5) u := by rw [a5, nd_nk hT a1 b1 c1 (by omega) (by omega), hPq]; rfl
  obtain ⟨-, hf⟩ := m_chkE hf
  have hCd : nF S 2 (g + 3) (g + 5) u = (zI S 2 d).toInt := by unfold nF; rw [← ed]
  obtain ⟨l1, r1, bb, x3, hL, hx3, hf⟩ := pf_21 hT a1 b1 c1 hH (tL T u) mFuel (zI S 2 d) 0 (by rw [← hCd]; exact (hl u hu).1) (fun j hj => ⟨(((hl u hu).2.2 j).1 hj).1, by rw [hcn]; exact (((hl u hu).2.2 j).1 hj).2.1⟩) hin (by rw [← hCd, hd_c (hl u hu).1]; exact hne) (by decide) (by have := chn_len hl hu; have z : (0 : Int32).toInt = 0 := rfl; omega) hf
  have hbb := ((hl u hu).2.2 bb).1 (by rw [hL]; simp)
  have hnd := (hl u hu).2.1
  have hbH : bb ≠ H := fun e => by
    rw [hL, e] at hnd
    have := (List.nodup_cons.mp (List.nodup_append.mp hnd).2.1).1
    exact this List.mem_cons_self
  unfold f_X1_putFirst_56 at hf
  obtain ⟨-, hf⟩ := m_chkE hf
  obtain ⟨⟨p, Sz⟩, h6, hf⟩ := m_calE hf
  obtain ⟨s6, k6, a6⟩ := ok_of (t_f_X1_at hT a1) h6
  dsimp only at s6 k6 a6 hf
  rw [s6] at hf k6
  have ep : p = nk S (g + 3) (g + 5) bb := by rw [a6, nd_nk hT a1 b1 c1 (by omega) (by omega), hx3]; rfl
  obtain ⟨-, hf⟩ := m_chkE hf
  obtain ⟨o2, h7, hf⟩ := m_calE hf
  rw [h4, s4] at h7
  cases h7
  obtain ⟨-, hf⟩ := m_chkE hf
  obtain ⟨-, hf⟩ := m_chkE hf
  obtain ⟨S3, e3, hf⟩ := m_bndE hf
  replace e3 : S3 = zsI S 3 p (zI S 3 q) := e3
  have T3 : ZT S3 := e3.symm ▸ zt_W hT k6 (by decide) rfl
  have kg3 : zK S3 g = 1 := by rw [e3]; exact a1
  have gp : g ≠ p := fun e => by rw [e] at a1; omega
  have nx3 : nd S3 g x1 = nd S g x1 := nd_x (by rw [e3]; exact zI_ne gp) (by rw [e3]; rfl) (by rw [e3]; rfl) c1 (by rw [e3]; rfl) x1
  obtain ⟨-, hf⟩ := m_chkE hf
  obtain ⟨⟨q', Sw⟩, h8, hf⟩ := m_calE hf
  obtain ⟨s8, k8, a8⟩ := ok_of (t_f_X1_at T3 kg3) h8
  dsimp only at s8 k8 a8 hf
  rw [s8] at hf
  rw [nx3, ← a4] at a8
  rw [a8] at hf
  obtain ⟨-, hf⟩ := m_chkE hf
  obtain ⟨-, hf⟩ := m_chkE hf
  obtain ⟨S5, e5, hf⟩ := m_bndE hf
  obtain ⟨-, hf⟩ := m_chkE hf
  obtain ⟨S6, e6, hf⟩ := m_bndE hf
  cases hf
  have pq : p ≠ q := fun e => hbH (inj bb H hbb.2.1 h2 (by rw [← ep, ← eq, e]))
  have m0 : ∀ j a, j ≠ 2 → j ≠ 3 → zI S' j a = zI S j a := fun j a j2 j3 => by rw [e6, zI_j j2, e5, zI_j j3, e3, zI_j j3]
  have m2 : ∀ a, a ≠ d → zI S' 2 a = zI S 2 a := fun a h => by rw [e6, zI_ne h, e5, zI_j (by decide), e3, zI_j (by decide)]
  have m2d : zI S' 2 d = x1 := by rw [e6]; exact zI_self _ _ _ _
  have m3 : ∀ a, a ≠ p → a ≠ q → zI S' 3 a = zI S 3 a := fun a h h9 => by rw [e6, zI_j (by decide), e5, zI_ne h9, e3, zI_ne h]
  have m3p : zI S' 3 p = zI S 3 q := by rw [e6, zI_j (by decide), e5, zI_ne pq, e3]; exact zI_self _ _ _ _
  have m3q : zI S' 3 q = zI S 2 d := by
    rw [e6, zI_j (by decide), e5, zI_self, e3, zI_j (by decide)]
  have bS : zB S' = zB S := by rw [e6]; show zB S5 = _; rw [e5]; show zB S3 = _; rw [e3]; rfl
  have FF : FR (fun a => a = p ∨ a = q ∨ a = d) S S' := fr_t (fr_m (fr_I e3) (fun a _ e => Or.inl e)) (fr_t (fr_m (fr_I e5) (fun a _ e => Or.inr (Or.inl e))) (fr_m (fr_I e6) (fun a _ e => Or.inr (Or.inr e))))
  have F4 : FR (fun a => zK S a = 4) S S' := fr_m FF (fun a _ e => by
    rcases e with e | e | e
    · rw [e]; exact k6
    · rw [e]; exact k4
    · rw [e]; exact k5)
  have nkE : ∀ j, nk S' (g + 3) (g + 5) j = nk S (g + 3) (g + 5) j := fun j => by unfold nk; rw [bS]
  have cnE : cn S' g = cn S g := by unfold cn; rw [m3 g gp (fun e => by rw [e] at a1; omega)]
  have P0 : nF S' 0 (g + 3) (g + 5) = nF S 0 (g + 3) (g + 5) := funext (fun j => by unfold nF; rw [nkE, m0 0 _ (by decide) (by decide)])
  have P1 : nF S' 1 (g + 3) (g + 5) = nF S 1 (g + 3) (g + 5) := funext (fun j => by unfold nF; rw [nkE, m0 1 _ (by decide) (by decide)])
  obtain ⟨F, hF⟩ : ∃ F : Nat, nF S 2 (g + 3) (g + 5) u = (F : Int) := by
    have hch := (hl u hu).1
    rw [hL] at hch
    cases l1 with
    | nil => exact ⟨bb, hch.1⟩
    | cons z l => exact ⟨z, hch.1⟩
  have TL := TTl_lead (C' := nF S' 2 (g + 3) (g + 5)) (N' := nF S' 3 (g + 3) (g + 5)) hl hu hL hF (fun j hj hju => by
        unfold nF
        rw [nkE, m2 _ (fun e => hju (inj j u hj hu (by rw [e, ed])))]) (by
        unfold nF
        rw [nkE, ← ed, m2d]; exact hH) (by
        unfold nF
        rw [nkE, ← ep, ← eq, m3p]) (by
        unfold nF
        rw [nkE, ← eq, m3q, ← hCd]; exact hF) (fun j hj hjb hjH => by
        unfold nF
        rw [nkE, m3 _ (fun e => hjb (inj j bb hj hbb.2.1 (by rw [e, ep]))) (fun e => hjH (inj j H hj h2 (by rw [e, eq])))])
  have eL : H :: (tL T u).erase H = H :: (l1 ++ bb :: r1) := by
    rw [hL] at hnd ⊢
    rw [er_mid hnd]
  refine ⟨⟨cnE.trans hcn, ⟨fun k k1 k2 => by rw [bS]; exact hn.1 k k1 k2, ?_⟩, ?_, fun k hk => ?_⟩, F4⟩
  · have b9 := hbb.1
    have n1 : nk S (g + 3) (g + 5) 0 ≠ p := fun e => by
      have h9 := inj 0 bb (Nat.zero_le _) hbb.2.1 (by rw [e, ep])
      rw [← h9] at b9
      exact absurd b9 (by decide)
    have n2 : nk S (g + 3) (g + 5) 0 ≠ q := fun e => by
      have h9 := inj 0 H (Nat.zero_le _) h2 (by rw [e, eq])
      rw [← h9] at h1
      exact absurd h1 (by decide)
    unfold nF
    rw [nkE, m3 _ n1 n2]
    exact hn.2
  · rw [P0]
    show TTl (tn T) _ _ _ (fun p => if p = u then H :: (tL T u).erase H else tL T p)
    rw [eL]
    exact TL
  · obtain ⟨z1, z2, z3⟩ := hr k hk
    have kr := (nk_nd hC hg k).2.2.1
    rw [P0, P1, nkE k]
    refine ⟨z1, ⟨?_, ?_⟩, eqc_rl (fr_e F4 (by rw [kr]; decide) (by rw [kr]; decide)) kr z3⟩
    · rw [m0 4 _ (by decide) (by decide)]; exact z2.1
    · rw [m0 5 _ (by decide) (by decide)]; exact z2.2
end LEA
