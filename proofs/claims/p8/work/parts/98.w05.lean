/-- the cells that the writer uses from a depth on -/
def WD (d a : Nat) : Prop := a = 3 ∨ (80 ≤ a ∧ a ≤ 83) ∨ (85 + 2 * d ≤ a ∧ a ≤ 98)
/-- what a part of the writer leaves -/
def LOo (g : Nat) (T : TRa) (d : Nat) (S S' : ZS) (w : List Int) : Prop := (CG S' ∧ TRc S' g T) ∧ RWL S' 3 w ∧ FR (WD d) S S'
theorem wd_k : ∀ a : Nat, a < 99 → (a = 3 ∨ 80 ≤ a) → a ≠ 84 → (fxK a = 6 ∨ fxK a = 0 ∨ fxK a = 14) := by decide +kernel
section WCL
variable {S S' S1 S2 : ZS} {g d k p F : Nat} {T : TRa} {st P : PO} {w w2 : List Int} {o : Int32 × ZS} {x1 x3 x6 x7 x8 : Int32} {D : Nat → Nat}
theorem wd_cell {a : Nat} (h : WD d a) (X : FIX S) : zK S a = 6 ∨ zK S a = 0 ∨ zK S a = 14 := by
  unfold WD at h
  rw [fx_k X (show 1 ≤ a by omega) (by omega)]
  exact wd_k a (by omega) (by omega) (by omega)
theorem wd_tc (hC : CG S) (hg : g = 35 ∨ g = 99) (hF : FR (WD d) S S') {a : Nat} (ha : TCl S g a) : EQc S S' a := fr_e hF (tc_lt hC hg ha) (fun e => by
  unfold WD at e
  exact tc_no hC hg (by omega) (by omega) (by omega) (by omega) (by omega) ha)
theorem nk_fr (hC : CG S) (hg : g = 35 ∨ g = 99) (hF : FR (WD d) S S') : nk S' (g + 3) (g + 5) k = nk S (g + 3) (g + 5) k := by
  unfold nk
  rw [(wd_tc hC hg hF (Or.inr (Or.inr (Or.inr (Or.inl rfl))))).2.2.2.2.1]
theorem nF_fr {j : Nat} (hC : CG S) (hg : g = 35 ∨ g = 99) (hF : FR (WD d) S S') : nF S' j (g + 3) (g + 5) = nF S j (g + 3) (g + 5) := by
  funext i
  unfold nF
  rw [nk_fr hC hg hF, (wd_tc hC hg hF (tc_nk i).1).2.2.1]
theorem lo_mk (hC : CG S) (hg : g = 35 ∨ g = 99) (tr : TRc S g T) (hT : ZT S') (hF : FR (WD d) S S') (hr : RWL S' 3 w) : LOo g T d S S' w := by
  have Z : TZ S' := tz_k hC.1 hC.2.1 hF (fun a _ e => by
    have q := wd_cell e hC.2.2.1
    exact ⟨by omega, by omega, fun e4 => absurd e4 (by omega)⟩)
  exact ⟨⟨cg_w hC hT Z hF (by unfold WD; omega) (by unfold WD; omega) (by unfold WD; omega) (by unfold WD; omega), trc_e hC hg tr (fun a ha => wd_tc hC hg hF ha)⟩, hr, hF⟩
theorem lo_t (h : LOo g T d S S1 w) (k : LOo g T d S1 S2 w2) : LOo g T d S S2 w2 := ⟨k.1, k.2.1, fr_t h.2.2 k.2.2⟩
theorem lo_u (h : LOo g T (d + 1) S S1 w) : LOo g T d S S1 w := ⟨h.1, h.2.1, fr_m h.2.2 (fun a _ e => by unfold WD at e ⊢; omega)⟩
/-- into the writer of signs and back -/
theorem lo_ps (hC : CG S) (hr : RWL S 3 w) {bb : Nat} (bo : BO S bb P) : PSt S S 78 bb P w := ⟨hC.1, hC.2.2.1, bo, hr, fr_0⟩
theorem ps_lo {bb : Nat} (hC : CG S) (hg : g = 35 ∨ g = 99) (tr : TRc S g T) (h : PSt S S' 78 bb P w) : LOo g T d S S' w := lo_mk hC hg tr h.1 (fr_m h.2.2.2.2 (fun a _ e => by unfold WD; omega)) h.2.2.2.1
theorem fx_b (X : FIX S) (hd : d ≤ 6) : zK S (85 + 2 * d) = 0 ∧ zP S 0 (85 + 2 * d) = some (85 + 2 * d + 1) ∧ zK S (85 + 2 * d + 1) = 14 ∧ zB S 84 d = some (85 + 2 * d) := by
  have h7 : d < 7 := by omega
  obtain ⟨k1, k2⟩ := fx_wk d h7
  refine ⟨by rw [fx_k X (by omega) (by omega)]; exact k1, ?_, ?_, (X.2.2.2.2.1 d h7).2.2⟩
  · have := X.2.2.2.1 d h7
    rw [show 86 + 2 * d = 85 + 2 * d + 1 by omega] at this
    exact this
  · rw [show 85 + 2 * d + 1 = 86 + 2 * d by omega, fx_k X (by omega) (by omega)]; exact k2
/-- the remarks' signs, the marks -/
def TCb (T : TRa) : Prop := ∀ k, k ≤ tn T → (∀ i, 0 ≤ wA (tR T k) i ∧ wA (tR T k) i ≤ 65535) ∧ ∀ m ∈ tK T k, 0 ≤ m ∧ m ≤ 255
theorem nd_w (hC : CG S) (hg : g = 35 ∨ g = 99) (hw : WT T) (hc : TCb T) (tr : TRc S g T) (hk : k ≤ tn T) : NDw S (nk S (g + 3) (g + 5) k) (tR T k) := by
  obtain ⟨a1, a2, a3, a4⟩ := nk_nd hC hg k
  refine ⟨a1, a2, a3, fun e => ?_, (tr.2.2.2 k hk).2.2, (hw.2.2.1 k).1, (hc k hk).1⟩
  rw [e] at a4
  exact absurd a4 (by decide)
theorem cl_move {fr : Bool} (hg : g = 35 ∨ g = 99) (hw : WT T) (hl : LTr st T) (hc : TCb T) (hd : d ≤ 6) (k1 : 1 ≤ k) (hk : k ≤ tn T) (hC : CG S) (tr : TRc S g T) (hr : RWL S 3 w) (bo : BO S (85 + 2 * d) (posT st T (tP T k).toNat)) (h3 : x3.toInt = if fr = true then 1 else 0) (hlw : w.length ≤ 80000) (hf : d_X3_putMove 77 (85 + 2 * d) (nk S (g + 3) (g + 5) k) x3 3 S = some o) : LOo g T d S o.2 (w ++ (gpW w ++ mvT st T k fr)) ∧ BO o.2 (85 + 2 * d) (posT st T (tP T k).toNat) := by
  have hP := (hw.2.1 k k1 hk).1
  have h300 := hw.1
  obtain ⟨pg, pn1, pn2⟩ := lt_pg hw hl (tP T k).toNat (by omega)
  have q := pc_move (fr := fr) (show 84 < 85 + 2 * d by omega) hC.2.2.1 (nd_w hC hg hw hc tr hk) (tr.2.2.2 k hk).2.1 (hw.2.2.1 k).2 (hc k hk).2 (tr.2.2.2 k hk).1.2 pg ⟨by omega, by omega⟩ (hl.2.2 k k1 hk) (by omega) h3 (lo_ps hC hr bo) hf
  exact ⟨ps_lo hC hg tr q, q.2.2.1⟩
/-- the loop over the lines that a node opens -/
theorem cl_99 {m : Nat} (hg : g = 35 ∨ g = 99) (hw : WT T) (hl : LTr st T) (hd : d ≤ 6) (F1 : 1 ≤ F) (F2 : F ≤ tn T) (h3 : x3.toInt = (d : Int)) (h8 : 0 ≤ x8.toInt ∧ x8.toInt ≤ 299) {rec : Nat → Nat → Int32 → Int32 → Nat → ZS → Option (Int32 × ZS)} {self24 : Nat → Nat → Int32 → Nat → Nat → Int32 → Int32 → Int32 → ZS → Option (Int32 × ZS)}
    (hself : ∀ (y v z : Int32) (S : ZS) (w : List Int) (fr : Bool), CG S → TRc S g T → RWL S 3 w → BO S (85 + 2 * d) (posT st T F) → gpW w = [32] → v.toInt = hdC T F → y.toInt = (if fr = true then 1 else 0) → z.toInt = x8.toInt + 1 → (w ++ (tlW T F ++ lnP st T m fr F)).length ≤ 80000 → self24 77 g x3 3 (85 + 2 * d) y v z S = some o → LOo g T d S o.2 (w ++ (tlW T F ++ lnP st T m fr F))) : ∀ (l : List Nat) (n : Nat) (x6 x10 x11 : Int32) (S : ZS) (w : List Int) (fr : Bool), (l ≠ [] → d + 1 ≤ 6) → (∀ j ∈ l, ∀ (x v : Int32) (S : ZS) (w : List Int) (o' : Int32 × ZS), x.toInt = (j : Int) → v.toInt = (d : Int) + 1 → CG S → TRc S g T → RWL S 3 w → BO S (85 + 2 * (d + 1)) (posT st T (tP T F).toNat) → gpW w = [] → (w ++ vrT st T m j).length ≤ 80000 → rec 77 g x v 3 S = some o' → LOo g T (d + 1) S o'.2 (w ++ vrT st T m j)) → chn (nF S 3 (g + 3) (g + 5)) l x10.toInt → (∀ j ∈ l, 1 ≤ j ∧ j ≤ tn T) → 0 ≤ x11.toInt → x11.toInt + (l.length : Int) ≤ 300 → x6.toInt = (if fr = true then 1 else 0) → CG S → TRc S g T → RWL S 3 w → BO S (85 + 2 * d) (posT st T (tP T F).toNat) → gpW w = [32] → (w ++ (vsT st T m l ++ (tlW T F ++ lnP st T m (fr || !l.isEmpty) F))).length ≤ 80000 → d_X3_putLine_99 rec self24 n 77 g x3 3 (85 + 2 * d) x6 x8 (nk S (g + 3) (g + 5) F) x10 x11 S = some o → LOo g T d S o.2 (w ++ (vsT st T m l ++ (tlW T F ++ lnP st T m (fr || !l.isEmpty) F))) := by
  have hP := (hw.2.1 F F1 F2).1
  have h300 := hw.1
  obtain ⟨pg, pn1, pn2⟩ := lt_pg hw hl (tP T F).toNat (by omega)
  have z300 : (300 : Int32).toInt = 300 := rfl
  have z6 : (6 : Int32).toInt = 6 := rfl
  have zm : (-1 : Int32).toInt = -1 := rfl
  have z1 : (1 : Int32).toInt = 1 := rfl
  intro l
  induction l with
  | nil =>
    intro n x6 x10 x11 S w fr hdl hrec hch hm h11 h11l h6 hC tr hr bo hgp hlen hf
    cases n with
    | zero => cases hf
    | succ n =>
      have hf : d_X3_putLine_99s rec self24 (d_X3_putLine_99 rec self24 n) 77 g x3 3 (85 + 2 * d) x6 x8 (nk S (g + 3) (g + 5) F) x10 x11 S = some o := hf
      have h10 : x10.toInt = -1 := hch
      have ev : vsT st T m [] = [] := rfl
      have eb : (fr || !([] : List Nat).isEmpty) = fr := by cases fr <;> rfl
      rw [ev, List.nil_append, eb] at hlen ⊢
      have key : d_X3_putLine_183 rec self24 77 g x3 3 (85 + 2 * d) x6 x8 (nk S (g + 3) (g + 5) F) S = some o → LOo g T d S o.2 (w ++ (tlW T F ++ lnP st T m fr F)) := fun hh => by
        unfold d_X3_putLine_183 at hh
        obtain ⟨-, hh⟩ := m_chkE hh
        obtain ⟨-, hh⟩ := m_chkE hh
        obtain ⟨⟨y1, S1⟩, h_1, hh⟩ := m_calE hh
        obtain ⟨-, hh⟩ := m_chkE hh
        have tm : (zI S 1 (nk S (g + 3) (g + 5) F)).toInt = tM T F := (tr.2.2.2 F F2).1.2
        obtain ⟨a1, a2, a3⟩ := bo_play hC.1 bo pg (by rw [tm]; exact hl.2.2 F F1 F2) ⟨by omega, by omega⟩ h_1
        dsimp only at a1 a2 a3 hh
        rw [tm, ← posT_s hw F1 F2] at a3
        have k3 : zK S 3 = 6 := fx_k hC.2.2.1 (by decide) (by decide)
        have r1 : RWL S1 3 w := eqc_rl (fr_e a2 (by rw [k3]; decide) (by omega)) k3 hr
        have L1 : LOo g T d S S1 w := lo_mk hC hg tr a1 (fr_m a2 (fun a _ e => by unfold WD; omega)) r1
        obtain ⟨-, hh⟩ := m_chkE hh
        obtain ⟨v2, e2, hh⟩ := m_bndE hh
        have t2 : v2.toInt = x8.toInt + 1 := ti_add e2 rfl z1 (by omega) (by omega)
        have tc : (zI S1 2 (nk S (g + 3) (g + 5) F)).toInt = hdC T F := by
          rw [← nk_fr hC hg L1.2.2]
          exact trc_hd L1.1.2 F2
        exact lo_t L1 (hself x6 _ v2 S1 w fr L1.1.1 L1.1.2 r1 a3 hgp tc h6 t2 hlen hh)
      unfold d_X3_putLine_99s at hf
      rcases m_ifE hf with ⟨-, hf⟩ | ⟨-, hf⟩
      · exact key hf
      rcases m_ifE hf with ⟨-, hf⟩ | ⟨dn, -⟩
      · exact key hf
      · exact absurd (i32_of h10) dn
  | cons j l ih =>
    intro n x6 x10 x11 S w fr hdl hrec hch hm h11 h11l h6 hC tr hr bo hgp hlen hf
    cases n with
    | zero => cases hf
    | succ n =>
      have hf : d_X3_putLine_99s rec self24 (d_X3_putLine_99 rec self24 n) 77 g x3 3 (85 + 2 * d) x6 x8 (nk S (g + 3) (g + 5) F) x10 x11 S = some o := hf
      obtain ⟨h10, hch2⟩ := hch
      have hj := hm j List.mem_cons_self
      have d1 : d + 1 ≤ 6 := hdl (by simp)
      have ll : ((j :: l).length : Int) = (l.length : Int) + 1 := rfl
      have X := hC.2.2.1
      have eb : (fr || !(j :: l).isEmpty) = (true || !l.isEmpty) := by cases fr <;> rfl
      rw [vs_c, eb] at hlen ⊢
      unfold d_X3_putLine_99s at hf
      rcases m_ifE hf with ⟨q, -⟩ | ⟨-, hf⟩
      · replace q := ti_leP (a := (300 : Int32)) (b := x11) q z300 rfl
        omega
      rcases m_ifE hf with ⟨q, -⟩ | ⟨-, hf⟩
      · replace q := ti_eqP (a := x10) (b := (-1 : Int32)) q rfl zm
        omega
      rcases m_ifE hf with ⟨q, -⟩ | ⟨-, hf⟩
      · replace q := ti_leP (a := (6 : Int32)) (b := x3) q z6 rfl
        omega
      obtain ⟨-, hf⟩ := m_chkE hf
      replace hf := m_calY hf (show zP S 1 77 = some 84 from fx_p X (by decide))
      obtain ⟨v2, e2, hf⟩ := m_bndE hf
      have t2 : v2.toInt = ((d + 1 : Nat) : Int) := by
        have : v2.toInt = x3.toInt + 1 := ti_add e2 rfl z1 (by omega) (by omega)
        omega
      obtain ⟨-, hf⟩ := m_chkE hf
      obtain ⟨-, hf⟩ := m_chkE hf
      rw [cl_n t2] at hf
      obtain ⟨b1, b2, b3, b4⟩ := fx_b X d1
      replace hf := m_calY hf b4
      obtain ⟨-, hf⟩ := m_chkE hf
      obtain ⟨⟨y4, S4⟩, h_4, hf⟩ := m_calE hf
      obtain ⟨-, hf⟩ := m_chkE hf
      obtain ⟨c1, c2, c3⟩ := bo_copy hC.1 b1 b2 b3 bo h_4
      dsimp only at c1 c2 c3 hf
      have k3 : zK S 3 = 6 := fx_k X (by decide) (by decide)
      have r4 : RWL S4 3 w := eqc_rl (fr_e c2 (by rw [k3]; decide) (by omega)) k3 hr
      have L4 : LOo g T d S S4 w := lo_mk hC hg tr c1 (fr_m c2 (fun a _ e => by unfold WD; omega)) r4
      have bo4 : BO S4 (85 + 2 * d) (posT st T (tP T F).toNat) := bo_fr bo c2 (by omega) (by omega)
      simp only [List.length_append, List.length_singleton] at hlen
      obtain ⟨⟨r6, S7⟩, h_6, hf⟩ := m_cal2E hf
      have P7 := pc_gap (show 84 < 85 + 2 * d by omega) (lo_ps L4.1.1 r4 bo4) (by omega) h_6
      dsimp only at P7 hf
      rw [hgp] at P7
      obtain ⟨-, hf⟩ := m_chkE hf
      obtain ⟨⟨r11, S12⟩, h_11, hf⟩ := m_cal2E hf
      have P12 := ps_put (Or.inr rfl) (show 84 < 85 + 2 * d by omega) P7 (by rw [List.length_append, List.length_singleton]; omega) (by decide) h_11
      dsimp only at P12 hf
      have L12 : LOo g T d S4 S12 (w ++ [32] ++ [(40 : Int32).toInt]) := ps_lo L4.1.1 hg L4.1.2 P12
      have bo12 : BO S12 (85 + 2 * (d + 1)) (posT st T (tP T F).toNat) := bo_fr c3 P12.2.2.2.2 (by omega) (by omega)
      obtain ⟨v15, e15, hf⟩ := m_bndE hf
      have t15 : v15.toInt = (d : Int) + 1 := by
        have : v15.toInt = x3.toInt + 1 := ti_add e15 rfl z1 (by omega) (by omega)
        omega
      obtain ⟨-, hf⟩ := m_chkE hf
      obtain ⟨⟨r17, S18⟩, h_17, hf⟩ := m_cal2E hf
      have L18 := hrec j List.mem_cons_self x10 v15 S12 _ _ h10 t15 L12.1.1 L12.1.2 L12.2.1 bo12 gp_40 (by simp only [List.length_append, List.length_singleton]; omega) h_17
      dsimp only at L18 hf
      have bo18 : BO S18 (85 + 2 * d) (posT st T (tP T F).toNat) := bo_fr P12.2.2.1 L18.2.2 (by unfold WD; omega) (by unfold WD; omega)
      obtain ⟨-, hf⟩ := m_chkE hf
      obtain ⟨⟨r22, S23⟩, h_22, hf⟩ := m_cal2E hf
      have P23 := ps_put (Or.inr rfl) (show 84 < 85 + 2 * d by omega) (lo_ps L18.1.1 L18.2.1 bo18) (by simp only [List.length_append, List.length_singleton]; omega) (by decide) h_22
      dsimp only at P23 hf
      have L23 := ps_lo (d := d) L18.1.1 hg L18.1.2 P23
      have LL := lo_t L4 (lo_t L12 (lo_t (lo_u L18) L23))
      obtain ⟨-, hf⟩ := m_chkE hf
      obtain ⟨⟨c26, S26⟩, h_26, hf⟩ := m_calE hf
      obtain ⟨e26, q26⟩ := p_at LL.1.1 hg LL.1.2 (by omega) (by omega) h_26
      obtain ⟨-, hf⟩ := m_chkE hf
      dsimp only at hf
      rw [e26, q26, show x10.toInt.toNat = j by omega] at hf
      obtain ⟨-, hf⟩ := m_chkE hf
      obtain ⟨v27, e27, hf⟩ := m_bndE hf
      have t27 : v27.toInt = x11.toInt + 1 := ti_add e27 rfl z1 (by omega) (by omega)
      rw [← nk_fr (k := F) hC hg LL.2.2] at hf
      have q := ih n 1 (zI S23 3 (nk S23 (g + 3) (g + 5) j)) v27 S23 _ true (fun _ => d1) (fun i hi => hrec i (List.mem_cons_of_mem _ hi)) (by
        rw [nF_fr hC hg LL.2.2]
        have e : (zI S23 3 (nk S23 (g + 3) (g + 5) j)).toInt = nF S 3 (g + 3) (g + 5) j := by rw [← nF_fr hC hg LL.2.2]; rfl
        rw [e]
        exact hch2) (fun i hi => hm i (List.mem_cons_of_mem _ hi)) (by omega) (by omega) rfl LL.1.1 LL.1.2 LL.2.1 P23.2.2.1 (gp_1 (by decide)) (by simp only [List.length_append, List.length_singleton]; omega) hf
      have q2 := lo_t LL q
      simp only [List.append_assoc] at q2 ⊢
      exact q2
/-- the lines of the class -/
theorem cl_main (hg : g = 35 ∨ g = 99) (hw : WT T) (hl : LTr st T) (hc : TCb T) (hD : D 0 = 0 ∧ (∀ k, 1 ≤ k → k ≤ tn T → D k = D (tP T k).toNat + (if hdC T (tP T k).toNat = (k : Int) then 0 else 1)) ∧ ∀ k, k ≤ tn T → D k ≤ 6) : ∀ (m p : Nat), p ≤ tn T → tn T < p + m → ∀ (rd f : Nat) (x3 x6 x7 x8 : Int32) (S : ZS) (w : List Int) (fr : Bool) (o : Int32 × ZS), x7.toInt = hdC T p → x3.toInt = (D p : Int) → x6.toInt = (if fr = true then 1 else 0) → (0 ≤ x8.toInt ∧ x8.toInt ≤ (p : Int)) → CG S → TRc S g T → RWL S 3 w → BO S (85 + 2 * D p) (posT st T p) → (w ++ ((if tL T p = [] then [] else gpW w) ++ lnP st T m fr p)).length ≤ 80000 → d_X3_putLine_24 (dr_X3_putLine rd) f 77 g x3 3 (85 + 2 * D p) x6 x7 x8 S = some o → LOo g T (D p) S o.2 (w ++ ((if tL T p = [] then [] else gpW w) ++ lnP st T m fr p)) := by
  have h300 := hw.1
  have z0 : (0 : Int32).toInt = 0 := rfl
  have z1 : (1 : Int32).toInt = 1 := rfl
  have z6 : (6 : Int32).toInt = 6 := rfl
  have zm : (-1 : Int32).toInt = -1 := rfl
  have z300 : (300 : Int32).toInt = 300 := rfl
  intro m
  induction m with
  | zero => intro p hp hm; omega
  | succ m ih =>
    intro p hp hm rd f x3 x6 x7 x8 S w fr o hx h3 h6 h8 hC tr hr bo hlen hf
    -- a node with what it opens
    have step : ∀ (rd f : Nat) (F : Nat) (os : List Nat) (x3 x6 x7 x8 : Int32) (S : ZS) (w : List Int) (fr : Bool) (o : Int32 × ZS), 1 ≤ F → F ≤ tn T → p < F → (tP T F).toNat = p → x7.toInt = (F : Int) → x3.toInt = (D F : Int) → x6.toInt = (if fr = true then 1 else 0) → (0 ≤ x8.toInt ∧ x8.toInt + 1 ≤ (F : Int)) → ((hdC T p = (F : Int) ∧ chn (nF S 3 (g + 3) (g + 5)) os (nF S 3 (g + 3) (g + 5) F)) ∨ (hdC T p ≠ (F : Int) ∧ os = [])) → (∀ j ∈ os, 1 ≤ j ∧ j ≤ tn T) → os.length ≤ 300 → (os ≠ [] → D F + 1 ≤ 6) → (∀ j ∈ os, ∀ (x v : Int32) (S : ZS) (w : List Int) (o' : Int32 × ZS), x.toInt = (j : Int) → v.toInt = (D F : Int) + 1 → CG S → TRc S g T → RWL S 3 w → BO S (85 + 2 * (D F + 1)) (posT st T p) → gpW w = [] → (w ++ vrT st T m j).length ≤ 80000 → dr_X3_putLine rd 77 g x v 3 S = some o' → LOo g T (D F + 1) S o'.2 (w ++ vrT st T m j)) → CG S → TRc S g T → RWL S 3 w → BO S (85 + 2 * D F) (posT st T p) → (w ++ (gpW w ++ (mvT st T F fr ++ (vsT st T m os ++ (tlW T F ++ lnP st T m (rkB T F || !os.isEmpty) F))))).length ≤ 80000 → d_X3_putLine_24s (dr_X3_putLine rd) (d_X3_putLine_24 (dr_X3_putLine rd) f) 77 g x3 3 (85 + 2 * D F) x6 x7 x8 S = some o → LOo g T (D F) S o.2 (w ++ (gpW w ++ (mvT st T F fr ++ (vsT st T m os ++ (tlW T F ++ lnP st T m (rkB T F || !os.isEmpty) F))))) := by
      intro rd f F os x3 x6 x7 x8 S w fr o F1 F2 F3 eP hx h3 h6 h8 hgo hos hol hod hrec hC tr hr bo hlen hf
      have d6 := hD.2.2 F F2
      rw [← eP] at bo
      unfold d_X3_putLine_24s at hf
      rcases m_ifE hf with ⟨q, -⟩ | ⟨-, hf⟩
      · replace q := ti_leP (a := (300 : Int32)) (b := x8) q z300 rfl
        omega
      rcases m_ifE hf with ⟨q, -⟩ | ⟨-, hf⟩
      · replace q := ti_eqP (a := x7) (b := (-1 : Int32)) q rfl zm
        omega
      obtain ⟨-, hf⟩ := m_chkE hf
      obtain ⟨⟨c1, S1⟩, h_1, hf⟩ := m_calE hf
      obtain ⟨e1, q1⟩ := p_at hC hg tr (by omega) (by omega) h_1
      rw [show x7.toInt.toNat = F by omega] at q1
      obtain ⟨-, hf⟩ := m_chkE hf
      dsimp only at hf
      rw [e1, q1] at hf
      obtain ⟨-, hf⟩ := m_chkE hf
      obtain ⟨⟨r3, S4⟩, h_3, hf⟩ := m_cal2E hf
      simp only [List.length_append] at hlen
      obtain ⟨L4, bo4⟩ := cl_move (fr := fr) hg hw hl hc d6 F1 F2 hC tr hr bo h6 (by omega) h_3
      dsimp only at L4 bo4 hf
      obtain ⟨-, hf⟩ := m_chkE hf
      have N4 := nd_w L4.1.1 hg hw hc L4.1.2 F2
      have ek : nk S4 (g + 3) (g + 5) F = nk S (g + 3) (g + 5) F := nk_fr hC hg L4.2.2
      rw [← ek] at hf
      replace hf := m_calY hf N4.2.1
      obtain ⟨-, hf⟩ := m_chkE hf
      obtain ⟨⟨y8, S8⟩, h_8, hf⟩ := m_calE hf
      have q8 := pc_X6_size h_8
      have e8 : S8 = S4 := ro_X6_size h_8
      obtain ⟨-, hf⟩ := m_chkE hf
      dsimp only at q8 hf
      rw [e8] at hf
      have t8 : y8.toInt = ((tR T F).length : Int) := by rw [q8]; exact N4.2.2.2.2.1.1
      -- the gap behind the move
      have gm : gpW (w ++ (gpW w ++ mvT st T F fr)) = [32] := by
        rw [← List.append_assoc]
        exact gp_mv (hl.2.2 F F1 F2).1.1
      have go : ∀ (t0 : Int32), t0.toInt = (if rkB T F = true then 1 else 0) → d_X3_putLine_74 (dr_X3_putLine rd) (d_X3_putLine_24 (dr_X3_putLine rd) f) 77 g x3 3 (85 + 2 * D F) x7 x8 (nk S4 (g + 3) (g + 5) F) t0 S4 = some o → LOo g T (D F) S o.2 (w ++ (gpW w ++ (mvT st T F fr ++ (vsT st T m os ++ (tlW T F ++ lnP st T m (rkB T F || !os.isEmpty) F))))) := fun t0 ht hh => by
        have key : ∀ x10 : Int32, chn (nF S4 3 (g + 3) (g + 5)) os x10.toInt → d_X3_putLine_99 (dr_X3_putLine rd) (d_X3_putLine_24 (dr_X3_putLine rd) f) mFuel 77 g x3 3 (85 + 2 * D F) t0 x8 (nk S4 (g + 3) (g + 5) F) x10 0 S4 = some o → LOo g T (D F) S o.2 (w ++ (gpW w ++ (mvT st T F fr ++ (vsT st T m os ++ (tlW T F ++ lnP st T m (rkB T F || !os.isEmpty) F))))) := fun x10 hc10 hh => by
          have q := cl_99 (m := m) (d := D F) hg hw hl d6 F1 F2 h3 ⟨h8.1, by omega⟩ (rec := dr_X3_putLine rd) (self24 := d_X3_putLine_24 (dr_X3_putLine rd) f) (fun y v z S w fr hC tr hr bo hgp hv hy hz hlen hq => by
            have eg : (if tL T F = [] then [] else gpW w) = tlW T F := by
              unfold tlW
              rw [hgp]
            have q := ih F F2 (by omega) rd f x3 y v z S w fr o hv h3 hy ⟨by omega, by omega⟩ hC tr hr bo (by rw [eg]; exact hlen) hq
            rw [eg] at q
            exact q) os mFuel t0 x10 0 S4 (w ++ (gpW w ++ mvT st T F fr)) (rkB T F) hod (fun j hj x v S w o' a1 a2 a3 a4 a5 a6 a7 a8 a9 => hrec j hj x v S w o' a1 a2 a3 a4 a5 (by rw [eP] at a6; exact a6) a7 a8 a9) hc10 hos (by decide) (by rw [z0]; omega) ht L4.1.1 L4.1.2 L4.2.1 bo4 gm (by simp only [List.length_append]; omega) hh
          have q2 := lo_t L4 q
          simp only [List.append_assoc] at q2 ⊢
          exact q2
        unfold d_X3_putLine_74 d_X3_putLine_94 at hh
        obtain ⟨-, hh⟩ := m_chkE hh
        obtain ⟨⟨y1, S5⟩, h_5, hh⟩ := m_calE hh
        obtain ⟨e5, q5⟩ := p_goesOn L4.1.1 hg hw L4.1.2 hx F1 F2 h_5
        obtain ⟨-, hh⟩ := m_chkE hh
        dsimp only at e5 q5 hh
        rw [e5] at hh
        rw [eP] at q5
        rcases m_ifE hh with ⟨d, hh⟩ | ⟨d, hh⟩
        · have no : hdC T p ≠ (F : Int) := by
            rcases q5 with ⟨e, -⟩ | ⟨-, e⟩
            · rw [d] at e
              exact absurd e (by decide)
            · exact e
          rcases hgo with ⟨e, -⟩ | ⟨-, e⟩
          · exact absurd e no
          · refine key (-1) ?_ hh
            rw [e]
            rfl
        · have yes : hdC T p = (F : Int) := by
            rcases q5 with ⟨-, e⟩ | ⟨e, -⟩
            · exact e
            · exact absurd (i32_of e) d
          obtain ⟨-, hh⟩ := m_chkE hh
          rcases hgo with ⟨-, e⟩ | ⟨e, -⟩
          · refine key _ ?_ hh
            rw [← nF_fr hC hg L4.2.2] at e
            exact e
          · exact absurd yes e
      have lr : rkB T F = true ↔ tR T F ≠ [] := by
        unfold rkB
        cases tR T F with
        | nil => exact ⟨fun e => (by cases e), fun e => absurd rfl e⟩
        | cons a l => exact ⟨fun _ e => (by cases e), fun _ => rfl⟩
      rcases m_ifE hf with ⟨d, hf⟩ | ⟨d, hf⟩
      · replace d := ti_leP (a := y8) (b := (0 : Int32)) d rfl z0
        have e0 : tR T F = [] := List.length_eq_zero_iff.1 (by omega)
        exact go 0 (by rw [if_neg (fun e => lr.1 e e0)]; rfl) hf
      · replace d := ti_leN (a := y8) (b := (0 : Int32)) d rfl z0
        have e0 : tR T F ≠ [] := fun e => by
          rw [e] at t8
          have t8 : y8.toInt = 0 := t8
          omega
        exact go 1 (by rw [if_pos (lr.2 e0)]; rfl) hf
    cases f with
    | zero => cases hf
    | succ f =>
      have hf : d_X3_putLine_24s (dr_X3_putLine rd) (d_X3_putLine_24 (dr_X3_putLine rd) f) 77 g x3 3 (85 + 2 * D p) x6 x7 x8 S = some o := hf
      have hLp := tr.2.2.1 p hp
      cases hL : tL T p with
      | nil =>
        have hd : hdC T p = -1 := hdC_n.2 hL
        rw [if_pos rfl, ln_n hL, List.append_nil, List.append_nil]
        unfold d_X3_putLine_24s d_X3_putLine_206 at hf
        have fin : (some (0, S) : Option (Int32 × ZS)) = some o → LOo g T (D p) S o.2 w := fun hh => by
          have eo := (Option.some.inj hh).symm
          rw [eo]
          exact ⟨⟨hC, tr⟩, hr, fr_0⟩
        rcases m_ifE hf with ⟨-, hf⟩ | ⟨-, hf⟩
        · exact fin hf
        rcases m_ifE hf with ⟨-, hf⟩ | ⟨dn, -⟩
        · exact fin hf
        · exact absurd (i32_of (hx.trans hd)) dn
      | cons F os =>
        rw [hL] at hlen
        rw [if_neg (by simp), ln_c hL] at hlen ⊢
        rw [hL] at hLp
        have hmem : ∀ j ∈ F :: os, 1 ≤ j ∧ j ≤ tn T ∧ p < j ∧ (tP T j).toNat = p := fun j hj => by
          have q := (hLp.2.2 j).1 hj
          have q2 := (tr.2.2.2 j q.2.1).1.1
          have q3 := (hw.2.1 j q.1 q.2.1).1
          have q4 : tP T j = (p : Int) := by rw [← q2]; exact q.2.2
          exact ⟨q.1, q.2.1, by omega, by omega⟩
        have hF := hmem F List.mem_cons_self
        have hdF : hdC T p = (F : Int) := hd_cons hL
        have dF : D F = D p := by
          have q := hD.2.1 F hF.1 hF.2.1
          rw [hF.2.2.2, if_pos hdF] at q
          exact q
        have hll := chn_len tr.2.2.1 hp
        rw [hL] at hll
        have hll : os.length + 1 ≤ tn T := hll
        have dO : ∀ j ∈ os, hdC T p ≠ (j : Int) ∧ D j = D p + 1 ∧ D p + 1 ≤ 6 := fun j hj => by
          have hjm := hmem j (List.mem_cons_of_mem _ hj)
          have ne : hdC T p ≠ (j : Int) := fun e => by
            rw [hdF] at e
            have e : F = j := by omega
            exact (List.nodup_cons.mp hLp.2.1).1 (by rw [e]; exact hj)
          have q := hD.2.1 j hjm.1 hjm.2.1
          rw [hjm.2.2.2, if_neg ne] at q
          have q6 := hD.2.2 j hjm.2.1
          exact ⟨ne, q, by omega⟩
        rw [← dF]
        refine step rd f F os x3 x6 x7 x8 S w fr o hF.1 hF.2.1 hF.2.2.1 hF.2.2.2 (by rw [hx, hdF]) (by rw [dF]; exact h3) h6 ⟨h8.1, by omega⟩ (Or.inl ⟨hdF, hLp.1.2⟩) (fun j hj => ⟨(hmem j (List.mem_cons_of_mem _ hj)).1, (hmem j (List.mem_cons_of_mem _ hj)).2.1⟩) (by omega) (fun hne => by
          cases os with
          | nil => exact absurd rfl hne
          | cons j os => rw [dF]; exact (dO j List.mem_cons_self).2.2) (fun j hj x v S w o' hxj hv hC tr hr bo hgp hlen hq => ?_) hC tr hr (by rw [dF]; exact bo) hlen (by rw [dF]; exact hf)
        · have hjm := hmem j (List.mem_cons_of_mem _ hj)
          obtain ⟨dj1, dj2, dj3⟩ := dO j hj
          rw [dF] at hv bo ⊢
          cases rd with
          | zero => cases hq
          | succ rd =>
            have hq : d_X3_putLine_0 (dr_X3_putLine rd) 77 g x v 3 S = some o' := hq
            unfold d_X3_putLine_0 at hq
            have X := hC.2.2.1
            rcases m_ifE hq with ⟨-, hq⟩ | ⟨dn, -⟩
            rotate_left
            · replace dn := ti_leN (a := v) (b := (6 : Int32)) dn rfl z6
              omega
            obtain ⟨-, hq⟩ := m_chkE hq
            replace hq := m_calY hq (show zP S 1 77 = some 84 from fx_p X (by decide))
            obtain ⟨-, hq⟩ := m_chkE hq
            obtain ⟨-, hq⟩ := m_chkE hq
            rw [cl_n (n := D p + 1) (by omega)] at hq
            replace hq := m_calY hq (fx_b X dj3).2.2.2
            have hq : d_X3_putLine_24 (dr_X3_putLine rd) mFuel 77 g v 3 (85 + 2 * (D p + 1)) 1 x 0 S = some o' := hq
            have eb : (rkB T j || !([] : List Nat).isEmpty) = rkB T j := by cases rkB T j <;> rfl
            have ev : vsT st T m [] = [] := rfl
            have et : w ++ (gpW w ++ (mvT st T j true ++ (vsT st T m [] ++ (tlW T j ++ lnP st T m (rkB T j || !([] : List Nat).isEmpty) j)))) = w ++ vrT st T m j := by
              rw [hgp, eb, ev]
              rfl
            have st8 : ∀ f : Nat, d_X3_putLine_24 (dr_X3_putLine rd) f 77 g v 3 (85 + 2 * (D p + 1)) 1 x 0 S = some o' → LOo g T (D p + 1) S o'.2 (w ++ vrT st T m j) := fun f hq => by
              cases f with
              | zero => cases hq
              | succ f =>
                have q := step rd f j [] v 1 x 0 S w true o' hjm.1 hjm.2.1 hjm.2.2.1 hjm.2.2.2 hxj (by rw [dj2]; omega) rfl ⟨by decide, by rw [z0]; omega⟩ (Or.inr ⟨dj1, rfl⟩) (fun i hi => by cases hi) (by decide) (fun e => absurd rfl e) (fun i hi => by cases hi) hC tr hr (by rw [dj2]; exact bo) (by rw [et]; exact hlen) (by rw [dj2]; exact hq)
                rw [et, dj2] at q
                exact q
            exact st8 mFuel hq
end WCL
