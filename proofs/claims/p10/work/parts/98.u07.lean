section ADD
variable {S S' : ZS} {g g' c k p : Nat} {I I' : Nat → Int32} {A A' : Nat → Nat → Int32} {L : List (List Int × List Int)} {st P : PO} {T T' : TRa} {r v : Int} {x1 x2 x3 : Int32} {o : Int32 × ZS} {o2 : Int32 × MS} {D : Nat → Nat}
theorem ch_in {M : Nat → Int} {m : Int} : ∀ l : List Nat, chL M m l = -1 ∨ ∃ k ∈ l, chL M m l = (k : Int) ∧ M k = m
  | [] => Or.inl rfl
  | k :: l => by
    by_cases e : M k = m
    · exact Or.inr ⟨k, List.mem_cons_self, if_pos e, e⟩
    · have q : chL M m (k :: l) = chL M m l := if_neg e
      rw [q]
      rcases ch_in l with h | ⟨j, hj, h1, h2⟩
      · exact Or.inl h
      · exact Or.inr ⟨j, List.mem_cons_of_mem _ hj, h1, h2⟩
/-- is a move legal: the reference -/
theorem vi_4 (hI : TJ I) : ∀ (n : Nat) (x2 x3 : Int32), (0 ≤ x3.toInt ∧ x3.toInt ≤ (I 33).toInt) → (x2.toInt = 0 ∨ x2.toInt = 1) → (x2.toInt = 1 ↔ ∃ k : Nat, (k : Int) < x3.toInt ∧ (A 32 k).toInt = x1.toInt) → f_isLegal_4 n x1 x2 x3 I A = some o2 → o2.2 = (I, A) ∧ (o2.1.toInt = 0 ∨ o2.1.toInt = 1) ∧ (o2.1.toInt = 1 ↔ ∃ k : Nat, (k : Int) < (I 33).toInt ∧ (A 32 k).toInt = x1.toInt) := by
  have b33 : 0 ≤ (I 33).toInt ∧ (I 33).toInt ≤ 2048 := hI 33
  have z0 : (0 : Int32).toInt = 0 := rfl
  have z1 : (1 : Int32).toInt = 1 := rfl
  intro n
  induction n with
  | zero => intro x2 x3 _ _ _ hf; cases hf
  | succ n ih =>
    intro x2 x3 hx h2 hq hf
    have hf : f_isLegal_4s (f_isLegal_4 n) x1 x2 x3 I A = some o2 := hf
    have n31 : x3.toInt < (I 33).toInt → ∀ t0 : Int32, (t0.toInt = 0 ∨ t0.toInt = 1) → (t0.toInt = 1 ↔ ∃ k : Nat, (k : Int) < x3.toInt + 1 ∧ (A 32 k).toInt = x1.toInt) → f_isLegal_31 (f_isLegal_4 n) x1 x3 t0 I A = some o2 → o2.2 = (I, A) ∧ (o2.1.toInt = 0 ∨ o2.1.toInt = 1) ∧ (o2.1.toInt = 1 ↔ ∃ k : Nat, (k : Int) < (I 33).toInt ∧ (A 32 k).toInt = x1.toInt) := fun hlt t0 ht hte hh => by
      unfold f_isLegal_31 at hh
      obtain ⟨v1, e1, hh⟩ := m_bndE hh
      have t1 : v1.toInt = x3.toInt + 1 := ti_add e1 rfl z1 (by omega) (by omega)
      exact ih t0 v1 (by omega) ht (by rw [t1]; exact hte) hh
    unfold f_isLegal_4s at hf
    rcases m_ifE hf with ⟨d, hf⟩ | ⟨d, hf⟩
    · replace d := ti_leP (a := I 33) (b := x3) d rfl rfl
      obtain ⟨-, hf⟩ := m_chkE hf
      cases hf
      have e : x3.toInt = (I 33).toInt := by omega
      rw [e] at hq
      exact ⟨rfl, h2, hq⟩
    · replace d := ti_leN (a := I 33) (b := x3) d rfl rfl
      rcases m_ifE hf with ⟨d2, hf⟩ | ⟨d2, hf⟩
      · have d2' := ti_eqP (a := x2) (b := (0 : Int32)) d2 rfl z0
        obtain ⟨-, hf⟩ := m_chkE hf
        obtain ⟨v1, e1, hf⟩ := m_bndE hf
        rw [cl_n (n := x3.toInt.toNat) (by omega)] at e1
        rcases m_ifE hf with ⟨d3, hf⟩ | ⟨d3, hf⟩
        · unfold f_isLegal_26 at hf
          refine n31 (by omega) 1 (Or.inr rfl) ⟨fun _ => ⟨x3.toInt.toNat, by omega, by rw [← e1, d3]⟩, fun _ => rfl⟩ hf
        · refine n31 (by omega) 0 (Or.inl rfl) ⟨fun h => absurd h (by decide), fun ⟨k, k1, k2⟩ => ?_⟩ hf
          by_cases ek : (k : Int) < x3.toInt
          · have := hq.2 ⟨k, ek, k2⟩
            omega
          · have : k = x3.toInt.toNat := by omega
            rw [this, ← e1] at k2
            exact absurd (Int32.toInt_inj.1 k2) d3
      · have d2' := ti_eqN (a := x2) (b := (0 : Int32)) d2 rfl z0
        obtain ⟨k, k1, k2⟩ := hq.1 (by omega)
        unfold f_isLegal_26 at hf
        exact n31 (by omega) 1 (Or.inr rfl) ⟨fun _ => ⟨k, by omega, k2⟩, fun _ => rfl⟩ hf
theorem v_isLegal (hI : TJ I) (hm : MVs I A P) (hf : f_isLegal x1 I A = some o2) : o2.2 = (I, A) ∧ (o2.1.toInt = 0 ∨ o2.1.toInt = 1) ∧ (o2.1.toInt = 1 ↔ ∃ key, key < 32768 ∧ LR (om P) (osd P) (ort P) (ops P) (oko P) key ∧ mvk key = x1.toInt) := by
  have hf : f_isLegal_0 x1 I A = some o2 := hf
  have b33 : 0 ≤ (I 33).toInt ∧ (I 33).toInt ≤ 2048 := hI 33
  have z0 : (0 : Int32).toInt = 0 := rfl
  unfold f_isLegal_0 at hf
  obtain ⟨a1, a2, a3⟩ := vi_4 hI mFuel 0 0 ⟨by decide, by omega⟩ (Or.inl rfl) ⟨fun h => absurd h (by decide), fun ⟨k, k1, _⟩ => by rw [z0] at k1; omega⟩ hf
  refine ⟨a1, a2, a3.trans ⟨fun ⟨k, k1, k2⟩ => ?_, fun ⟨key, k1, k2, k3⟩ => ?_⟩⟩
  · obtain ⟨key, q1, q2, q3⟩ := cnt_sur (P := LR (om P) (osd P) (ort P) (ops P) (oko P)) (k := k) (N := 32768) (by have := hm.1; omega)
    refine ⟨key, q1, q2, ?_⟩
    have := hm.2 key q1 q2
    rw [q3] at this
    rw [← this]
    exact k2
  · refine ⟨cnt (LR (om P) (osd P) (ort P) (ops P) (oko P)) key, ?_, ?_⟩
    · have := cnt_lt k2 k1
      have := hm.1
      omega
    · rw [← k3]
      exact hm.2 key k1 k2
/-- the class's board as the rules want it -/
theorem bx_of {x0 tb b : Nat} (hC : CG S) (k7 : zK S x0 = 7) (p0 : zP S 0 x0 = some tb) (kt : zK S tb = 0) (pt : zP S 0 tb = some (tb + 1)) (hne : b ≠ tb) (bo : BO S b P) (pg : PGd P) (hn : 0 ≤ onb P ∧ onb P ≤ 99999) : BX S x0 tb b (om P) (osd P) (ort P) (ops P) (okw P) (okb P) := by
  obtain ⟨⟨b1, b2, b3⟩, b4, b5, b6, b7, b8, b9, b10⟩ := bo
  have s := pg.1
  exact ⟨hC.1, ⟨k7, p0⟩, ⟨kt, pt⟩, ⟨b1, b2⟩, hne, ⟨by omega, by omega⟩, b4, b5, b6, b7, b8, b9⟩
/-- is a move legal: the class -/
theorem k_isLegal (hC : CG S) (bo : BO S 107 P) (pg : PGd P) (hn : 0 ≤ onb P ∧ onb P ≤ 99999) (hf : f_X7_isLegal 4 107 x1 S = some o) : FR (fun a => a = 5 ∨ a = 6) S o.2 ∧ CG o.2 ∧ (o.1.toInt = 0 ∨ o.1.toInt = 1) ∧ (o.1.toInt = 1 ↔ ∃ key, key < 32768 ∧ LR (om P) (osd P) (ort P) (ops P) (oko P) key ∧ mvk key = x1.toInt) := by
  obtain ⟨y, S'⟩ := o
  have k5 : zK S 5 = 0 := fx_k hC.2.2.1 (by decide) (by decide)
  have k6 : zK S 6 = 14 := fx_k hC.2.2.1 (by decide) (by decide)
  have B := bx_of (x0 := 4) (tb := 5) hC (fx_k hC.2.2.1 (by decide) (by decide)) (fx_p hC.2.2.1 (by decide)) k5 (fx_p hC.2.2.1 (by decide)) (by decide) bo pg hn
  obtain ⟨a1, a2, a3, a4⟩ := p_isLegal (ko := oko P) B pg rfl hf
  have F : FR (fun a => a = 5 ∨ a = 6) S S' := fr_b hC.1 k6 a2
  have Z : TZ S' := tz_k hC.1 hC.2.1 F (fun a _ e => by
    rcases e with e | e
    · rw [e, k5]; exact ⟨by decide, by decide, fun h => absurd h (by decide)⟩
    · rw [e, k6]; exact ⟨by decide, by decide, fun h => absurd h (by decide)⟩)
  exact ⟨F, cg_w hC a1.1 Z F (by decide) (by decide) (by decide) (by decide), a3, a4⟩
/-- the class's last steps of add -/
theorem c_add95 {q : (Nat × Int32) × ZS} (hC : CG S) (hg : g = 35 ∨ g = 99) (p7 : zP S 7 1 = some g) (gc : GMc S g L st T r) (bo : BO S 107 P) (pg : PGd P) (hx : LGo P x1.toInt) (hn : 0 ≤ onb P ∧ onb P ≤ 99999) (h2 : 0 ≤ x2.toInt ∧ x2.toInt ≤ 300) (hf : d_X11_add_95 1 x1 x2 S = some q) : q.1 = (0, x2) ∧ zP q.2 7 1 = some g ∧ GMc q.2 g L st T r ∧ zI q.2 8 1 = x2 ∧ BO q.2 107 (afO P x1.toInt) := by
  have k1 : zK S 1 = 11 := fx_k hC.2.2.1 (by decide) (by decide)
  unfold d_X11_add_95 at hf
  obtain ⟨-, hf⟩ := m_chkE hf
  obtain ⟨S1, e1, hf⟩ := m_bndE hf
  have F1 : FR (fun a => a = 1) S S1 := fr_I e1
  have T1 : ZT S1 := by rw [e1]; exact zt_I hC.1 k1 (by decide) (show (0 : Int) ≤ x2.toInt ∧ x2.toInt ≤ (300 : Int) by omega)
  have Z1 : TZ S1 := tz_k hC.1 hC.2.1 F1 (fun a _ e => by
    rw [e, k1]
    exact ⟨by decide, by decide, fun h => absurd h (by decide)⟩)
  have C1 : CG S1 := cg_w hC T1 Z1 F1 (by decide) (by decide) (by decide) (by decide)
  have G1 : GMc S1 g L st T r := gmc_fr hC hg gc F1 (by omega)
  have bo1 : BO S1 107 P := bo_fr bo F1 (by decide) (by decide)
  obtain ⟨-, hf⟩ := m_chkE hf
  replace hf := m_calY hf (show zP S1 9 1 = some 107 from fx_p C1.2.2.1 (by decide))
  obtain ⟨-, hf⟩ := m_chkE hf
  obtain ⟨⟨y3, S3⟩, h_3, hf⟩ := m_calE hf
  obtain ⟨-, hf⟩ := m_chkE hf
  have e : q = ((0, x2), S3) := (Option.some.inj hf).symm
  obtain ⟨b1, b2, b3⟩ := bo_play T1 bo1 pg hx hn h_3
  dsimp only at b1 b2 b3
  have k11 : zK S1 1 = 11 := fx_k C1.2.2.1 (by decide) (by decide)
  have ee := fr_e b2 (a := 1) (by rw [k11]; decide) (by decide)
  rw [e]
  refine ⟨rfl, ?_, gmc_fr C1 hg G1 b2 (by omega), ?_, b3⟩
  · show zP S3 7 1 = some g
    rw [ee.2.2.2.1 7, e1]; exact p7
  · show zI S3 8 1 = x2
    rw [ee.2.2.1 8, e1]; exact zI_self _ _ _ _
/-- the reference's last steps of add -/
theorem v_add137 (hI : TJ I) (hA : TK A) (h5b : 0 ≤ (I 5).toInt ∧ (I 5).toInt ≤ 1) (gr : GMr A (I 5).toInt.toNat L st T r) (hk : x2.toInt = (k : Int)) (hkt : k ≤ tn T) (hf : f_add_137 x2 I A = some o2) : o2.1 = x2 ∧ o2.2.1 0 = I 0 ∧ o2.2.1 6 = x2 ∧ GMr o2.2.2 (o2.2.1 5).toInt.toNat L st T r ∧ QS o2.2.1 o2.2.2 (posT st T k) := by
  have h3 : tn T ≤ 300 := gr.1.2.1.1
  unfold f_add_137 at hf
  obtain ⟨I1, e1, hf⟩ := m_bndE hf
  have t1 : TJ I1 := by rw [e1]; exact tj_u hI (show (0 : Int) ≤ x2.toInt by omega) (show x2.toInt ≤ (300 : Int) by omega)
  have j6 : I1 6 = x2 := by rw [e1, upd_self]
  have j5 : I1 5 = I 5 := by rw [e1, upd_ne (by decide)]
  have j0 : I1 0 = I 0 := by rw [e1, upd_ne (by decide)]
  obtain ⟨⟨r2, Ic2, Ac2⟩, h_2, hf⟩ := m_clE hf
  have e : o2 = (x2, (Ic2, Ac2)) := (Option.some.inj hf).symm
  obtain ⟨qn, pl⟩ := qs_place (k := k) t1 hA (by rw [j5]; exact h5b) (by rw [j5]; exact gr) (by rw [j6]; exact hk) hkt h_2
  dsimp only at qn pl
  obtain ⟨pA, pl5, pl6, pl0⟩ := plf_g pl
  rw [e]
  refine ⟨rfl, pl0.trans j0, pl6.trans j6, ?_, qn⟩
  show GMr Ac2 (Ic2 5).toInt.toNat L st T r
  rw [pl5, j5]
  exact gmr_7 (by omega) gr pA
/-- add on both sides -/
theorem fn_add {o : (Nat × Int32) × ZS} (hC : CG S) (hR : RIt I A) (h : FM I A S) (hs : SM o2.2.1 o2.2.2 o.2) (h2 : f_add x1 I A = some o2) (ho : d_X11_add 1 x1 S = some o) : FM o2.2.1 o2.2.2 o.2 ∧ ((o.1.1 = 0 ∧ o2.2.1 0 = 0 ∧ o.1.2 = o2.1) ∨ (o.1.1 = 1 ∧ o2.2.1 0 = 1) ∨ (o.1.1 = 3 ∧ o2.2.1 0 = 2)) := by
  have hF0 := h
  have hI := hR.1
  have hA := hR.2.1
  have h5b : 0 ≤ (I 5).toInt ∧ (I 5).toInt ≤ 1 := hI 5
  obtain ⟨hm, g, L, st, T, r, c, w⟩ := h
  obtain ⟨⟨p7, gc⟩, gr, ⟨c1, c2, c3⟩, bo, qs⟩ := id w
  obtain ⟨hw, hl, -, h3⟩ := fw_w w
  obtain ⟨pg, pn1, pn2⟩ := fw_pg w
  obtain ⟨g', hGG⟩ := gg_7 hm.1 p7
  have hgg := gg_g hGG
  obtain ⟨hb, L', D, hl', hd⟩ := hR.2.2.1
  have ek : aK A (I 5).toInt.toNat = tn T := gr.1.1.1.1
  rw [ek] at hd
  have hD := D_dpx hw gr.1.1 hd
  have z0 : (0 : Int32).toInt = 0 := rfl
  have z6 : (6 : Int32).toInt = 6 := rfl
  have z300 : (300 : Int32).toInt = 300 := rfl
  have zm : (-1 : Int32).toInt = -1 := rfl
  have hf : d_X11_add_0 1 x1 S = some o := ho
  have hr : f_add_0 x1 I A = some o2 := h2
  unfold d_X11_add_0 at hf
  obtain ⟨-, hf⟩ := m_chkE hf
  replace hf := m_calY hf (show zP S 2 1 = some 4 from fx_p hC.2.2.1 (by decide))
  obtain ⟨-, hf⟩ := m_chkE hf
  replace hf := m_calY hf (show zP S 9 1 = some 107 from fx_p hC.2.2.1 (by decide))
  obtain ⟨-, hf⟩ := m_chkE hf
  obtain ⟨⟨y3, S3⟩, h_3, hf⟩ := m_calE hf
  obtain ⟨-, hf⟩ := m_chkE hf
  obtain ⟨F3, C3, q3, l3⟩ := k_isLegal hC bo pg ⟨by omega, by omega⟩ h_3
  dsimp only at F3 C3 q3 l3 hf
  have K3 : KE S S3 := ke_fr F3 (fun a hk => by unfold KP9 at hk; omega)
  have M3 : SC S3 := sc_fr hm.1 (cg_x C3) F3
  have w3 := fgm_ke hC hm.1 w K3
  obtain ⟨⟨p73, gc3⟩, -, ⟨c13, -, -⟩, bo3, -⟩ := id w3
  unfold f_add_0 at hr
  obtain ⟨⟨r1, Ic1, Ac1⟩, h_r1, hr⟩ := m_clE hr
  obtain ⟨e1, q1, l1⟩ := v_isLegal hI qs.2 h_r1
  have i1 : Ic1 = I := congrArg Prod.fst e1
  have a1 : Ac1 = A := congrArg Prod.snd e1
  dsimp only at q1 l1 hr
  rw [i1, a1] at hr
  -- a call that is refused
  have thr : ∀ {I1 : Nat → Int32} {S1 : ZS} {kk : Nat}, o = ((kk, 0), zsQ S1) → KE S S1 → o2.2.1 = I1 → o2.2.2 = A → (∀ j, j ≠ 0 → I1 j = I j) → FM o2.2.1 o2.2.2 o.2 := fun {I1 S1 kk} eo kS eI eA jj => by
    rw [eo, eI, eA] at hs
    rw [eo, eI, eA]
    exact fm_ke hC h5b hF0 hs (ke_q kS) (jj 5 (by decide)) (jj 6 (by decide)) (fun _ _ _ => rfl) (fun _ _ _ _ _ _ w => qs_e w.2.2.2.2 rfl rfl (fun j hj => jj j (by omega)))
  rcases m_ifE hf with ⟨d, hf⟩ | ⟨d, hf⟩
  · have eo : o = ((1, 0), zsQ S3) := (Option.some.inj hf).symm
    have nl : ¬ ∃ key, key < 32768 ∧ LR (om (posT st T c)) (osd (posT st T c)) (ort (posT st T c)) (ops (posT st T c)) (oko (posT st T c)) key ∧ mvk key = x1.toInt := fun hh => by
      have := l3.2 hh
      rw [d] at this
      exact absurd this (by decide)
    rcases m_ifE hr with ⟨d2, hr⟩ | ⟨d2, hr⟩
    · unfold f_add_14 at hr
      obtain ⟨I1, f1, hr⟩ := m_bndE hr
      have j0 : I1 0 = 1 := by rw [f1, upd_self]
      rcases m_ifE hr with ⟨d3, hr⟩ | ⟨d3, hr⟩
      · rw [j0] at d3
        exact absurd d3 (by decide)
      · have e2 : o2 = (0, (I1, A)) := (Option.some.inj hr).symm
        refine ⟨thr (I1 := I1) eo K3 (by rw [e2]) (by rw [e2]) (fun j hj => by rw [f1, upd_ne hj]), Or.inr (Or.inl ⟨by rw [eo], by rw [e2]; exact j0⟩)⟩
    · rcases q1 with q | q
      · exact absurd (i32_of q) d2
      · exact absurd (l1.1 q) nl
  · have hlk : ∃ key, key < 32768 ∧ LR (om (posT st T c)) (osd (posT st T c)) (ort (posT st T c)) (ops (posT st T c)) (oko (posT st T c)) key ∧ mvk key = x1.toInt := by
      rcases q3 with q | q
      · exact absurd (i32_of q) d
      · exact l3.1 q
    have LG : LGo (posT st T c) x1.toInt := by
      obtain ⟨key, k1, k2, k3⟩ := hlk
      rw [← k3]
      exact (lg_key pg rfl k1 k2).1
    have xb : 0 ≤ x1.toInt ∧ x1.toInt ≤ 24575 := LG.1
    rcases m_ifE hr with ⟨d2, hr⟩ | ⟨d2, hr⟩
    · have := l1.2 hlk
      rw [d2] at this
      exact absurd this (by decide)
    · unfold f_add_14 at hr
      obtain ⟨I1, f1, hr⟩ := m_bndE hr
      have j0 : I1 0 = 0 := by rw [f1, upd_self]
      have jj : ∀ j, j ≠ 0 → I1 j = I j := fun j hj => by rw [f1, upd_ne hj]
      have hI1 : TJ I1 := by rw [f1]; exact tj_u hI (show (0 : Int) ≤ (0 : Int32).toInt by decide) (show (0 : Int32).toInt ≤ (2 : Int) by decide)
      have i5 : I1 5 = I 5 := jj 5 (by decide)
      have i6 : I1 6 = I 6 := jj 6 (by decide)
      rcases m_ifE hr with ⟨-, hr⟩ | ⟨d3, hr⟩
      · obtain ⟨⟨r2, Ic2, Ac2⟩, h_r2, hr⟩ := m_clE hr
        obtain ⟨e2, q2⟩ := v_childWith (g := (I 5).toInt.toNat) (k := c) (by omega) h3 gr.1.1 (by rw [i5]; omega) (by rw [i6]; exact c2) c3 h_r2
        have i2 : Ic2 = I1 := congrArg Prod.fst e2
        have a2 : Ac2 = A := congrArg Prod.snd e2
        dsimp only at q2 hr
        rw [i2, a2] at hr
        obtain ⟨-, hf⟩ := m_chkE hf
        replace hf := m_calY hf p73
        obtain ⟨-, hf⟩ := m_chkE hf
        obtain ⟨-, hf⟩ := m_chkE hf
        obtain ⟨⟨y5, S5⟩, h_5, hf⟩ := m_calE hf
        obtain ⟨-, hf⟩ := m_chkE hf
        have q5 := p_childWith C3 hgg gc3.1.1 h3 c13 c3 h_5
        have e5 : S5 = S3 := ro_X1_childWith h_5
        dsimp only at q5 hf
        rw [e5] at hf
        have eq25 : y5 = r2 := Int32.toInt_inj.1 (by rw [q5, q2])
        rcases ch_in (M := tM T) (m := x1.toInt) (tL T c) with hch | ⟨k, km, hch, kM⟩
        · -- a new node, if there is room
          rcases m_ifE hf with ⟨d5, hf⟩ | ⟨d5, hf⟩
          · rcases m_ifE hr with ⟨d6, hr⟩ | ⟨d6, hr⟩
            · replace d6 := ti_leP (a := (0 : Int32)) (b := r2) d6 z0 rfl
              omega
            · -- the reference
              obtain ⟨⟨r3, Ic3, Ac3⟩, h_r3, hr⟩ := m_clE hr
              obtain ⟨b1, b2, b3⟩ := ok_of (t_deepOf (gg := (I 5).toInt.toNat) (nn := tn T) (dd := D) (tt := (D c : Int)) hI1 hA (by rw [i5]; omega) (by rw [i6]; omega) (trr_b hw gr.1.1) (by rw [i5]; omega) (by rw [i6]; omega) hd (by rw [i6, c2]; rfl)) h_r3
              have i3 : Ic3 = I1 := congrArg Prod.fst b1
              have a3 : Ac3 = A := congrArg Prod.snd b1
              dsimp only at b2 b3 hr
              rw [i3, a3] at hr
              obtain ⟨v4, f4, hr⟩ := m_bndE hr
              obtain ⟨v5, f5, hr⟩ := m_bndE hr
              rw [i5] at f4
              rw [i6] at f5
              have t4 : v4.toInt = 301 * (I 5).toInt := ti_mul f4 (show (301 : Int32).toInt = 301 from rfl) rfl (by omega) (by omega)
              have t5 : v5.toInt = v4.toInt + (I 6).toInt := ti_add f5 rfl rfl (by omega) (by omega)
              obtain ⟨-, hr⟩ := m_chkE hr
              obtain ⟨v6, f6, hr⟩ := m_bndE hr
              rw [cl_n (n := 301 * (I 5).toInt.toNat + c) (by omega)] at f6
              have t6 : v6.toInt = hdC T c := by rw [f6]; exact trr_hd gr.1.1 c3
              have hDc := hD c c3
              have no2 : f_add_106 x1 I1 A = some o2 → o2.2.1 = upd I1 0 2 ∧ o2.2.2 = A := fun hh => by
                unfold f_add_106 f_add_111 at hh
                obtain ⟨J1, g1, hh⟩ := m_bndE hh
                rcases m_ifE hh with ⟨dd, hh⟩ | ⟨-, hh⟩
                · rw [g1, upd_self] at dd
                  exact absurd dd (by decide)
                · have e9 := (Option.some.inj hh).symm
                  rw [e9]
                  exact ⟨g1, rfl⟩
              have full : ∀ {S9 : ZS}, S9 = S3 → d_X11_add_72 S9 = some o → f_add_106 x1 I1 A = some o2 → FM o2.2.1 o2.2.2 o.2 ∧ ((o.1.1 = 0 ∧ o2.2.1 0 = 0 ∧ o.1.2 = o2.1) ∨ (o.1.1 = 1 ∧ o2.2.1 0 = 1) ∨ (o.1.1 = 3 ∧ o2.2.1 0 = 2)) := fun {S9} es ha hb => by
                rw [es] at ha
                unfold d_X11_add_72 at ha
                have eo : o = ((3, 0), zsQ S3) := (Option.some.inj ha).symm
                obtain ⟨n1, n2⟩ := no2 hb
                refine ⟨thr eo K3 n1 n2 (fun j hj => by rw [upd_ne hj]; exact jj j hj), Or.inr (Or.inr ⟨by rw [eo], by rw [n1]; exact upd_self⟩)⟩
              have r82 : ∀ t0 : Int32, (t0.toInt = 0 ∨ t0.toInt = 1) → t0.toInt = (if tL T c = [] then 0 else 1) → f_add_82 x1 t0 r3 I1 A = some o2 → (tn T = 300 ∧ f_add_106 x1 I1 A = some o2) ∨ (tn T < 300 ∧ (dpx T (hdC T) c : Int) + (if tL T c = [] then 0 else 1) ≤ 6 ∧ f_add_111 x1 0 I1 A = some o2) ∨ (tn T < 300 ∧ 6 < (dpx T (hdC T) c : Int) + (if tL T c = [] then 0 else 1) ∧ f_add_106 x1 I1 A = some o2) := fun t0 ht hte hh => by
                unfold f_add_82 at hh
                obtain ⟨w1, g1, hh⟩ := m_bndE hh
                have s1 : w1.toInt = r3.toInt + t0.toInt := ti_add g1 rfl rfl (by omega) (by omega)
                obtain ⟨-, hh⟩ := m_chkE hh
                obtain ⟨w2, g2, hh⟩ := m_bndE hh
                rw [i5, cl_n (n := (I 5).toInt.toNat) (by omega)] at g2
                have s2 : w2.toInt = (tn T : Int) := by rw [g2]; exact aK_i hA gr.1.1
                rcases m_ifE hh with ⟨dd, hh⟩ | ⟨dd, hh⟩
                · replace dd := ti_eqP (a := w2) (b := (300 : Int32)) dd rfl z300
                  exact Or.inl ⟨by omega, hh⟩
                · replace dd := ti_eqN (a := w2) (b := (300 : Int32)) dd rfl z300
                  rcases m_ifE hh with ⟨de, hh⟩ | ⟨de, hh⟩
                  · replace de := ti_leP (a := w1) (b := (6 : Int32)) de rfl z6
                    exact Or.inr (Or.inl ⟨by omega, by omega, hh⟩)
                  · replace de := ti_leN (a := w1) (b := (6 : Int32)) de rfl z6
                    exact Or.inr (Or.inr ⟨by omega, by omega, hh⟩)
              have R : (tn T = 300 ∧ f_add_106 x1 I1 A = some o2) ∨ (tn T < 300 ∧ (dpx T (hdC T) c : Int) + (if tL T c = [] then 0 else 1) ≤ 6 ∧ f_add_111 x1 0 I1 A = some o2) ∨ (tn T < 300 ∧ 6 < (dpx T (hdC T) c : Int) + (if tL T c = [] then 0 else 1) ∧ f_add_106 x1 I1 A = some o2) := by
                rcases m_ifE hr with ⟨dd, hr⟩ | ⟨dd, hr⟩
                · replace dd := ti_ltP (a := v6) (b := (0 : Int32)) dd rfl z0
                  refine r82 0 (Or.inl rfl) ?_ hr
                  rw [if_pos]
                  · rfl
                  · apply Classical.byContradiction
                    intro hn
                    cases eL : tL T c with
                    | nil => exact hn eL
                    | cons x l =>
                      unfold hdC at t6
                      rw [eL] at t6
                      have t6 : v6.toInt = (x : Int) := t6
                      omega
                · replace dd := ti_ltN (a := v6) (b := (0 : Int32)) dd rfl z0
                  refine r82 1 (Or.inr rfl) ?_ hr
                  rw [if_neg]
                  · rfl
                  · intro hn
                    have := hdC_n.2 hn
                    omega
              -- the class
              obtain ⟨-, hf⟩ := m_chkE hf
              replace hf := m_calY hf p73
              obtain ⟨kg, hf⟩ := m_chkE hf
              have hn3 := (cn_le C3.1 kg).2
              rw [gc3.1.1.1] at hn3
              rcases m_ifE hf with ⟨d7, hf⟩ | ⟨d7, hf⟩
              · replace d7 := ti_leP (a := (300 : Int32)) (b := zI S3 3 g) d7 z300 rfl
                rcases R with ⟨-, R⟩ | ⟨R1, -⟩ | ⟨R1, -⟩
                · exact full rfl hf R
                · omega
                · omega
              · replace d7 := ti_leN (a := (300 : Int32)) (b := zI S3 3 g) d7 z300 rfl
                obtain ⟨-, hf⟩ := m_chkE hf
                replace hf := m_calY hf p73
                obtain ⟨-, hf⟩ := m_chkE hf
                obtain ⟨-, hf⟩ := m_chkE hf
                obtain ⟨⟨y8, S8⟩, h_8, hf⟩ := m_calE hf
                obtain ⟨-, hf⟩ := m_chkE hf
                obtain ⟨e8, q8⟩ := p_deepNext C3 hgg hw gc3.1.1 c13 c3 h_8
                dsimp only at e8 q8 hf
                rw [e8] at hf
                rcases m_ifE hf with ⟨d8, hf⟩ | ⟨d8, hf⟩
                · replace d8 := ti_leP (a := y8) (b := (6 : Int32)) d8 rfl z6
                  rcases R with ⟨R1, -⟩ | ⟨R1, R2, R3⟩ | ⟨R1, R2, -⟩
                  · omega
                  · obtain ⟨-, hf⟩ := m_chkE hf
                    replace hf := m_calY hf p73
                    obtain ⟨-, hf⟩ := m_chkE hf
                    obtain ⟨-, hf⟩ := m_chkE hf
                    obtain ⟨⟨y11, S12⟩, h_11, hf9⟩ := m_cal2E hf
                    rcases p_grow C3 hGG hw gc3.1.1 c13 c3 h_11 with ⟨-, -, gz⟩ | ⟨-, g1, g2, g3, g4, g5⟩
                    · omega
                    · dsimp only at g1 g2 g3 g4 g5
                      have TG : TGk S12 g L := tgk_grow C3.1 M3 hgg gc3.2.2.1 h_11
                      have k1 : zK S3 1 = 11 := fx_k C3.2.2.1 (by decide) (by decide)
                      have nt : ∀ a, a ≤ 108 → a ≠ g → a ≠ g + 3 → a ≠ g + 4 → a ≠ g + 5 → ¬ TCl S3 g a := fun a b1 b2 b3 b4 b5 => tc_no C3 hgg b1 b2 b3 b4 b5
                      have e1c := fr_e g4 (a := 1) (by rw [k1]; decide) (nt 1 (by decide) (by omega) (by omega) (by omega) (by omega))
                      have wt' := wt_gr (p := c) (m := x1.toInt) hw c3 (by omega) xb
                      have lt' := lt_gr (p := c) (m := x1.toInt) hw hl c3 LG
                      have G12 : GMc S12 g L st (grT T c x1.toInt) r := ⟨⟨g3, wt', lt'⟩, bo_fr gc3.2.1 g4 (nt _ (by omega) (by omega) (by omega) (by omega) (by omega)) (nt _ (by omega) (by omega) (by omega) (by omega) (by omega)), TG, gc3.2.2.2.1, by rw [g5 6 (by decide)]; exact gc3.2.2.2.2⟩
                      have B12 : BO S12 107 (posT st T c) := bo_fr bo3 g4 (nt _ (by decide) (by omega) (by omega) (by omega) (by omega)) (nt _ (by decide) (by omega) (by omega) (by omega) (by omega))
                      obtain ⟨x9, x10, x11, x12, x13⟩ := c_add95 g2 hgg ((e1c.2.2.2.1 7).trans p73) G12 B12 pg LG ⟨by omega, by omega⟩ (by rw [g1]; omega) hf9
                      -- the reference
                      unfold f_add_111 at R3
                      obtain ⟨J1, u1, R3⟩ := m_bndE R3
                      have m0 : J1 0 = 0 := by rw [u1, upd_self]
                      have mm : ∀ j, j ≠ 0 → J1 j = I j := fun j hj => by rw [u1, upd_ne hj]; exact jj j hj
                      have hJ1 : TJ J1 := by rw [u1]; exact tj_u hI1 (show (0 : Int) ≤ (0 : Int32).toInt by decide) (show (0 : Int32).toInt ≤ (2 : Int) by decide)
                      have m5 : J1 5 = I 5 := mm 5 (by decide)
                      have m6 : J1 6 = I 6 := mm 6 (by decide)
                      rcases m_ifE R3 with ⟨-, R3⟩ | ⟨du, -⟩
                      · obtain ⟨⟨r7, Ic7, Ac7⟩, h_r7, R3⟩ := m_clE R3
                        obtain ⟨n1, n2, n3, n4, n5, n6⟩ := v_append (g := (I 5).toInt.toNat) (p := c) (by omega) hA hw gr.1.1 (by rw [m5]; omega) (by rw [m6]; exact c2) c3 xb (by omega) h_r7
                        dsimp only at n1 n2 n3 n4 n5 n6 R3
                        rw [n2] at R3
                        have GR : GMr Ac7 (J1 5).toInt.toNat L st (grT T c x1.toInt) r := by
                          rw [m5]
                          refine ⟨⟨n4, wt', lt'⟩, ⟨?_, gr.2.1.2⟩, tgr_e gr.2.2.1 (fun j j1 j2 => n6 j (by omega)), by rw [n6 23 (by decide)]; exact gr.2.2.2⟩
                          have s1 := gr.2.1.1
                          unfold SPo at s1 ⊢
                          rw [n6 16 (by decide), n6 17 (by decide)]
                          exact s1
                        obtain ⟨v1', v2', v3', v4', v5'⟩ := v_add137 (k := tn T + 1) hJ1 n3 (by rw [m5]; exact h5b) GR n1 (Nat.le_refl _) R3
                        refine ⟨⟨hs, g, L, st, grT T c x1.toInt, r, tn T + 1, ⟨x10, x11⟩, v4', ⟨by rw [x12]; exact g1, by rw [v3']; exact n1, Nat.le_refl _⟩, ?_, v5'⟩, Or.inl ⟨by rw [x9], v2'.trans m0, ?_⟩⟩
                        · rw [posT_g1 hw c3 (by omega) xb]
                          exact x13
                        · rw [x9, v1']
                          exact Int32.toInt_inj.1 (g1.trans n1.symm)
                      · exact absurd (show J1 0 ≤ 0 by rw [m0]; decide) du
                  · omega
                · replace d8 := ti_leN (a := y8) (b := (6 : Int32)) d8 rfl z6
                  rcases R with ⟨R1, -⟩ | ⟨R1, R2, -⟩ | ⟨-, -, R3⟩
                  · omega
                  · omega
                  · exact full rfl hf R3
          · replace d5 := ti_eqN (a := y5) (b := (-1 : Int32)) d5 rfl zm
            omega
        · -- the child is there
          obtain ⟨ka, kb, kp⟩ := ((gr.1.1.2.1 c c3).2.2 k).1 km
          rw [(gr.1.1.2.2 k kb).1.1] at kp
          have pk : posT st T k = afO (posT st T c) x1.toInt := by
            rw [posT_s hw ka kb, kM, show (tP T k).toNat = c by omega]
          rcases m_ifE hf with ⟨d5, hf⟩ | ⟨d5, hf⟩
          · replace d5 := ti_eqP (a := y5) (b := (-1 : Int32)) d5 rfl zm
            omega
          · rcases m_ifE hr with ⟨d6, hr⟩ | ⟨d6, hr⟩
            · obtain ⟨x9, x10, x11, x12, x13⟩ := c_add95 C3 hgg p73 gc3 bo3 pg LG ⟨by omega, by omega⟩ (by omega) hf
              obtain ⟨v1', v2', v3', v4', v5'⟩ := v_add137 (k := k) hI1 hA (by rw [i5]; exact h5b) (by rw [i5]; exact gr) (by omega) kb hr
              refine ⟨⟨hs, g, L, st, T, r, k, ⟨x10, x11⟩, v4', ⟨by rw [x12]; omega, by rw [v3']; omega, kb⟩, by rw [pk]; exact x13, v5'⟩, Or.inl ⟨by rw [x9], v2'.trans j0, ?_⟩⟩
              rw [x9, v1']
              exact eq25
            · replace d6 := ti_leN (a := (0 : Int32)) (b := r2) d6 z0 rfl
              omega
      · exact absurd (show I1 0 ≤ 0 by rw [j0]; decide) d3
end ADD
