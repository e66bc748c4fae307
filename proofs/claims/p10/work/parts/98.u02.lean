/-- the reference stands at a position, with its moves -/
noncomputable def QS (I : Nat → Int32) (A : Nat → Nat → Int32) (P : PO) : Prop := (mR A = om P ∧ (I 25).toInt = osd P ∧ (I 26).toInt = ort P ∧ (I 27).toInt = ops P) ∧ MVs I A P
/-- both sides hold the same game and stand at the same node -/
noncomputable def FGm (I : Nat → Int32) (A : Nat → Nat → Int32) (S : ZS) (g : Nat) (L : List (List Int × List Int)) (st : PO) (T : TRa) (r : Int) (c : Nat) : Prop := (zP S 7 1 = some g ∧ GMc S g L st T r) ∧ GMr A (I 5).toInt.toNat L st T r ∧ ((zI S 8 1).toInt = (c : Int) ∧ (I 6).toInt = (c : Int) ∧ c ≤ tn T) ∧ BO S 107 (posT st T c) ∧ QS I A (posT st T c)
/-- both sides between two calls, whole -/
noncomputable def FM (I : Nat → Int32) (A : Nat → Nat → Int32) (S : ZS) : Prop := SM I A S ∧ ∃ g L st T r c, FGm I A S g L st T r c
section FMS
variable {S S' : ZS} {g g' c : Nat} {I I' : Nat → Int32} {A A' : Nat → Nat → Int32} {Q : Nat → Prop} {L : List (List Int × List Int)} {st P : PO} {T : TRa} {r : Int} {x1 x2 x3 : Int32}
theorem qs_p (h : RPp I A P) (hm : MVs I A P) : QS I A P := ⟨⟨h.2.1, h.2.2.1, h.2.2.2.1, h.2.2.2.2.1⟩, hm⟩
theorem qs_e (h : QS I A P) (e24 : A' 24 = A 24) (e32 : A' 32 = A 32) (e : ∀ j, (j = 25 ∨ j = 26 ∨ j = 27 ∨ j = 33) → I' j = I j) : QS I' A' P := by
  obtain ⟨⟨h1, h2, h3, h4⟩, h5, h6⟩ := h
  refine ⟨⟨(mR_fr e24).trans h1, ?_, ?_, ?_⟩, ?_, ?_⟩
  · rw [e 25 (by decide)]; exact h2
  · rw [e 26 (by decide)]; exact h3
  · rw [e 27 (by decide)]; exact h4
  · rw [e 33 (by decide)]; exact h5
  · rw [e32]; exact h6
theorem gmr_7 {g : Nat} (hg : g ≤ 1) (h : GMr A g L st T r) (e : ∀ j, 7 ≤ j → j ≤ 23 → A' j = A j) : GMr A' g L st T r := by
  obtain ⟨⟨tr, hw, hl⟩, sp, tg, hr⟩ := h
  have h3 := hw.1
  refine ⟨⟨trr_e hg h3 tr (by rw [e 7 (by decide) (by decide)]) (fun j hj => e j (by omega) (by omega)), hw, hl⟩, ⟨?_, sp.2⟩, tgr_e tg (fun j j1 j2 => e j (by omega) (by omega)), by rw [e 23 (by decide) (by decide)]; exact hr⟩
  have s1 := sp.1
  unfold SPo at s1 ⊢
  rw [e 16 (by decide) (by decide), e 17 (by decide) (by decide)]
  exact s1
theorem gmc_ke (hC : CG S) (hg : g = 35 ∨ g = 99) (h : GMc S g L st T r) (k : KE S S') : GMc S' g L st T r := gmc_e hC hg h (fun a ha hb => k a ha (by unfold KP9; omega))
theorem ke_107 (hC : CG S) (h : BO S 107 P) (k : KE S S') : BO S' 107 P := bo_e h (k 107 (by rw [fx_k hC.2.2.1 (by decide) (by decide)]; decide) (Or.inr (Or.inr (Or.inl (by decide))))) (k 108 (by rw [fx_k hC.2.2.1 (by decide) (by decide)]; decide) (Or.inr (Or.inr (Or.inl (by decide)))))
theorem ke_fr (hF : FR Q S S') (h0 : ∀ a, KP9 a → ¬ Q a) : KE S S' := fun a ha hk => fr_e hF ha (h0 a hk)
theorem ke_2 (hF : FR (fun a => a = 2) S S') : KE S S' := ke_fr hF (fun a hk => by unfold KP9 at hk; omega)
/-- the games, the object and its board stay -/
theorem fm_ke (hC : CG S) (h5b : 0 ≤ (I 5).toInt ∧ (I 5).toInt ≤ 1) (h : FM I A S) (hs : SM I' A' S') (k : KE S S') (e5 : I' 5 = I 5) (e6 : I' 6 = I 6) (eA : ∀ j, 7 ≤ j → j ≤ 23 → A' j = A j) (q : ∀ g L st T r c, FGm I A S g L st T r c → QS I' A' (posT st T c)) : FM I' A' S' := by
  obtain ⟨hm, g, L, st, T, r, c, w⟩ := h
  obtain ⟨⟨p7, gc⟩, gr, ⟨c1, c2, c3⟩, bo, qs⟩ := id w
  have hg := (sc_7 hm.1 p7).1
  have k1 : zK S 1 = 11 := fx_k hC.2.2.1 (by decide) (by decide)
  have e1 := k 1 (by rw [k1]; decide) (Or.inr (Or.inr (Or.inr rfl)))
  refine ⟨hs, g, L, st, T, r, c, ⟨(e1.2.2.2.1 7).trans p7, gmc_ke hC hg gc k⟩, ?_, ⟨by rw [e1.2.2.1 8]; exact c1, by rw [e6]; exact c2, c3⟩, ke_107 hC bo k, q _ _ _ _ _ _ w⟩
  rw [e5]
  exact gmr_7 (by omega) gr eA
theorem fm_c (hK : zK S' = zK S) (hI : zI S' = zI S) (hP : zP S' = zP S) (hN : zN S' = zN S) (hA : zA S' = zA S) (hB : zB S' = zB S) (h : FM I A S) : FM I A S' := by
  have e1 : nk S' = nk S := by funext r b k; unfold nk; rw [hB]
  have e2 : nF S' = nF S := by funext j r b k; unfold nF; rw [hI, e1]
  have e3 : cn S' = cn S := by funext g; unfold cn; rw [hI]
  have e4 : rwC S' = rwC S := by funext a i; unfold rwC; simp only [hI, hP, hA]
  have e5 : mCb S' = mCb S := by funext b s; unfold mCb; simp only [hP, hA]
  refine ⟨sm_c hK hI hP hN hA hB h.1, ?_⟩
  have h2 := h.2
  unfold FGm GMc TRc TGk BO RWL NMk at h2 ⊢
  simp only [e1, e2, e3, e4, e5, hI, hP, hB, hK]
  exact h2
/-- what the simulation of a game gives at the node that stands -/
theorem fw_w (h : FGm I A S g L st T r c) : WT T ∧ LTr st T ∧ c ≤ tn T ∧ tn T ≤ 300 := ⟨h.1.2.1.2.1, h.1.2.1.2.2, h.2.2.1.2.2, h.1.2.1.2.1.1⟩
theorem fw_pg (h : FGm I A S g L st T r c) : PGd (posT st T c) ∧ 1 ≤ onb (posT st T c) ∧ onb (posT st T c) ≤ 1299 := by
  obtain ⟨hw, hl, hc, h3⟩ := fw_w h
  obtain ⟨a1, a2, a3⟩ := lt_pg hw hl c hc
  exact ⟨a1, a2, by omega⟩
/-- place brings the reference to the node -/
theorem qs_place {o : Int32 × MS} {k : Nat} (hI : TJ I) (hA : TK A) (h5b : 0 ≤ (I 5).toInt ∧ (I 5).toInt ≤ 1) (gr : GMr A (I 5).toInt.toNat L st T r) (h2 : x2.toInt = (k : Int)) (hk : k ≤ tn T) (hf : f_place (I 5) x2 I A = some o) : QS o.2.1 o.2.2 (posT st T k) ∧ PLf I o.2.1 A o.2.2 := by
  obtain ⟨⟨tr, hw, hl⟩, sp, -, -⟩ := gr
  obtain ⟨a1, a2, a3⟩ := v_place (g := (I 5).toInt.toNat) (by omega) (by omega) hw hl hI hA tr sp h2 hk hf
  exact ⟨qs_p a1 a2, a3⟩
theorem plf_g (h : PLf I I' A A') : (∀ j, 7 ≤ j → j ≤ 23 → A' j = A j) ∧ I' 5 = I 5 ∧ I' 6 = I 6 ∧ I' 0 = I 0 := ⟨fun j j1 j2 => h.2 j (by simp only [List.mem_cons, List.not_mem_nil, or_false]; omega), h.1 5 (by decide), h.1 6 (by decide), h.1 0 (by decide)⟩
/-- is it a node: both sides -/
theorem fm_has {o : Int32 × ZS} (hC : CG S) (hg : g = 35 ∨ g = 99) (tr : TRc S g T) (hf : f_X1_has g x1 S = some o) : o.2 = S ∧ ((o.1.toInt = 1 ∧ 0 ≤ x1.toInt ∧ x1.toInt ≤ (tn T : Int)) ∨ (o.1.toInt = 0 ∧ ¬ (0 ≤ x1.toInt ∧ x1.toInt ≤ (tn T : Int)))) := by
  have hf : f_X1_has_0 g x1 S = some o := hf
  have kg := (fx_g hC.2.2.1 hg).1.1
  have hn := (cn_le hC.1 kg).2
  rw [tr.1] at hn
  have z0 : (0 : Int32).toInt = 0 := rfl
  unfold f_X1_has_0 at hf
  rcases m_ifE hf with ⟨c, hf⟩ | ⟨c, hf⟩
  · replace c := ti_ltP (a := x1) (b := (0 : Int32)) c rfl z0
    unfold f_X1_has_16 f_X1_has_17 at hf
    obtain ⟨-, hf⟩ := m_chkE hf
    cases hf
    exact ⟨rfl, Or.inr ⟨rfl, by omega⟩⟩
  · replace c := ti_ltN (a := x1) (b := (0 : Int32)) c rfl z0
    obtain ⟨-, hf⟩ := m_chkE hf
    rcases m_ifE hf with ⟨d, hf⟩ | ⟨d, hf⟩
    · replace d := ti_ltP (a := zI S 3 g) (b := x1) d rfl rfl
      unfold f_X1_has_16 f_X1_has_17 at hf
      obtain ⟨-, hf⟩ := m_chkE hf
      cases hf
      exact ⟨rfl, Or.inr ⟨rfl, by omega⟩⟩
    · replace d := ti_ltN (a := zI S 3 g) (b := x1) d rfl rfl
      unfold f_X1_has_17 at hf
      obtain ⟨-, hf⟩ := m_chkE hf
      cases hf
      exact ⟨rfl, Or.inl ⟨rfl, by omega⟩⟩
theorem fm_isNode {o : Int32 × MS} (h5b : 0 ≤ (I 5).toInt ∧ (I 5).toInt ≤ 1) (hA : TK A) (tr : TRr A (I 5).toInt.toNat T) (hf : f_isNode x1 I A = some o) : o.2 = (I, A) ∧ ((o.1.toInt = 1 ∧ 0 ≤ x1.toInt ∧ x1.toInt ≤ (tn T : Int)) ∨ (o.1.toInt = 0 ∧ ¬ (0 ≤ x1.toInt ∧ x1.toInt ≤ (tn T : Int)))) := by
  have hf : f_isNode_0 x1 I A = some o := hf
  have n5 : (I 5).toNatClampNeg = (I 5).toInt.toNat := cl_n (by omega)
  have hn : (A 7 (I 5).toInt.toNat).toInt.toNat = tn T := tr.1.1
  have hb : 0 ≤ (A 7 (I 5).toInt.toNat).toInt ∧ (A 7 (I 5).toInt.toNat).toInt ≤ 300 := hA 7 (I 5).toInt.toNat
  have z0 : (0 : Int32).toInt = 0 := rfl
  unfold f_isNode_0 at hf
  rcases m_ifE hf with ⟨c, hf⟩ | ⟨c, hf⟩
  · replace c := ti_ltP (a := x1) (b := (0 : Int32)) c rfl z0
    unfold f_isNode_21 f_isNode_22 at hf
    obtain ⟨-, hf⟩ := m_chkE hf
    cases hf
    exact ⟨rfl, Or.inr ⟨rfl, by omega⟩⟩
  · replace c := ti_ltN (a := x1) (b := (0 : Int32)) c rfl z0
    obtain ⟨-, hf⟩ := m_chkE hf
    obtain ⟨v1, e1, hf⟩ := m_bndE hf
    rw [n5] at e1
    rw [← e1] at hn hb
    rcases m_ifE hf with ⟨d, hf⟩ | ⟨d, hf⟩
    · replace d := ti_ltP (a := v1) (b := x1) d rfl rfl
      unfold f_isNode_21 f_isNode_22 at hf
      obtain ⟨-, hf⟩ := m_chkE hf
      cases hf
      exact ⟨rfl, Or.inr ⟨rfl, by omega⟩⟩
    · replace d := ti_ltN (a := v1) (b := x1) d rfl rfl
      unfold f_isNode_22 at hf
      obtain ⟨-, hf⟩ := m_chkE hf
      cases hf
      exact ⟨rfl, Or.inl ⟨rfl, by omega⟩⟩
end FMS
