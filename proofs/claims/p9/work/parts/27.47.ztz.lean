def TXs (S : ZS) (g r b g' r' b' : Nat) : Prop := (zK S g = 1 ∧ zK S g' = 1) ∧ (zP S 1 g = some r ∧ zP S 1 g' = some r') ∧ (zP S 2 g = some b ∧ zP S 2 g' = some b') ∧ (zK S r = 4 ∧ zK S r' = 4) ∧ (zK S b = 16 ∧ zK S b' = 16) ∧ (∀ i c, zB S b i = some c → c ≠ r ∧ c ≠ r' ∧ (∀ j, zB S b' j ≠ some c) ∧ ∀ j, zB S b j = some c → j = i) ∧ (∀ i c, zB S b' i = some c → c ≠ r ∧ c ≠ r' ∧ (∀ j, zB S b j ≠ some c) ∧ ∀ j, zB S b' j = some c → j = i)
theorem txs_1 {S : ZS} (h : TX S) : TXs S 35 38 40 99 102 104 := h
theorem txs_s {S : ZS} {g r b g' r' b' : Nat} (h : TXs S g r b g' r' b') : TXs S g' r' b' g r b := by
  obtain ⟨⟨a1, a2⟩, ⟨b1, b2⟩, ⟨c1, c2⟩, ⟨d1, d2⟩, ⟨e1, e2⟩, f, k⟩ := h
  exact ⟨⟨a2, a1⟩, ⟨b2, b1⟩, ⟨c2, c1⟩, ⟨d2, d1⟩, ⟨e2, e1⟩, fun i c h => ⟨(k i c h).2.1, (k i c h).1, (k i c h).2.2⟩, fun i c h => ⟨(f i c h).2.1, (f i c h).1, (f i c h).2.2⟩⟩
theorem cn_le {S : ZS} {g : Nat} (hT : ZT S) (hk : zK S g = 1) : cn S g ≤ 300 ∧ (zI S 3 g).toInt = (cn S g : Int) := by
  have j := J_1_3 hT hk
  unfold cn
  omega
theorem nd_nk {S : ZS} {g r b : Nat} {i : Int32} (hT : ZT S) (hk : zK S g = 1) (hr : zP S 1 g = some r) (hb : zP S 2 g = some b) (h0 : 0 ≤ i.toInt) (h1 : i.toInt ≤ (cn S g : Int)) : nd S g i = nk S r b i.toInt.toNat := by
  have hc := cn_le hT hk
  have z : (0 : Int32).toInt = 0 := rfl
  unfold nd nk
  rw [hr, hb]
  by_cases e : i.toInt = 0
  · rw [if_pos (Or.inl (Int32.le_iff_toInt_le.2 (by omega))), if_pos (by omega)]; rfl
  · rw [if_neg (fun h => ?_), if_neg (by omega)]
    · rfl
    · rcases h with h | h
      · have := Int32.le_iff_toInt_le.1 h; omega
      · have := Int32.lt_iff_toInt_lt.1 h; omega
theorem nd_x {S S' : ZS} {g b : Nat} (e1 : zI S' 3 g = zI S 3 g) (e2 : zP S' 1 g = zP S 1 g) (e3 : zP S' 2 g = zP S 2 g) (hb : zP S 2 g = some b) (e4 : zB S' b = zB S b) (i : Int32) : nd S' g i = nd S g i := by
  unfold nd
  rw [e1, e2, e3, hb]
  show (if _ then _ else (zB S' b i.toNatClampNeg).getD _) = (if _ then _ else (zB S b i.toNatClampNeg).getD _)
  rw [e4]
theorem nk_inj {S : ZS} {r b n : Nat} (hi : ∀ i c, zB S b i = some c → c ≠ r ∧ ∀ j, zB S b j = some c → j = i) (hn : ∀ k, 1 ≤ k → k ≤ n → zB S b k ≠ none) {i j : Nat} (h1 : i ≤ n) (h2 : j ≤ n) (e : nk S r b i = nk S r b j) : i = j := by
  unfold nk at e
  by_cases e1 : i = 0
  · by_cases e2 : j = 0
    · omega
    · rw [if_pos e1, if_neg e2] at e
      cases hc : zB S b j with
      | none => exact absurd hc (hn j (by omega) h2)
      | some c => rw [hc] at e; exact absurd e.symm (hi j c hc).1
  · rw [if_neg e1] at e
    cases hc : zB S b i with
    | none => exact absurd hc (hn i (by omega) h1)
    | some c =>
      rw [hc] at e
      by_cases e2 : j = 0
      · rw [if_pos e2] at e; exact absurd e (hi i c hc).1
      · rw [if_neg e2] at e
        cases hd : zB S b j with
        | none => exact absurd hd (hn j (by omega) h2)
        | some d =>
          rw [hd] at e
          have e' : c = d := e
          rw [← e'] at hd
          exact ((hi i c hc).2 j hd).symm
theorem keep_P {S S' : ZS} {x0 : Nat} {x1 y : Int32} (hf : f_X6_keep x0 x1 S = some (y, S')) : zP S' = zP S := by
  have hf : f_X6_keep_0 x0 x1 S = some (y, S') := hf
  unfold f_X6_keep_0 at hf
  rcases m_ifE hf with ⟨-, hf⟩ | ⟨-, hf⟩
  · cases hf; rfl
  · obtain ⟨-, hf⟩ := m_chkE hf
    rcases m_ifE hf with ⟨-, hf⟩ | ⟨-, hf⟩
    · cases hf; rfl
    · obtain ⟨-, hf⟩ := m_chkE hf
      obtain ⟨S1, e1, hf⟩ := m_bndE hf
      cases hf
      rw [e1]; rfl
theorem become_P {S S' : ZS} {x0 : Nat} {x1 x2 y : Int32} (hf : f_X4_become x0 x1 x2 S = some (y, S')) : zP S' = zP S := by
  have hf : f_X4_become_0 x0 x1 x2 S = some (y, S') := hf
  unfold f_X4_become_0 at hf
  obtain ⟨-, hf⟩ := m_chkE hf
  obtain ⟨S1, e1, hf⟩ := m_bndE hf
  obtain ⟨-, hf⟩ := m_chkE hf
  obtain ⟨S2, e2, hf⟩ := m_bndE hf
  obtain ⟨-, hf⟩ := m_chkE hf
  obtain ⟨S3, e3, hf⟩ := m_bndE hf
  obtain ⟨-, hf⟩ := m_chkE hf
  obtain ⟨S4, e4, hf⟩ := m_bndE hf
  obtain ⟨-, hf⟩ := m_chkE hf
  obtain ⟨S5, e5, hf⟩ := m_bndE hf
  obtain ⟨-, hf⟩ := m_chkE hf
  obtain ⟨S6, e6, hf⟩ := m_bndE hf
  obtain ⟨-, hf⟩ := m_chkE hf
  obtain ⟨b7, -, hf⟩ := m_calE hf
  obtain ⟨-, hf⟩ := m_chkE hf
  obtain ⟨⟨y8, S8⟩, ho, hf⟩ := m_calE hf
  cases hf
  show zP S8 = _
  rw [keep_P ho, e6]; show zP S5 = _; rw [e5]; show zP S4 = _; rw [e4]; show zP S3 = _; rw [e3]; show zP S2 = _; rw [e2]; show zP S1 = _; rw [e1]; rfl
theorem bec_I {S S' : ZS} {x0 : Nat} {x1 x2 y : Int32} (hT : ZT S) (hk : zK S x0 = 4) (hf : f_X4_become x0 x1 x2 S = some (y, S')) : zI S' 0 x0 = x1 ∧ zI S' 2 x0 = -1 ∧ zI S' 3 x0 = -1 ∧ zI S' 4 x0 = 0 ∧ ∀ a j, zK S a = 4 → a ≠ x0 → zI S' j a = zI S j a := by
  have hf : f_X4_become_0 x0 x1 x2 S = some (y, S') := hf
  unfold f_X4_become_0 at hf
  obtain ⟨-, hf⟩ := m_chkE hf
  obtain ⟨S1, e1, hf⟩ := m_bndE hf
  obtain ⟨-, hf⟩ := m_chkE hf
  obtain ⟨S2, e2, hf⟩ := m_bndE hf
  obtain ⟨-, hf⟩ := m_chkE hf
  obtain ⟨S3, e3, hf⟩ := m_bndE hf
  obtain ⟨-, hf⟩ := m_chkE hf
  obtain ⟨S4, e4, hf⟩ := m_bndE hf
  obtain ⟨-, hf⟩ := m_chkE hf
  obtain ⟨S5, e5, hf⟩ := m_bndE hf
  obtain ⟨-, hf⟩ := m_chkE hf
  obtain ⟨S6, e6, hf⟩ := m_bndE hf
  obtain ⟨-, hf⟩ := m_chkE hf
  obtain ⟨b7, -, hf⟩ := m_calE hf
  obtain ⟨-, hf⟩ := m_chkE hf
  obtain ⟨o8, ho, hf⟩ := m_calE hf
  cases hf
  have kE : zK S6 = zK S := by rw [e6]; show zK S5 = _; rw [e5]; show zK S4 = _; rw [e4]; show zK S3 = _; rw [e3]; show zK S2 = _; rw [e2]; show zK S1 = _; rw [e1]; rfl
  have tE : zt S6 = zt S := by rw [e6]; show zt S5 = _; rw [e5]; show zt S4 = _; rw [e4]; show zt S3 = _; rw [e3]; show zt S2 = _; rw [e2]; show zt S1 = _; rw [e1]; rfl
  have hF : Fh S6 := fun a ha => by rw [kE]; exact hT.2.2.2.2.1 a (by rw [← tE]; exact ha)
  have ff := (fz_X6_keep ho hF).2.2
  have kp : ∀ a j, zK S a = 4 → zI o8.2 j a = zI S6 j a := fun a j ha => (ff a (by rw [kE, ha]; decide)).2.2.1 j (by rw [kE, ha]; simp)
  refine ⟨?_, ?_, ?_, ?_, fun a j ha hne => ?_⟩
  · rw [kp x0 0 hk, e6, zI_j (by decide), e5, zI_j (by decide), e4, zI_j (by decide), e3, zI_j (by decide), e2, zI_j (by decide), e1, zI_self]
  · rw [kp x0 2 hk, e6, zI_j (by decide), e5, zI_j (by decide), e4, zI_j (by decide), e3, zI_self]
  · rw [kp x0 3 hk, e6, zI_j (by decide), e5, zI_j (by decide), e4, zI_self]
  · rw [kp x0 4 hk, e6, zI_j (by decide), e5, zI_self]
  · rw [kp a j ha, e6, zI_b hne, e5, zI_b hne, e4, zI_b hne, e3, zI_b hne, e2, zI_b hne, e1, zI_b hne]
theorem gw_24 {S : ZS} {g r b : Nat} {x1 x2 : Int32} {Q : Int32 × ZS → Prop} (hT : ZT S) (hk : zK S g = 1) (hr : zP S 1 g = some r) (hb : zP S 2 g = some b) : ∀ (l : List Nat) (n : Nat) (x3 x4 : Int32), chn (nF S 3 r b) l x3.toInt → (∀ k ∈ l, 1 ≤ k ∧ k ≤ cn S g) → l.length < n → 0 ≤ x4.toInt → x4.toInt + (l.length : Int) ≤ 300 → (∀ x3' : Int32, (l = [] → x3'.toInt = -1) → (∀ h : l ≠ [], x3'.toInt = ((l.getLast h : Nat) : Int)) → Ok (d_X1_grow_64 g x1 x2 x3' S) Q) → Ok (d_X1_grow_24 n g x1 x2 x3 x4 S) Q
  | _, 0, _, _, _, _, hn, _, _, _ => by omega
  | [], n + 1, x3, x4, hc, _, _, _, _, hq => by
    have hc' : x3.toInt = -1 := hc
    have key := hq x3 (fun _ => hc') (fun h => absurd rfl h)
    show Ok (d_X1_grow_24s (d_X1_grow_24 n) g x1 x2 x3 x4 S) Q
    unfold d_X1_grow_24s
    refine ok_if (fun _ => key) (fun _ => ok_ifT (Int32.toInt_inj.1 hc') key)
  | k :: l, n + 1, x3, x4, hc, hm, hn, h0, h3, hq => by
    have hc1 : x3.toInt = (k : Int) := hc.1
    have hc2 : chn (nF S 3 r b) l (nF S 3 r b k) := hc.2
    have hk1 := hm k List.mem_cons_self
    have hl : (k :: l).length = l.length + 1 := rfl
    have z3 : (300 : Int32).toInt = 300 := rfl
    have zm : (-1 : Int32).toInt = -1 := rfl
    show Ok (d_X1_grow_24s (d_X1_grow_24 n) g x1 x2 x3 x4 S) Q
    unfold d_X1_grow_24s
    refine ok_ifF (fun h => by have := Int32.le_iff_toInt_le.1 h; omega) (ok_ifF (fun h => by rw [h] at hc1; omega) ?_)
    obtain ⟨c, h1, k1, a1⟩ := roz (t_f_X1_at (x1 := x3) hT hk)
    dsimp only at k1 a1
    have e1 : c = nk S r b k := by
      rw [a1, nd_nk hT hk hr hb (by omega) (by omega), hc1]; rfl
    refine ok_chk hk (ok_calR h1 (ok_chk ⟨rfl, rfl⟩ (ok_chk k1 (ok_if (fun e => ?_) (fun e => ?_)))))
    · have e2 : (zI S 3 c).toInt = -1 := congrArg Int32.toInt e
      have hl0 : l = [] := chn_nil (v := nF S 3 r b k) hc2 (by unfold nF; rw [← e1, e2]; decide)
      subst hl0
      exact hq x3 (fun h => by cases h) (fun _ => hc1)
    · refine ok_chk hk (ok_calR h1 (ok_chk ⟨rfl, rfl⟩ (ok_chk k1 (ok_bnd (fun v3 e3 => ?_)))))
      have t3 : v3.toInt = x4.toInt + 1 := ti_add e3 rfl (show (1 : Int32).toInt = 1 from rfl) (by omega) (by omega)
      have hne : l ≠ [] := fun h => by
        rw [h] at hc2
        have h5 : nF S 3 r b k = -1 := hc2
        unfold nF at h5
        rw [← e1] at h5
        exact e (Int32.toInt_inj.1 h5)
      have hc3 : chn (nF S 3 r b) l (zI S 3 c).toInt := by
        have : nF S 3 r b k = (zI S 3 c).toInt := by unfold nF; rw [← e1]
        rw [← this]; exact hc2
      refine gw_24 hT hk hr hb l n (zI S 3 c) v3 hc3 (fun j hj => hm j (List.mem_cons_of_mem _ hj)) (by omega) (by omega) (by omega) (fun x3' g1 g2 => hq x3' (fun h => by cases h) (fun h => ?_))
      rw [g2 hne]
      exact congrArg _ (List.getLast_cons hne).symm
theorem gw_102 {S : ZS} {g b : Nat} {x1 x2 x3 : Int32} (hT : ZT S) (hk : zK S g = 1) (hb : zP S 2 g = some b) (kb : zK S b = 16) : Ok (d_X1_grow_102 g x1 x2 x3 S) (fun o => ZT o.2 ∧ RM S o.2 ∧ A7 S o.2 ∧ o.1 = zI S 3 g ∧ (∀ i, nd o.2 g i = nd S g i) ∧ (zK o.2 = zK S ∧ zP o.2 = zP S ∧ zB o.2 = zB S ∧ ∀ a, zK S a = 1 → zI o.2 3 a = zI S 3 a) ∧ ∃ S2 y, f_X4_become (nd S g (zI S 3 g)) x1 x2 S = some (y, S2) ∧ zK S (nd S g (zI S 3 g)) = 4 ∧ ((x3 = -1 ∧ zK S (nd S g x1) = 4 ∧ o.2 = zsI S2 2 (nd S g x1) (zI S 3 g)) ∨ (x3 ≠ -1 ∧ zK S (nd S g x3) = 4 ∧ o.2 = zsI S2 3 (nd S g x3) (zI S 3 g)))) := by
  unfold d_X1_grow_102
  obtain ⟨c, h1, k1, a1⟩ := roz (t_f_X1_at (x1 := zI S 3 g) hT hk)
  dsimp only at k1 a1
  refine ok_chk hk (ok_chk hk (ok_calR h1 (ok_chk ⟨rfl, rfl⟩ (ok_chk k1 ?_))))
  obtain ⟨⟨y, S2⟩, h2, T2, A2, -⟩ := t_f_X4_become (SZ := S) (x0 := c) (x1 := x1) (x2 := x2) hT (a7_0 S) k1
  replace T2 : ZT S2 := T2
  replace A2 : A7 S S2 := A2
  have q2 : EqT S S2 := fq_X4_become h2
  have f2 := (fz_X4_become h2 hT.2.2.2.2.1).2.2
  have R2 : RM S S2 := rm_f (rm_0 S) hT q2 (fz_X4_become h2) (by decide)
  have k2 : zK S2 g = 1 := by rw [q2.2.2.1]; exact hk
  have i2 : ∀ a, zK S a = 1 → zI S2 3 a = zI S 3 a := fun a ha => (f2 a (lt18 ha (by decide))).2.2.1 3 (by rw [ha]; decide)
  have p2 : zP S2 = zP S := become_P h2
  have nx : ∀ i, nd S2 g i = nd S g i := nd_x (i2 g hk) (by rw [p2]) (by rw [p2]) hb (by rw [q2.2.2.2.2])
  refine ok_calR h2 (ok_chk ⟨q2.1, q2.2.1⟩ (ok_if (fun e => ?_) (fun e => ?_)))
  · obtain ⟨u, h5, k5, a5⟩ := roz (t_f_X1_at (x1 := x1) T2 k2)
    dsimp only at k5 a5
    rw [nx] at a5
    refine ok_chk k2 (ok_calR h5 (ok_chk ⟨rfl, rfl⟩ (ok_chk k2 (ok_chk k5 (ok_bnd (fun S6 e6 => ?_))))))
    unfold d_X1_grow_147
    have k6 : zK S6 g = 1 := by rw [e6]; exact k2
    have i6 : ∀ a, zI S6 3 a = zI S2 3 a := fun a => by rw [e6]; exact zI_j (by decide)
    have T6 : ZT S6 := e6.symm ▸ zt_W T2 k5 (by decide) rfl
    have kS : zK S6 = zK S := by rw [e6, ← q2.2.2.1]; rfl
    have pS : zP S6 = zP S := by rw [e6, ← p2]; rfl
    have bS : zB S6 = zB S := by rw [e6, ← q2.2.2.2.2]; rfl
    refine ok_chk k6 (ok_ret ⟨T6, rm_t R2 (rm_I (rm_0 S2) e6), a7_I A2 e6 k5 (by decide), ?_, ?_, ⟨kS, pS, bS, fun a ha => ?_⟩, S2, y, by rw [← a1]; exact h2, by rw [← a1]; exact k1, Or.inl ⟨e, ?_, ?_⟩⟩)
    · show zI S6 3 g = _
      rw [i6, i2 g hk]
    · exact nd_x ((i6 g).trans (i2 g hk)) (by rw [pS]) (by rw [pS]) hb (by rw [bS])
    · show zI S6 3 a = _
      rw [i6, i2 a ha]
    · rw [← a5, ← q2.2.2.1]; exact k5
    · show S6 = _
      rw [e6, a5, i2 g hk]
  · obtain ⟨u, h5, k5, a5⟩ := roz (t_f_X1_at (x1 := x3) T2 k2)
    dsimp only at k5 a5
    rw [nx] at a5
    refine ok_chk k2 (ok_calR h5 (ok_chk ⟨rfl, rfl⟩ (ok_chk k2 (ok_chk k5 (ok_bnd (fun S6 e6 => ?_))))))
    unfold d_X1_grow_147
    have k6 : zK S6 g = 1 := by rw [e6]; exact k2
    have i6 : ∀ a, zK S2 a = 1 → zI S6 3 a = zI S2 3 a := fun a ha => by rw [e6]; exact zI_ne (fun h => by rw [h, k5] at ha; omega)
    have T6 : ZT S6 := e6.symm ▸ zt_W T2 k5 (by decide) rfl
    have kS : zK S6 = zK S := by rw [e6, ← q2.2.2.1]; rfl
    have pS : zP S6 = zP S := by rw [e6, ← p2]; rfl
    have bS : zB S6 = zB S := by rw [e6, ← q2.2.2.2.2]; rfl
    refine ok_chk k6 (ok_ret ⟨T6, rm_t R2 (rm_I (rm_0 S2) e6), a7_I A2 e6 k5 (by decide), ?_, ?_, ⟨kS, pS, bS, fun a ha => ?_⟩, S2, y, by rw [← a1]; exact h2, by rw [← a1]; exact k1, Or.inr ⟨e, ?_, ?_⟩⟩)
    · show zI S6 3 g = _
      rw [i6 g k2, i2 g hk]
    · exact nd_x ((i6 g k2).trans (i2 g hk)) (by rw [pS]) (by rw [pS]) hb (by rw [bS])
    · show zI S6 3 a = _
      rw [i6 a (by rw [q2.2.2.1]; exact ha), i2 a ha]
    · rw [← a5, ← q2.2.2.1]; exact k5
    · show S6 = _
      rw [e6, a5, i2 g hk]
