theorem pf_21 {S : ZS} {g r b : Nat} {x1 : Int32} {x2 H : Nat} {o : Int32 × ZS} (hT : ZT S) (hk : zK S g = 1) (hr : zP S 1 g = some r) (hb : zP S 2 g = some b) (hH : x1.toInt = (H : Int)) : ∀ (l : List Nat) (n : Nat) (x3 x4 : Int32), chn (nF S 3 r b) l x3.toInt → (∀ k ∈ l, 1 ≤ k ∧ k ≤ cn S g) → H ∈ l → x3.toInt ≠ (H : Int) → 0 ≤ x4.toInt → x4.toInt + (l.length : Int) ≤ 300 → f_X1_putFirst_21 n g x1 x2 x3 x4 S = some o → ∃ (l1 r1 : List Nat) (bb : Nat) (x3' : Int32), l = l1 ++ bb :: H :: r1 ∧ x3'.toInt = (bb : Int) ∧ f_X1_putFirst_56 g x1 x2 x3' S = some o
  | [], _, _, _, _, _, hm, _, _, _, _ => by cases hm
  | _ :: _, 0, _, _, _, _, _, _, _, _, hf => by cases hf
  | k :: l, n + 1, x3, x4, hc, hm, hin, hne, h0, h3, hf => by
    have hc1 : x3.toInt = (k : Int) := hc.1
    have hc2 : chn (nF S 3 r b) l (nF S 3 r b k) := hc.2
    have hk1 := hm k List.mem_cons_self
    have hl : (k :: l).length = l.length + 1 := rfl
    have z3 : (300 : Int32).toInt = 300 := rfl
    have hf : f_X1_putFirst_21s (f_X1_putFirst_21 n) g x1 x2 x3 x4 S = some o := hf
    unfold f_X1_putFirst_21s at hf
    rcases m_ifE hf with ⟨c, hf⟩ | ⟨-, hf⟩
    · have := Int32.le_iff_toInt_le.1 c
      omega
    · obtain ⟨-, hf⟩ := m_chkE hf
      obtain ⟨⟨c, Sx⟩, h1, hf⟩ := m_calE hf
      obtain ⟨s1, k1, a1⟩ := ok_of (t_f_X1_at hT hk) h1
      dsimp only at s1 k1 a1 hf
      rw [s1] at hf k1
      have e1 : c = nk S r b k := by rw [a1, nd_nk hT hk hr hb (by omega) (by omega), hc1]; rfl
      have nE : nF S 3 r b k = (zI S 3 c).toInt := by unfold nF; rw [← e1]
      obtain ⟨-, hf⟩ := m_chkE hf
      rcases m_ifE hf with ⟨e, hf⟩ | ⟨e, hf⟩
      · have e2 : nF S 3 r b k = (H : Int) := by rw [nE, e, hH]
        cases l with
        | nil =>
          have : nF S 3 r b k = -1 := hc2
          omega
        | cons H' l' =>
          have : nF S 3 r b k = (H' : Int) := hc2.1
          have eH : H' = H := by omega
          subst eH
          exact ⟨[], l', k, x3, rfl, hc1, hf⟩
      · obtain ⟨-, hf⟩ := m_chkE hf
        obtain ⟨⟨c', Sy⟩, h2, hf⟩ := m_calE hf
        rw [h1] at h2
        cases h2
        dsimp only at hf
        rw [s1] at hf
        obtain ⟨-, hf⟩ := m_chkE hf
        obtain ⟨v3, e3, hf⟩ := m_bndE hf
        have t3 : v3.toInt = x4.toInt + 1 := ti_add e3 rfl (show (1 : Int32).toInt = 1 from rfl) (by omega) (by omega)
        have hkH : k ≠ H := fun e4 => hne (by rw [hc1, e4])
        obtain ⟨l1, r1, bb, x3', g1, g2, g3⟩ := pf_21 hT hk hr hb hH l n (zI S 3 c) v3 (by rw [← nE]; exact hc2) (fun j hj => hm j (List.mem_cons_of_mem _ hj)) (by
          rcases List.mem_cons.1 hin with h | h
          · exact absurd h.symm hkH
          · exact h) (fun h => e (Int32.toInt_inj.1 (by rw [h, hH]))) (by omega) (by omega) hf
        exact ⟨k :: l1, r1, bb, x3', by rw [g1]; rfl, g2, g3⟩
theorem putFirst_tz {S S' : ZS} {g r b g' r' b' H : Nat} {x1 y : Int32} (hT : ZT S) (hgg : g ≠ g') (hrr : r ≠ r') (hX : TXs S g r b g' r' b') (hY : TY S g r b) (hY' : TY S g' r' b') (hH : x1.toInt = (H : Int)) (h1 : 1 ≤ H) (h2 : H ≤ cn S g) (hne : nF S 2 r b (nF S 0 r b H).toNat ≠ (H : Int)) (hf : f_X1_putFirst g x1 S = some (y, S')) : TXs S' g r b g' r' b' ∧ TY S' g r b ∧ TY S' g' r' b' := by
  have hX0 := hX
  obtain ⟨⟨a1, a2⟩, ⟨b1, b2⟩, ⟨c1, c2⟩, ⟨d1, d2⟩, ⟨e1, e2⟩, f, k⟩ := hX0
  obtain ⟨hn, hbt, L, hl⟩ := hY
  have hcn := cn_le hT a1
  have hP := (hbt H h1 h2).1
  have hu : (nF S 0 r b H).toNat ≤ cn S g := by omega
  generalize hu0 : (nF S 0 r b H).toNat = u at *
  have hPu : nF S 0 r b H = (u : Int) := by omega
  have hin : H ∈ L u := ((hl u hu).2.2 H).2 ⟨h1, h2, hPu⟩
  have ka : ∀ j, zK S (nk S r b j) = 4 := fun j => nk_kind hT d1 e1
  have ka' : ∀ j, zK S (nk S r' b' j) = 4 := fun j => nk_kind hT d2 e2
  have inj : ∀ i j, i ≤ cn S g → j ≤ cn S g → nk S r b i = nk S r b j → i = j := fun i j hi hj he => nk_inj (fun i c h => ⟨(f i c h).1, (f i c h).2.2.2⟩) hn hi hj he
  have hf : f_X1_putFirst_0 g x1 S = some (y, S') := hf
  unfold f_X1_putFirst_0 at hf
  obtain ⟨-, hf⟩ := m_chkE hf
  obtain ⟨⟨q, Sx⟩, h4, hf⟩ := m_calE hf
  obtain ⟨s4, k4, a4⟩ := ok_of (t_f_X1_at hT a1) h4
  dsimp only at s4 k4 a4 hf
  rw [s4] at hf k4
  have eq : q = nk S r b H := by rw [a4, nd_nk hT a1 b1 c1 (by omega) (by omega), hH]; rfl
  obtain ⟨-, hf⟩ := m_chkE hf
  obtain ⟨-, hf⟩ := m_chkE hf
  obtain ⟨⟨d, Sy⟩, h5, hf⟩ := m_calE hf
  obtain ⟨s5, k5, a5⟩ := ok_of (t_f_X1_at hT a1) h5
  dsimp only at s5 k5 a5 hf
  rw [s5] at hf k5
  have hPq : (zI S 0 q).toInt = (u : Int) := by rw [eq]; exact hPu
  have ed : d = nk S r b u := by rw [a5, nd_nk hT a1 b1 c1 (by omega) (by omega), hPq]; rfl
  obtain ⟨-, hf⟩ := m_chkE hf
  have hCd : nF S 2 r b u = (zI S 2 d).toInt := by unfold nF; rw [← ed]
  obtain ⟨l1, r1, bb, x3, hL, hx3, hf⟩ := pf_21 hT a1 b1 c1 hH (L u) mFuel (zI S 2 d) 0 (by rw [← hCd]; exact (hl u hu).1) (fun j hj => ⟨(((hl u hu).2.2 j).1 hj).1, (((hl u hu).2.2 j).1 hj).2.1⟩) hin (by rw [← hCd]; exact hne) (by decide) (by have := chn_len hl hu; have z : (0 : Int32).toInt = 0 := rfl; omega) hf
  have hbb := ((hl u hu).2.2 bb).1 (by rw [hL]; simp)
  have hbH : bb ≠ H := fun e => by
    have hnd := (hl u hu).2.1
    rw [hL, e] at hnd
    have := (List.nodup_cons.mp (List.nodup_append.mp hnd).2.1).1
    exact this List.mem_cons_self
  unfold f_X1_putFirst_56 at hf
  obtain ⟨-, hf⟩ := m_chkE hf
  obtain ⟨⟨p, Sz⟩, h6, hf⟩ := m_calE hf
  obtain ⟨s6, k6, a6⟩ := ok_of (t_f_X1_at hT a1) h6
  dsimp only at s6 k6 a6 hf
  rw [s6] at hf k6
  have ep : p = nk S r b bb := by rw [a6, nd_nk hT a1 b1 c1 (by omega) (by omega), hx3]; rfl
  obtain ⟨-, hf⟩ := m_chkE hf
  obtain ⟨o2, h7, hf⟩ := m_calE hf
  rw [h4, s4] at h7
  cases h7
  obtain ⟨-, hf⟩ := m_chkE hf
  obtain ⟨-, hf⟩ := m_chkE hf
  obtain ⟨S3, e3, hf⟩ := m_bndE hf
  replace e3 : S3 = zsI S 3 p (zI S 3 q) := e3
  have T3 : ZT S3 := e3.symm ▸ zt_W hT k6 (by decide) rfl
  have kg3 : zK S3 g = 1 := by rw [e3]; exact a1
  have gp : g ≠ p := fun e => by rw [e] at a1; omega
  have nx3 : nd S3 g x1 = nd S g x1 := nd_x (by rw [e3]; exact zI_ne gp) (by rw [e3]; rfl) (by rw [e3]; rfl) c1 (by rw [e3]; rfl) x1
  obtain ⟨-, hf⟩ := m_chkE hf
  obtain ⟨⟨q', Sw⟩, h8, hf⟩ := m_calE hf
  obtain ⟨s8, k8, a8⟩ := ok_of (t_f_X1_at T3 kg3) h8
  dsimp only at s8 k8 a8 hf
  rw [s8] at hf
  rw [nx3, ← a4] at a8
  rw [a8] at hf
  obtain ⟨-, hf⟩ := m_chkE hf
  obtain ⟨-, hf⟩ := m_chkE hf
  obtain ⟨S5, e5, hf⟩ := m_bndE hf
  obtain ⟨-, hf⟩ := m_chkE hf
  obtain ⟨S6, e6, hf⟩ := m_bndE hf
  cases hf
  have pq : p ≠ q := fun e => hbH (inj bb H hbb.2.1 h2 (by rw [← ep, ← eq, e]))
  have m0 : ∀ a, zI S' 0 a = zI S 0 a := fun a => by rw [e6, zI_j (by decide), e5, zI_j (by decide), e3, zI_j (by decide)]
  have m2 : ∀ a, a ≠ d → zI S' 2 a = zI S 2 a := fun a h => by rw [e6, zI_ne h, e5, zI_j (by decide), e3, zI_j (by decide)]
  have m2d : zI S' 2 d = x1 := by rw [e6]; exact zI_self _ _ _ _
  have m3 : ∀ a, a ≠ p → a ≠ q → zI S' 3 a = zI S 3 a := fun a h h9 => by rw [e6, zI_j (by decide), e5, zI_ne h9, e3, zI_ne h]
  have m3p : zI S' 3 p = zI S 3 q := by rw [e6, zI_j (by decide), e5, zI_ne pq, e3]; exact zI_self _ _ _ _
  have m3q : zI S' 3 q = zI S 2 d := by
    rw [e6, zI_j (by decide), e5, zI_self, e3, zI_j (by decide)]
  have kS : zK S' = zK S := by rw [e6]; show zK S5 = _; rw [e5]; show zK S3 = _; rw [e3]; rfl
  have bS : zB S' = zB S := by rw [e6]; show zB S5 = _; rw [e5]; show zB S3 = _; rw [e3]; rfl
  have pS : zP S' = zP S := by rw [e6]; show zP S5 = _; rw [e5]; show zP S3 = _; rw [e3]; rfl
  have iG : ∀ a, zK S a = 1 → zI S' 3 a = zI S 3 a := fun a ha => m3 a (fun e => by rw [e, k6] at ha; omega) (fun e => by rw [e, k4] at ha; omega)
  have nkE : ∀ j, nk S' r b j = nk S r b j := fun j => by unfold nk; rw [bS]
  have cnE : cn S' g = cn S g := by unfold cn; rw [iG g a1]
  have P0 : nF S' 0 r b = nF S 0 r b := funext (fun j => by unfold nF; rw [nkE, m0])
  have crs := nk_crs hX hrr
  obtain ⟨F, hF⟩ : ∃ F : Nat, nF S 2 r b u = (F : Int) := by
    have hch := (hl u hu).1
    rw [hL] at hch
    cases l1 with
    | nil => exact ⟨bb, hch.1⟩
    | cons z l => exact ⟨z, hch.1⟩
  refine ⟨txs_x hX kS bS (fun a j _ => by rw [pS]), ⟨fun j h8 h9 => by rw [bS]; exact hn j h8 (by rw [← cnE]; exact h9), by rw [cnE, P0]; exact hbt, _, by
    rw [cnE, P0]
    exact TTl_lead (C' := nF S' 2 r b) (N' := nF S' 3 r b) hl hu hL hF (fun j hj hju => by
        unfold nF
        rw [nkE, m2 _ (fun e => hju (inj j u hj hu (by rw [e, ed])))]) (by
        unfold nF
        rw [nkE, ← ed, m2d]; exact hH) (by
        unfold nF
        rw [nkE, ← ep, ← eq, m3p]) (by
        unfold nF
        rw [nkE, ← eq, m3q, ← hCd]; exact hF) (fun j hj hjb hjH => by
        unfold nF
        rw [nkE, m3 _ (fun e => hjb (inj j bb hj hbb.2.1 (by rw [e, ep]))) (fun e => hjH (inj j H hj h2 (by rw [e, eq])))])⟩, ty_x hY' (by rw [bS]) (iG g' a2) (fun j => ⟨m0 _, m2 _ (by rw [ed]; exact crs _ _), m3 _ (by rw [ep]; exact crs _ _) (by rw [eq]; exact crs _ _)⟩)⟩
