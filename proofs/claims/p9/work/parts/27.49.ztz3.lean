theorem tz_g {S : ZS} {g : Nat} (hc : 4 ≤ rc g) (hZ : TZ S) : ∃ r b g' r' b', g ≠ g' ∧ r ≠ r' ∧ b ≠ b' ∧ TXs S g r b g' r' b' ∧ TY S g r b ∧ TY S g' r' b' ∧ ∀ S', TXs S' g r b g' r' b' → TY S' g r b → TY S' g' r' b' → TZ S' := by
  obtain ⟨hx, h1, h2⟩ := hZ
  rcases rc_3 hc with e | e
  · subst e
    exact ⟨38, 40, 99, 102, 104, by decide, by decide, by decide, hx, h1, h2, fun S' a b c => ⟨a, b, c⟩⟩
  · subst e
    exact ⟨102, 104, 35, 38, 40, by decide, by decide, by decide, txs_s hx, h2, h1, fun S' a b c => ⟨txs_s a, c, b⟩⟩
theorem t_d_X1_grow {SZ S : ZS} {x0 : Nat} {x1 x2 : Int32} (hT : ZT S) (hR : RP SZ S) (r_x0 : zK S x0 = 1) (q0 : TZ S) (q1 : 4 ≤ rc x0) (q2 : 0 ≤ x1.toInt ∧ x1.toInt ≤ (cn S x0 : Int)) : Ok (d_X1_grow x0 x1 x2 S) (fun o => ZT o.2 ∧ RP SZ o.2 ∧ GP S x0 (o.1, o.2)) := by
  obtain ⟨r, b, g', r', b', hgg, hrr, hbb, hX, hY, hY', back⟩ := tz_g q1 q0
  obtain ⟨o, ho, T', R', A', ⟨t1, t2, t3⟩, hG⟩ := grow_g (x1 := x1) (x2 := x2) hT hgg hrr hbb hX hY hY' q2.1 q2.2
  exact ⟨o, ho, T', rp_t hR ⟨R', fun _ => back o.2 t1 t2 t3, A'⟩, hG⟩
theorem txs_x {S S' : ZS} {g r b g' r' b' : Nat} (hX : TXs S g r b g' r' b') (hK : zK S' = zK S) (hB : zB S' = zB S) (hP : ∀ a j, zK S a = 1 → zP S' j a = zP S j a) : TXs S' g r b g' r' b' := by
  obtain ⟨⟨a1, a2⟩, ⟨b1, b2⟩, ⟨c1, c2⟩, ⟨d1, d2⟩, ⟨e1, e2⟩, f, k⟩ := hX
  unfold TXs
  rw [hK, hB, hP g 1 a1, hP g' 1 a2, hP g 2 a1, hP g' 2 a2]
  exact ⟨⟨a1, a2⟩, ⟨b1, b2⟩, ⟨c1, c2⟩, ⟨d1, d2⟩, ⟨e1, e2⟩, f, k⟩
theorem nk_crs {S : ZS} {g r b g' r' b' : Nat} (hX : TXs S g r b g' r' b') (hrr : r ≠ r') (m m' : Nat) : nk S r' b' m' ≠ nk S r b m := fun e => by
  obtain ⟨-, -, -, -, -, f, k⟩ := hX
  rcases nk_or (S := S) (r := r') (b := b') (k := m') with h | h
  · rcases nk_or (S := S) (r := r) (b := b) (k := m) with h2 | h2
    · exact hrr (by rw [← h2, ← e, h])
    · exact (f _ _ h2).2.1 (by rw [← e, h])
  · rcases nk_or (S := S) (r := r) (b := b) (k := m) with h2 | h2
    · exact (k _ _ h).1 (by rw [e, h2])
    · rw [e] at h; exact (k _ _ h).2.2.1 _ h2
theorem wipe_tz {S S' : ZS} {g r b g' r' b' : Nat} {y : Int32} (hT : ZT S) (hgg : g ≠ g') (hrr : r ≠ r') (hX : TXs S g r b g' r' b') (hY' : TY S g' r' b') (hf : f_X1_wipe g S = some (y, S')) : TXs S' g r b g' r' b' ∧ TY S' g r b ∧ TY S' g' r' b' := by
  have hX0 := hX
  obtain ⟨⟨a1, a2⟩, ⟨b1, b2⟩, ⟨c1, c2⟩, ⟨d1, d2⟩, ⟨e1, e2⟩, f, k⟩ := hX0
  have hf : f_X1_wipe_0 g S = some (y, S') := hf
  unfold f_X1_wipe_0 at hf
  obtain ⟨-, hf⟩ := m_chkE hf
  obtain ⟨bd, -, hf⟩ := m_calE hf
  obtain ⟨kbd, hf⟩ := m_chkE hf
  obtain ⟨⟨y2, S2⟩, ho2, hf⟩ := m_calE hf
  obtain ⟨-, hf⟩ := m_chkE hf
  obtain ⟨b3, hb3, hf⟩ := m_calE hf
  obtain ⟨-, hf⟩ := m_chkE hf
  obtain ⟨⟨y4, S4⟩, ho4, hf⟩ := m_calE hf
  obtain ⟨-, hf⟩ := m_chkE hf
  obtain ⟨S5, e5, hf⟩ := m_bndE hf
  obtain ⟨-, hf⟩ := m_chkE hf
  obtain ⟨S6, e6, hf⟩ := m_bndE hf
  obtain ⟨-, hf⟩ := m_chkE hf
  obtain ⟨S7, e7, hf⟩ := m_bndE hf
  cases hf
  have T2 : ZT S2 := (ok_of (t_f_X0_setUp (SZ := S) hT (a7_0 S) kbd) ho2).1
  have q2 : EqT S S2 := fq_X0_setUp ho2
  have f2 := (fz_X0_setUp ho2 hT.2.2.2.2.1).2.2
  have p2 : ∀ a j, zK S a = 1 → zP S2 j a = zP S j a := fun a j ha => (f2 a (lt18 ha (by decide))).2.2.2.1 j (fun h => by cases h)
  have hb3' : zP S2 1 g = some b3 := hb3
  have er : b3 = r := by
    rw [p2 g 1 a1, b1] at hb3'
    cases hb3'; rfl
  rw [er] at ho4
  have kr : zK S2 r = 4 := by rw [q2.2.2.1]; exact d1
  obtain ⟨w0, w2, w3, w4, wo⟩ := bec_I T2 kr ho4
  have q4 : EqT S2 S4 := fq_X4_become ho4
  have f4 := (fz_X4_become ho4 T2.2.2.2.2.1).2.2
  have p4 : zP S4 = zP S2 := become_P ho4
  have kS : zK S' = zK S := by
    rw [e7]; show zK S6 = _; rw [e6]; show zK S5 = _; rw [e5]; show zK S4 = _; rw [q4.2.2.1, q2.2.2.1]
  have bS : zB S' = zB S := by
    rw [e7]; show zB S6 = _; rw [e6]; show zB S5 = _; rw [e5]; show zB S4 = _; rw [q4.2.2.2.2, q2.2.2.2.2]
  have pS : zP S' = zP S2 := by
    rw [e7]; show zP S6 = _; rw [e6]; show zP S5 = _; rw [e5]; show zP S4 = _; rw [p4]
  have gr : ∀ a, zK S a = 4 → a ≠ g := fun a ha e => by rw [e, a1] at ha; omega
  have i7 : ∀ a j, a ≠ g → zI S' j a = zI S4 j a := fun a j h => by rw [e7, zI_b h, e6, zI_b h, e5, zI_b h]
  have i4 : ∀ a j, zK S a = 4 → a ≠ r → zI S4 j a = zI S j a := fun a j ha hne => by
    rw [wo a j (by rw [q2.2.2.1]; exact ha) hne]
    exact (f2 a (lt18 ha (by decide))).2.2.1 j (by rw [ha]; simp)
  have c7 : zI S' 3 g = 0 := by rw [e7, zI_j (by decide), e6, zI_j (by decide), e5]; exact zI_self _ _ _ _
  have cn0 : cn S' g = 0 := by unfold cn; rw [c7]; rfl
  have nr : ∀ m, nk S r' b' m ≠ r := fun m e => nk_crs hX hrr 0 m (by rw [e]; rfl)
  have ka' : ∀ j, zK S (nk S r' b' j) = 4 := fun j => nk_kind hT d2 e2
  refine ⟨txs_x hX kS bS (fun a j ha => by rw [pS]; exact p2 a j ha), ⟨fun j h1 h2 => by omega, fun j h1 h2 => by omega, fun _ => [], fun p hp => ?_⟩, ty_x hY' (by rw [bS]) ?_ (fun j => ⟨?_, ?_, ?_⟩)⟩
  · rw [cn0] at hp
    have hp0 : p = 0 := by omega
    subst hp0
    refine ⟨?_, List.nodup_nil, fun j => ⟨fun h => (by cases h), fun h => (by omega)⟩⟩
    show nF S' 2 r b 0 = -1
    unfold nF nk
    rw [if_pos rfl, i7 r 2 (gr r d1), w2]; rfl
  · rw [i7 g' 3 (fun h => hgg h.symm)]
    have h4 : zI S4 3 g' = zI S2 3 g' := (f4 g' (by rw [q2.2.2.1, a2]; decide)).2.2.1 3 (by rw [q2.2.2.1, a2]; decide)
    rw [h4]
    exact (f2 g' (by rw [a2]; decide)).2.2.1 3 (by rw [a2]; decide)
  · rw [i7 _ 0 (gr _ (ka' j)), i4 _ 0 (ka' j) (nr j)]
  · rw [i7 _ 2 (gr _ (ka' j)), i4 _ 2 (ka' j) (nr j)]
  · rw [i7 _ 3 (gr _ (ka' j)), i4 _ 3 (ka' j) (nr j)]
theorem rp_begin {SZ S S' : ZS} {x0 x1 : Nat} {y : Int32} (hR : RP SZ S) (hT : ZT S) (r_x0 : zK S x0 = 2) (r_x1 : zK S x1 = 6) (c_x1 : rc x1 ≤ 2) (hA : A7 S S') (hf : f_X2_begin x0 x1 S = some (y, S')) : RP SZ S' := by
  refine rp_t hR ⟨rm_f (rm_0 S) hT (fq_X2_begin hf) (fz_X2_begin hf) (by decide), fun t => ?_, hA⟩
  have hf : f_X2_begin_0 x0 x1 S = some (y, S') := hf
  unfold f_X2_begin_0 at hf
  obtain ⟨-, hf⟩ := m_chkE hf
  obtain ⟨S1, e1, hf⟩ := m_bndE hf
  have T1 : ZT S1 := e1.symm ▸ zt_P hT r_x0 (by decide) (Or.inr ⟨r_x1, rfl⟩) ⟨Nat.zero_le _, c_x1⟩
  have k1 : zK S1 x0 = 2 := by rw [e1]; exact r_x0
  have t1 : TZ S1 := tz_fr (W := []) (V := [(2, 2)]) (B := []) hT (frz_P frz_0 r_x0 e1 (List.mem_singleton.2 rfl)) (by decide) t
  obtain ⟨-, hf⟩ := m_chkE hf
  obtain ⟨g, hg, hf⟩ := m_calE hf
  obtain ⟨-, hf⟩ := m_chkE hf
  obtain ⟨⟨y3, S3⟩, h3, hf⟩ := m_calE hf
  obtain ⟨r, b, g', r', b', hgg, hrr, hbb, hX, hY, hY', back⟩ := tz_g (M_2_3 T1 k1 hg) t1
  obtain ⟨u1, u2, u3⟩ := wipe_tz T1 hgg hrr hX hY' h3
  have t3 : TZ S3 := back S3 u1 u2 u3
  have T3 : ZT S3 := (ok_of (t_f_X1_wipe (SZ := S1) T1 (a7_0 S1) hX.1.1) h3).1
  obtain ⟨k3, hf⟩ := m_chkE hf
  replace k3 : zK S3 x0 = 2 := k3
  obtain ⟨S4, e4, hf⟩ := m_bndE hf
  replace e4 : S4 = zsI S3 4 x0 0 := e4
  have T4 : ZT S4 := e4.symm ▸ zt_I T3 k3 (by decide) (by decide)
  have t4 : TZ S4 := tz_fr (W := [(2, 4)]) (V := []) (B := []) T3 (frz_I frz_0 k3 e4 (List.mem_singleton.2 rfl)) (by decide) t3
  obtain ⟨k4, hf⟩ := m_chkE hf
  obtain ⟨S5, e5, hf⟩ := m_bndE hf
  cases hf
  exact tz_fr (W := [(2, 5)]) (V := []) (B := []) T4 (frz_I frz_0 k4 e5 (List.mem_singleton.2 rfl)) (by decide) t4
