/-- a game with room for one more node -/
def SXF (S SX : ZS) (g b c : Nat) : Prop := ZT SX ∧ RM S SX ∧ A7 S SX ∧ (∀ a, zK S a < 18 → zK SX a = zK S a ∧ (∀ j, zP SX j a = zP S j a) ∧ ∀ j, ¬ (j = 3 ∧ a = g) → zI SX j a = zI S j a) ∧ (zI SX 3 g).toInt = (cn S g : Int) + 1 ∧ (∀ a, zK S a = 16 → a ≠ b → zB SX a = zB S a) ∧ (∀ i, i ≠ cn S g + 1 → zB SX b i = zB S b i) ∧ zB SX b (cn S g + 1) = some c ∧ (zB S b (cn S g + 1) = some c ∨ 18 ≤ zK S c) ∧ zK SX c = 4
theorem gw_64 {S : ZS} {g b : Nat} {x1 x2 x3 : Int32} {Q : Int32 × ZS → Prop} (hT : ZT S) (hk : zK S g = 1) (hb : zP S 2 g = some b) (kb : zK S b = 16) (hn : cn S g < 300) (hq : ∀ SX c, SXF S SX g b c → Ok (d_X1_grow_102 g x1 x2 x3 SX) Q) : Ok (d_X1_grow_64 g x1 x2 x3 S) Q := by
  unfold d_X1_grow_64
  have hc := cn_le hT hk
  have z1 : (1 : Int32).toInt = 1 := rfl
  refine ok_chk hk (ok_bnd (fun v1 e1 => ?_))
  have t1 : v1.toInt = (cn S g : Int) + 1 := ti_add e1 hc.2 z1 (by omega) (by omega)
  refine ok_chk hk (ok_bnd (fun S2 e2 => ?_))
  have T2 : ZT S2 := e2.symm ▸ zt_I hT hk (by decide) (show (0 : Int) ≤ v1.toInt ∧ v1.toInt ≤ (300 : Int) by omega)
  have k2 : zK S2 = zK S := by rw [e2]; rfl
  have n2 : zN S2 = zN S := by rw [e2]; rfl
  have p2 : zP S2 = zP S := by rw [e2]; rfl
  have b2 : zB S2 = zB S := by rw [e2]; rfl
  have i2 : zI S2 3 g = v1 := by rw [e2]; exact zI_self _ _ _ _
  have o2 : ∀ a j, ¬ (j = 3 ∧ a = g) → zI S2 j a = zI S j a := fun a j h => by
    rw [e2]
    by_cases e : j = 3
    · rw [e]; exact zI_ne (fun h2 => h ⟨e, h2⟩)
    · exact zI_j e
  have R2 : RM S S2 := rm_I (rm_0 S) e2
  have A2 : A7 S S2 := a7_I (a7_0 S) e2 hk (by decide)
  have kg : zK S2 g = 1 := by rw [k2]; exact hk
  have pb : zP S2 2 g = some b := by rw [p2]; exact hb
  have kb2 : zK S2 b = 16 := by rw [k2]; exact kb
  have nb : zN S2 b = 301 := by
    obtain ⟨b', h1, h2, h3⟩ := T_1_2 T2 kg
    rw [pb] at h1
    cases h1
    exact h3
  have ix : (zI S2 3 g).toNatClampNeg = cn S g + 1 := by
    have e : (zI S2 3 g).toNatClampNeg = (zI S2 3 g).toInt.toNat := rfl
    rw [e, i2]; omega
  refine ok_chk kg (ok_calR pb (ok_chk kg (ok_chk kb2 (ok_chk (ti_inN (v := zI S2 3 g) (n := 301) nb (by rw [i2]; omega) (by rw [i2]; omega)) (ok_bnd (fun v4 e4 => ?_))))))
  rw [ix, b2] at e4
  refine ok_opt (fun hv => ?_) (fun c hv => ?_)
  · rw [hv] at e4
    refine ok_chk kg (ok_calR pb (ok_chk kg (ok_bnd (fun q7 e7 => ok_bnd (fun S8 e8 => ?_)))))
    rw [e7] at e8 ⊢
    rw [e8]
    have hz : zB S2 b (cn S g + 1) = none := by rw [b2]; exact e4.symm
    obtain ⟨TX, RX⟩ := rm_node (i := cn S g + 1) T2 kb2 hz (by omega)
    obtain ⟨f1, f2, f3, f4, -⟩ := nd_f S2
    obtain ⟨g1, g2, g3, -⟩ := nd_e S2
    have hq0 : 18 ≤ zK S2 (zt S2) := T2.2.2.2.2.1 _ (Nat.le_refl _)
    have nN : ∀ a, zK S a < 18 → ¬ (a = zt S2 ∨ a = zt S2 + 1) := fun a ha h => by
      have := T2.2.2.2.2.1 a (by omega)
      rw [k2] at this
      omega
    have kbn : zK (zNd S2) b = 16 := by rw [f1 b (nN b (by omega))]; exact kb2
    have nbn : zN (zNd S2) b = 301 := by rw [g1]; exact nb
    refine ok_cal2R (init4 S2) (ok_chk kbn (ok_chk f4 (ok_chk (ti_inN (v := zI S2 3 g) (n := 301) nbn (by rw [i2]; omega) (by rw [i2]; omega)) (ok_bnd (fun S16 e16 => ?_)))))
    rw [ix] at e16
    refine hq S16 (zt S2) ⟨by rw [e16]; exact TX, by rw [e16]; exact rm_t R2 RX, ?_, fun a ha => ⟨?_, fun j => ?_, fun j hj => ?_⟩, ?_, fun a ha hne => ?_, fun i hi => ?_, ?_, Or.inr (by rw [← k2]; exact hq0), ?_⟩
    · refine a7_t A2 ⟨fun a h1 h2 => ?_, fun r9 h1 h2 => by rw [e16]; exact ⟨(f1 r9 (nN r9 (by rw [← k2, h1]; decide))).trans h1, f2 r9 1 (nN r9 (by rw [← k2, h1]; decide)), f3 r9 0 (nN r9 (by rw [← k2, h1]; decide)), fun c9 _ => ⟨congrFun g1 c9, congrFun g2 c9⟩⟩⟩
      rw [e16]
      refine ⟨?_, ?_, ?_⟩
      · show zK (zNd S2) a = _
        rw [f1 a (nN a (by rw [← k2, h1]; decide))]; exact h1
      · show zN (zNd S2) a = _
        rw [g1]; exact h2
      · show zA (zNd S2) a = _
        rw [g2]
    · rw [e16]
      show zK (zNd S2) a = _
      rw [f1 a (nN a ha), k2]
    · rw [e16]
      show zP (zNd S2) j a = _
      rw [f3 a j (nN a ha), p2]
    · rw [e16]
      show zI (zNd S2) j a = _
      rw [f2 a j (nN a ha), o2 a j hj]
    · rw [e16]
      show (zI (zNd S2) 3 g).toInt = _
      rw [f2 g 3 (nN g (by omega)), i2]; exact t1
    · rw [e16]
      show va_up (zB (zNd S2)) b (va_up (zB (zNd S2) b) (cn S g + 1) (some (zt S2))) a = _
      rw [va_up_ne _ _ hne, g3, b2]
    · rw [e16]
      show va_up (zB (zNd S2)) b (va_up (zB (zNd S2) b) (cn S g + 1) (some (zt S2))) b i = _
      rw [va_up_self, va_up_ne _ _ hi, g3, b2]
    · rw [e16]
      show va_up (zB (zNd S2)) b (va_up (zB (zNd S2) b) (cn S g + 1) (some (zt S2))) b (cn S g + 1) = _
      rw [va_up_self, va_up_self]
    · rw [e16]; exact f4
  · rw [hv] at e4
    refine hq S2 c ⟨T2, R2, A2, fun a ha => ⟨by rw [k2], fun j => by rw [p2], fun j hj => o2 a j hj⟩, by rw [i2]; exact t1, fun a _ _ => by rw [b2], fun i _ => by rw [b2], by rw [b2]; exact e4.symm, Or.inl e4.symm, ?_⟩
    exact (T2.2.2.2.1 b).2.1 kb2 (cn S g + 1) c (by rw [b2]; exact e4.symm)
theorem nk_cell {S : ZS} {r b k n : Nat} (hn : ∀ k, 1 ≤ k → k ≤ n → zB S b k ≠ none) (hk : k ≤ n) : (k = 0 ∧ nk S r b k = r) ∨ (1 ≤ k ∧ zB S b k = some (nk S r b k)) := by
  unfold nk
  by_cases e : k = 0
  · exact Or.inl ⟨e, if_pos e⟩
  · refine Or.inr ⟨by omega, ?_⟩
    rw [if_neg e]
    cases h : zB S b k with
    | none => exact absurd h (hn k (by omega) hk)
    | some c => rfl
theorem nk_or {S : ZS} {r b k : Nat} : nk S r b k = r ∨ zB S b k = some (nk S r b k) := by
  unfold nk
  by_cases e : k = 0
  · exact Or.inl (if_pos e)
  · rw [if_neg e]
    cases h : zB S b k with
    | none => exact Or.inl rfl
    | some c => exact Or.inr rfl
theorem grow_tz {S SX S2 S' : ZS} {g r b g' r' b' c node : Nat} {x1 x2 x3 y : Int32} {L : Nat → List Nat} (hT : ZT S) (hgg : g ≠ g') (hrr : r ≠ r') (hbb : b ≠ b') (hX : TXs S g r b g' r' b') (h1 : ∀ k, 1 ≤ k → k ≤ cn S g → zB S b k ≠ none) (hb : TTb (cn S g) (nF S 0 r b) (fun _ => 0)) (hl : TTl (cn S g) (nF S 0 r b) (nF S 2 r b) (nF S 3 r b) L) (hY' : TY S g' r' b') (hF : SXF S SX g b c) (hnd : x1.toInt = (node : Int)) (hnode : node ≤ cn S g)
    (hx3 : (L node = [] → x3.toInt = -1) ∧ (∀ h : L node ≠ [], x3.toInt = (((L node).getLast h : Nat) : Int)))
    (hbec : f_X4_become c x1 x2 SX = some (y, S2)) (hkS : zK S' = zK SX) (hpS : zP S' = zP SX) (hbS : zB S' = zB SX) (hiS : ∀ a, zK SX a = 1 → zI S' 3 a = zI SX 3 a)
    (hS' : (x3 = -1 ∧ S' = zsI S2 2 (nd SX g x1) (zI SX 3 g)) ∨ (x3 ≠ -1 ∧ S' = zsI S2 3 (nd SX g x3) (zI SX 3 g))) : TXs S' g r b g' r' b' ∧ TY S' g r b ∧ TY S' g' r' b' ∧ cn S' g = cn S g + 1 ∧ zI S' 4 c = 0 ∧ nk S' r b (cn S g + 1) = c := by
  obtain ⟨⟨a1, a2⟩, ⟨b1, b2⟩, ⟨c1, c2⟩, ⟨d1, d2⟩, ⟨e1, e2⟩, f, k⟩ := hX
  obtain ⟨TX, RX, AX, oX, nX, bX, iX, cX, sX, kcX⟩ := hF
  have kX : ∀ a, zK S a < 18 → zK SX a = zK S a := fun a ha => (oX a ha).1
  have kO : ∀ a, zK S a < 18 → zK S' a = zK S a := fun a ha => by rw [hkS]; exact kX a ha
  have pO : ∀ a j, zK S a < 18 → zP S' j a = zP S j a := fun a j ha => by rw [hpS]; exact (oX a ha).2.1 j
  have bb : ∀ i, i ≠ cn S g + 1 → zB S' b i = zB S b i := fun i hi => by rw [hbS]; exact iX i hi
  have bc : zB S' b (cn S g + 1) = some c := by rw [hbS]; exact cX
  have bb' : zB S' b' = zB S b' := by rw [hbS]; exact bX b' e2 (fun h => hbb h.symm)
  have eK : ∀ i d, zB S b i = some d → zK S d = 4 := fun i d h => (hT.2.2.2.1 b).2.1 e1 i d h
  have eK' : ∀ i d, zB S b' i = some d → zK S d = 4 := fun i d h => (hT.2.2.2.1 b').2.1 e2 i d h
  have cr : c ≠ r ∧ c ≠ r' ∧ (∀ j, zB S b' j ≠ some c) ∧ ∀ j, j ≠ cn S g + 1 → zB S b j ≠ some c := by
    rcases sX with h | h
    · obtain ⟨u1, u2, u3, u4⟩ := f _ _ h
      exact ⟨u1, u2, u3, fun j hj hh => hj (u4 j hh)⟩
    · refine ⟨fun e => by rw [e] at h; omega, fun e => by rw [e] at h; omega, fun j hh => ?_, fun j _ hh => ?_⟩
      · have := eK' _ _ hh; omega
      · have := eK _ _ hh; omega
  have hTXs : TXs S' g r b g' r' b' := by
    refine ⟨⟨(kO g (by omega)).trans a1, (kO g' (by omega)).trans a2⟩, ⟨(pO g 1 (by omega)).trans b1, (pO g' 1 (by omega)).trans b2⟩, ⟨(pO g 2 (by omega)).trans c1, (pO g' 2 (by omega)).trans c2⟩, ⟨(kO r (by omega)).trans d1, (kO r' (by omega)).trans d2⟩, ⟨(kO b (by omega)).trans e1, (kO b' (by omega)).trans e2⟩, fun i d hd => ?_, fun i d hd => ?_⟩
    · rw [bb']
      by_cases ei : i = cn S g + 1
      · rw [ei, bc] at hd
        cases hd
        refine ⟨cr.1, cr.2.1, cr.2.2.1, fun j hj => ?_⟩
        by_cases ej : j = cn S g + 1
        · omega
        · rw [bb j ej] at hj
          exact absurd hj (cr.2.2.2 j ej)
      · rw [bb i ei] at hd
        obtain ⟨u1, u2, u3, u4⟩ := f i d hd
        refine ⟨u1, u2, u3, fun j hj => ?_⟩
        by_cases ej : j = cn S g + 1
        · rw [ej, bc] at hj
          cases hj
          exact absurd hd (cr.2.2.2 i ei)
        · rw [bb j ej] at hj; exact u4 j hj
    · rw [bb'] at hd ⊢
      obtain ⟨u1, u2, u3, u4⟩ := k i d hd
      refine ⟨u1, u2, fun j hj => ?_, u4⟩
      by_cases ej : j = cn S g + 1
      · rw [ej, bc] at hj
        cases hj
        exact cr.2.2.1 i hd
      · rw [bb j ej] at hj; exact u3 j hj
  have ka : ∀ j, zK S (nk S r b j) = 4 := fun j => nk_kind hT d1 e1
  have ka' : ∀ j, zK S (nk S r' b' j) = 4 := fun j => nk_kind hT d2 e2
  have kg : zK SX g = 1 := (kX g (by omega)).trans a1
  have rX : zP SX 1 g = some r := ((oX g (by omega)).2.1 1).trans b1
  have pX : zP SX 2 g = some b := ((oX g (by omega)).2.1 2).trans c1
  have cnX : cn SX g = cn S g + 1 := by unfold cn at nX ⊢; omega
  have nkX : ∀ j, j ≤ cn S g → nk SX r b j = nk S r b j := fun j hj => by unfold nk; rw [iX j (by omega)]
  have nk' : ∀ j, j ≤ cn S g → nk S' r b j = nk S r b j := fun j hj => by unfold nk; rw [bb j (by omega)]
  have nkc : nk S' r b (cn S g + 1) = c := by unfold nk; rw [if_neg (by omega), bc]; rfl
  have inj : ∀ i j, i ≤ cn S g → j ≤ cn S g → nk S r b i = nk S r b j → i = j := fun i j hi hj he => nk_inj (fun i c h => ⟨(f i c h).1, (f i c h).2.2.2⟩) h1 hi hj he
  have nec : ∀ j, j ≤ cn S g → nk S r b j ≠ c := fun j hj he => by
    rcases nk_cell (r := r) h1 hj with ⟨-, h⟩ | ⟨h0, h⟩
    · exact cr.1 (by rw [← he, h])
    · rw [he] at h; exact cr.2.2.2 j (by omega) h
  have uX : ∀ (i : Int32) (m : Nat), i.toInt = (m : Int) → m ≤ cn S g → nd SX g i = nk S r b m := fun i m hi hm => by
    rw [nd_nk TX kg rX pX (by omega) (by omega), hi]
    exact nkX m hm
  obtain ⟨w0, w2, w3, w4, wo⟩ := bec_I TX kcX hbec
  have cn' : cn S' g = cn S g + 1 := by unfold cn; rw [hiS g kg]; exact cnX
  have vX : (zI SX 3 g).toInt = ((cn S g + 1 : Nat) : Int) := by omega
  have oS : ∀ a j, zK S a = 4 → a ≠ c → zI S2 j a = zI S j a := fun a j ha hne => by
    rw [wo a j ((kX a (by omega)).trans ha) hne]
    exact (oX a (by omega)).2.2 j (fun h => by rw [h.2, a1] at ha; omega)
  have mn : ∀ h : L node ≠ [], 1 ≤ (L node).getLast h ∧ (L node).getLast h ≤ cn S g := fun h => by
    have := ((hl node hnode).2.2 _).1 (List.getLast_mem h)
    exact ⟨this.1, this.2.1⟩
  have zm : (-1 : Int32).toInt = -1 := rfl
  -- what the link changes
  have main : (L node = [] ∧ (∀ a, zI S' 0 a = zI S2 0 a) ∧ (∀ a, zI S' 3 a = zI S2 3 a) ∧ (∀ a, a ≠ nk S r b node → zI S' 2 a = zI S2 2 a) ∧ zI S' 2 (nk S r b node) = zI SX 3 g ∧ zI S' 4 c = 0) ∨ (∃ h : L node ≠ [], (∀ a, zI S' 0 a = zI S2 0 a) ∧ (∀ a, zI S' 2 a = zI S2 2 a) ∧ (∀ a, a ≠ nk S r b ((L node).getLast h) → zI S' 3 a = zI S2 3 a) ∧ zI S' 3 (nk S r b ((L node).getLast h)) = zI SX 3 g ∧ zI S' 4 c = 0) := by
    rcases hS' with ⟨e, h⟩ | ⟨e, h⟩
    · left
      have hL : L node = [] := Classical.byContradiction (fun hne => by
        have := hx3.2 hne
        have := mn hne
        rw [e] at *
        omega)
      rw [uX x1 node hnd hnode] at h
      refine ⟨hL, fun a => ?_, fun a => ?_, fun a ha => ?_, ?_, ?_⟩
      · rw [h]; exact zI_j (by decide)
      · rw [h]; exact zI_j (by decide)
      · rw [h]; exact zI_ne ha
      · rw [h]; exact zI_self _ _ _ _
      · rw [h, zI_j (by decide)]; exact w4
    · right
      have hL : L node ≠ [] := fun hh => e (Int32.toInt_inj.1 (hx3.1 hh))
      have := mn hL
      rw [uX x3 _ (hx3.2 hL) this.2] at h
      refine ⟨hL, fun a => ?_, fun a => ?_, fun a ha => ?_, ?_, ?_⟩
      · rw [h]; exact zI_j (by decide)
      · rw [h]; exact zI_j (by decide)
      · rw [h]; exact zI_ne ha
      · rw [h]; exact zI_self _ _ _ _
      · rw [h, zI_j (by decide)]; exact w4
  have m0 : ∀ a, zI S' 0 a = zI S2 0 a := by
    rcases main with h | ⟨hL2, h⟩
    · exact h.2.1
    · exact h.1
  have m4 : zI S' 4 c = 0 := by
    rcases main with h | ⟨hL2, h⟩
    · exact h.2.2.2.2.2
    · exact h.2.2.2.2
  have P0 : ∀ j, j ≤ cn S g → nF S' 0 r b j = nF S 0 r b j := fun j hj => by
    unfold nF
    rw [nk' j hj, m0, oS _ 0 (ka j) (nec j hj)]
  have P1 : nF S' 0 r b (cn S g + 1) = (node : Int) := by
    unfold nF
    rw [nkc, m0, w0]; exact hnd
  have hTTl : TTl (cn S g + 1) (nF S' 0 r b) (nF S' 2 r b) (nF S' 3 r b) (fun p => if p = node then L node ++ [cn S g + 1] else if p = cn S g + 1 then [] else L p) := by
    rcases main with ⟨hL, -, m3, m2, mu, -⟩ | ⟨hL, -, m2, m3, mu, -⟩
    · refine TTl_app hb hl hnode P0 P1 (fun j hj hne => ?_) (fun h => absurd hL h) (fun _ => ?_) ?_ (fun j hj _ => ?_) (fun h => absurd hL h) ?_
      · unfold nF
        rw [nk' j hj, m2 _ (fun e => hne (inj j node hj hnode e)), oS _ 2 (ka j) (nec j hj)]
      · unfold nF
        rw [nk' node hnode, mu]; exact vX
      · unfold nF
        rw [nkc, m2 c (fun e => nec node hnode e.symm), w2]; rfl
      · unfold nF
        rw [nk' j hj, m3, oS _ 3 (ka j) (nec j hj)]
      · unfold nF
        rw [nkc, m3, w3]; rfl
    · have hm := mn hL
      refine TTl_app hb hl hnode P0 P1 (fun j hj hne => ?_) (fun _ => ?_) (fun h => absurd h hL) ?_ (fun j hj hne => ?_) (fun _ => ?_) ?_
      · unfold nF
        rw [nk' j hj, m2, oS _ 2 (ka j) (nec j hj)]
      · unfold nF
        rw [nk' node hnode, m2, oS _ 2 (ka node) (nec node hnode)]
      · unfold nF
        rw [nkc, m2, w2]; rfl
      · unfold nF
        rw [nk' j hj, m3 _ (fun e => hne hL (inj j _ hj hm.2 e)), oS _ 3 (ka j) (nec j hj)]
      · unfold nF
        rw [nk' _ hm.2, mu]; exact vX
      · unfold nF
        rw [nkc, m3 c (fun e => nec _ hm.2 e.symm), w3]; rfl
  have nor : ∀ m, nk S r b m = r ∨ zB S b m = some (nk S r b m) := fun m => nk_or
  have nor' : ∀ m, nk S r' b' m = r' ∨ zB S b' m = some (nk S r' b' m) := fun m => nk_or
  have crs : ∀ m m', nk S r' b' m' ≠ nk S r b m := fun m m' e => by
    rcases nor' m' with h | h
    · rcases nor m with h2 | h2
      · exact hrr (by rw [← h2, ← e, h])
      · exact (f _ _ h2).2.1 (by rw [← e, h])
    · rcases nor m with h2 | h2
      · exact (k _ _ h).1 (by rw [e, h2])
      · rw [e] at h; exact (k _ _ h).2.2.1 _ h2
  have nec' : ∀ m, nk S r' b' m ≠ c := fun m e => by
    rcases nor' m with h | h
    · exact cr.2.1 (by rw [← e, h])
    · rw [e] at h; exact cr.2.2.1 _ h
  refine ⟨hTXs, ⟨fun j h2 h3 => ?_, fun j h2 h3 => ?_, _, by rw [cn']; exact hTTl⟩, ty_x hY' bb' ?_ (fun j => ⟨?_, ?_, ?_⟩), cn', m4, nkc⟩
  · rw [cn'] at h3
    by_cases ej : j = cn S g + 1
    · rw [ej, bc]; intro h; cases h
    · rw [bb j ej]; exact h1 j h2 (by omega)
  · rw [cn'] at h3
    by_cases ej : j = cn S g + 1
    · rw [ej, P1]; exact ⟨by omega, Int.le_refl _⟩
    · rw [P0 j (by omega)]; exact hb j h2 (by omega)
  · rw [hiS g' ((kX g' (by omega)).trans a2), (oX g' (by omega)).2.2 3 (fun h => hgg h.2.symm)]
  · rw [m0, oS _ 0 (ka' j) (nec' j)]
  · rcases main with ⟨hL, -, m3, m2, mu, -⟩ | ⟨hL, -, m2, m3, mu, -⟩
    · rw [m2 _ (crs _ _), oS _ 2 (ka' j) (nec' j)]
    · rw [m2, oS _ 2 (ka' j) (nec' j)]
  · rcases main with ⟨hL, -, m3, m2, mu, -⟩ | ⟨hL, -, m2, m3, mu, -⟩
    · rw [m3, oS _ 3 (ka' j) (nec' j)]
    · rw [m3 _ (crs _ _), oS _ 3 (ka' j) (nec' j)]
/-- what grow leaves behind -/
def GP (S : ZS) (g : Nat) (o : Int32 × ZS) : Prop := (o.1.toInt = -1 ∧ o.2 = S ∧ 300 ≤ cn S g) ∨ (o.1.toInt = (cn S g : Int) + 1 ∧ cn o.2 g = cn S g + 1 ∧ o.1.toInt ≤ 300 ∧ zI o.2 4 (nd o.2 g o.1) = 0 ∧ (∀ a, zK S a = 1 → a ≠ g → zI o.2 3 a = zI S 3 a) ∧ ∀ a j, zK S a < 18 → zP o.2 j a = zP S j a)
theorem grow_g {S : ZS} {g r b g' r' b' : Nat} {x1 x2 : Int32} (hT : ZT S) (hgg : g ≠ g') (hrr : r ≠ r') (hbb : b ≠ b') (hX : TXs S g r b g' r' b') (hY : TY S g r b) (hY' : TY S g' r' b') (h0 : 0 ≤ x1.toInt) (hx : x1.toInt ≤ (cn S g : Int)) : Ok (d_X1_grow g x1 x2 S) (fun o => ZT o.2 ∧ RM S o.2 ∧ A7 S o.2 ∧ (TXs o.2 g r b g' r' b' ∧ TY o.2 g r b ∧ TY o.2 g' r' b') ∧ GP S g o) := by
  show Ok (d_X1_grow_0 g x1 x2 S) _
  unfold d_X1_grow_0
  have hk : zK S g = 1 := hX.1.1
  have hr : zP S 1 g = some r := hX.2.1.1
  have hb : zP S 2 g = some b := hX.2.2.1.1
  have kb : zK S b = 16 := hX.2.2.2.2.1.1
  have hc := cn_le hT hk
  have z3 : (300 : Int32).toInt = 300 := rfl
  refine ok_chk hk (ok_if (fun e => ?_) (fun e => ok_ret ⟨hT, rm_0 S, a7_0 S, ⟨hX, hY, hY'⟩, Or.inl ⟨rfl, rfl, by
    have e9 := ti_ltN (a := zI S 3 g) (b := 300) e rfl rfl
    omega⟩⟩))
  replace e := ti_ltP (a := zI S 3 g) (b := 300) e rfl rfl
  obtain ⟨u, h1, k1, a1⟩ := roz (t_f_X1_at (x1 := x1) hT hk)
  dsimp only at k1 a1
  have eu : u = nk S r b x1.toInt.toNat := by rw [a1, nd_nk hT hk hr hb h0 hx]
  refine ok_chk hk (ok_calR h1 (ok_chk ⟨rfl, rfl⟩ (ok_chk k1 ?_)))
  obtain ⟨hn, hbt, L, hl⟩ := hY
  obtain ⟨l1, l2, l3⟩ := hl x1.toInt.toNat (by omega)
  have hlen : (L x1.toInt.toNat).length ≤ cn S g := chn_len hl (by omega)
  have hch : chn (nF S 3 r b) (L x1.toInt.toNat) (zI S 2 u).toInt := by
    have : nF S 2 r b x1.toInt.toNat = (zI S 2 u).toInt := by unfold nF; rw [← eu]
    rw [← this]; exact l1
  refine gw_24 hT hk hr hb (L x1.toInt.toNat) mFuel (zI S 2 u) 0 hch (fun k hk2 => ⟨((l3 k).1 hk2).1, ((l3 k).1 hk2).2.1⟩) (by show _ < 200000; omega) (by decide) (by have z : (0 : Int32).toInt = 0 := rfl; omega) (fun x3 g1 g2 => ?_)
  refine gw_64 hT hk hb kb (by omega) (fun SX c hF => ?_)
  have hF2 := hF
  obtain ⟨TX, RX, AX, oX, nX, bX, iX, cX, sX, kcX⟩ := hF2
  have kg : zK SX g = 1 := ((oX g (by omega)).1).trans hk
  have pX : zP SX 2 g = some b := ((oX g (by omega)).2.1 2).trans hb
  have rX : zP SX 1 g = some r := ((oX g (by omega)).2.1 1).trans hr
  have kbX : zK SX b = 16 := ((oX b (by omega)).1).trans kb
  have cnX : cn SX g = cn S g + 1 := by unfold cn at nX ⊢; omega
  have ec : nd SX g (zI SX 3 g) = c := by
    rw [nd_nk TX kg rX pX (by omega) (by omega), nX]
    have : ((cn S g : Int) + 1).toNat = cn S g + 1 := by omega
    rw [this]
    unfold nk
    rw [if_neg (by omega), cX]; rfl
  obtain ⟨o, ho, T', R', A', v', n', ⟨s1, s2, s3, s4⟩, S2, y, hbec, -, hS'⟩ := gw_102 (x1 := x1) (x2 := x2) (x3 := x3) TX kg pX kbX
  rw [ec] at hbec
  obtain ⟨t1, t2, t3, t4, t5, t6⟩ := grow_tz (S' := o.2) (node := x1.toInt.toNat) hT hgg hrr hbb hX hn hbt hl hY' hF (by omega) (by omega) ⟨g1, g2⟩ hbec s1 s2 s3 s4 (by
    rcases hS' with ⟨e1, -, e2⟩ | ⟨e1, -, e2⟩
    · exact Or.inl ⟨e1, e2⟩
    · exact Or.inr ⟨e1, e2⟩)
  refine ⟨o, ho, T', rm_t RX R', a7_t AX A', ⟨t1, t2, t3⟩, Or.inr ⟨?_, t4, ?_, ?_, fun a ha hne => ?_, fun a j ha => ?_⟩⟩
  · rw [v']; exact nX
  · rw [v', nX]; omega
  · rw [n', v', ec]; exact t5
  · rw [s4 a ((oX a (by omega)).1.trans ha)]
    exact (oX a (by omega)).2.2 3 (fun h => hne h.2)
  · rw [s2]; exact (oX a ha).2.1 j
