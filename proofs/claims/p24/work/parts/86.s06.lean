section
/-- only the board b changes -/
noncomputable def SB (S S' : ZS) (b : Nat) : Prop := EqT S S' ∧ zP S' = zP S ∧ (∀ j a, a ≠ b → zI S' j a = zI S j a) ∧ (∀ a, a ≠ b + 1 → zA S' a = zA S a) ∧ zc S' = zc S
section SBS
variable {S S1 S2 S' : ZS} {b : Nat}
theorem sb_0 : SB S S b := ⟨eqt_0, rfl, fun _ _ _ => rfl, fun _ _ => rfl, rfl⟩
theorem sb_t (h : SB S S1 b) (h2 : SB S1 S2 b) : SB S S2 b := ⟨eqt_t h.1 h2.1, h2.2.1.trans h.2.1, fun j a ha => (h2.2.2.1 j a ha).trans (h.2.2.1 j a ha), fun a ha => (h2.2.2.2.1 a ha).trans (h.2.2.2.1 a ha), h2.2.2.2.2.trans h.2.2.2.2⟩
theorem sb_A {i : Nat} {v : Int32} (e : S' = zsA S (b + 1) i v) : SB S S' b := by
  subst e
  exact ⟨⟨rfl, rfl, rfl, rfl, rfl⟩, rfl, fun _ _ _ => rfl, fun a ha => va_up_ne _ _ ha, rfl⟩
theorem sb_I {j : Nat} {v : Int32} (e : S' = zsI S j b v) : SB S S' b := by
  subst e
  exact ⟨⟨rfl, rfl, rfl, rfl, rfl⟩, rfl, fun i a ha => zI_b ha, fun _ _ => rfl, rfl⟩
theorem sb_C {c sp dp n : Nat} (e : S' = zsC S c (b + 1) sp dp n) : SB S S' b := by
  subst e
  exact ⟨⟨rfl, rfl, rfl, rfl, rfl⟩, rfl, fun _ _ _ => rfl, fun a ha => va_up_ne _ _ ha, rfl⟩
theorem mB_e (hp : zP S' 0 b = zP S 0 b) (ha : ∀ c, zP S 0 b = some c → zA S' c = zA S c) : mCb S' b = mCb S b := by
  funext s
  unfold mCb
  rw [hp]
  cases h : zP S 0 b with
  | none => rfl
  | some c =>
    have e := ha c h
    simp only [e]
/-- another board stays as it was -/
theorem mB_o {c : Nat} (h : SB S S' c) (hp : zP S 0 b = some (b + 1)) (hne : b ≠ c) : mCb S' b = mCb S b := mB_e (congrFun (congrFun h.2.1 0) b) (fun d hd => by
  rw [hp] at hd
  cases hd
  exact h.2.2.2.1 _ (by omega))
theorem mB_I {j a : Nat} {v : Int32} (e : S' = zsI S j a v) : mCb S' b = mCb S b := by subst e; rfl
theorem mB_A {x v : Int32} (hp : zP S 0 b = some (b + 1)) (h : 0 ≤ x.toInt ∧ x.toInt < 64) (e : S' = zsA S (b + 1) x.toNatClampNeg v) : mCb S' b = up (mCb S b) x.toInt v.toInt := by
  subst e
  funext s
  have h4 : x.toNatClampNeg = x.toInt.toNat := rfl
  have h5 : zA (zsA S (b + 1) x.toNatClampNeg v) (b + 1) = upd (zA S (b + 1)) x.toNatClampNeg v := va_up_self _ _ _
  have h6 : zP (zsA S (b + 1) x.toNatClampNeg v) 0 b = some (b + 1) := hp
  unfold mCb up
  rw [h6, hp]
  show (if 0 ≤ s ∧ s < 64 then (zA (zsA S (b + 1) x.toNatClampNeg v) (b + 1) s.toNat).toInt else 0) = if s = x.toInt then v.toInt else if 0 ≤ s ∧ s < 64 then (zA S (b + 1) s.toNat).toInt else 0
  rw [h5]
  by_cases c : s = x.toInt
  · rw [if_pos (by omega), if_pos c, h4, c]
    rw [upd_self]
  · rw [if_neg c]
    by_cases d : 0 ≤ s ∧ s < 64
    · rw [if_pos d, if_pos d, upd_ne (by omega)]
    · rw [if_neg d, if_neg d]
theorem mB_v {x : Int32} (hp : zP S 0 b = some (b + 1)) (h : 0 ≤ x.toInt ∧ x.toInt < 64) : (zA S (b + 1) x.toNatClampNeg).toInt = mCb S b x.toInt := by
  unfold mCb
  rw [if_pos h, hp]
  rfl
theorem mbd_up {m : Int → Int} {i v : Int} (h : MBd m) (hv : 0 ≤ v ∧ v ≤ 14 ∧ v ≠ 7 ∧ v ≠ 8) : MBd (up m i v) := fun s => by
  unfold up
  by_cases c : s = i
  · rw [if_pos c]; exact hv
  · rw [if_neg c]; exact h s
theorem p_put {x1 x2 y : Int32} (hp : zP S 0 b = some (b + 1)) (h1 : 0 ≤ x1.toInt ∧ x1.toInt < 64) (hf : f_X0_put b x1 x2 S = some (y, S')) : SB S S' b ∧ mCb S' b = up (mCb S b) x1.toInt x2.toInt ∧ (x2.toInt = 6 → zI S' 1 b = x1) ∧ (x2.toInt ≠ 6 → zI S' 1 b = zI S 1 b) ∧ (x2.toInt = 14 → zI S' 2 b = x1) ∧ (x2.toInt ≠ 14 → zI S' 2 b = zI S 2 b) ∧ ∀ j, j ≠ 1 → j ≠ 2 → zI S' j b = zI S j b := by
  have hf : f_X0_put_0 b x1 x2 S = some (y, S') := hf
  have z6 : (6 : Int32).toInt = 6 := rfl
  have z14 : (14 : Int32).toInt = 14 := rfl
  unfold f_X0_put_0 at hf
  obtain ⟨-, hf⟩ := m_chkE hf
  obtain ⟨c, hc, hf⟩ := m_calE hf
  rw [hp] at hc
  cases hc
  obtain ⟨-, hf⟩ := m_chkE hf
  obtain ⟨-, hf⟩ := m_chkE hf
  obtain ⟨S2, e2, hf⟩ := m_bndE hf
  have b2 : SB S S2 b := sb_A e2
  have m2 := mB_A hp h1 e2
  have i2 : zI S2 = zI S := by rw [e2]; rfl
  rcases m_ifE hf with ⟨c6, hf⟩ | ⟨c6, hf⟩
  · obtain ⟨-, hf⟩ := m_chkE hf
    obtain ⟨S4, e4, hf⟩ := m_bndE hf
    cases hf
    have n6 : x2.toInt = 6 := by rw [c6]; rfl
    refine ⟨sb_t b2 (sb_I e4), (mB_I e4).trans m2, fun _ => by rw [e4, zI_self], fun h => absurd n6 h, fun h => by omega, fun _ => by rw [e4, zI_j (by decide), i2], fun j j1 j2 => by rw [e4, zI_j j1, i2]⟩
  · have n6 : x2.toInt ≠ 6 := fun h => c6 (Int32.toInt_inj.1 (h.trans z6.symm))
    rcases m_ifE hf with ⟨c7, hf⟩ | ⟨c7, hf⟩
    · obtain ⟨-, hf⟩ := m_chkE hf
      obtain ⟨S4, e4, hf⟩ := m_bndE hf
      cases hf
      have n7 : x2.toInt = 14 := by rw [c7]; rfl
      refine ⟨sb_t b2 (sb_I e4), (mB_I e4).trans m2, fun h => absurd h n6, fun _ => by rw [e4, zI_j (by decide), i2], fun _ => by rw [e4, zI_self], fun h => absurd n7 h, fun j j1 j2 => by rw [e4, zI_j j2, i2]⟩
    · have n7 : x2.toInt ≠ 14 := fun h => c7 (Int32.toInt_inj.1 (h.trans z14.symm))
      cases hf
      exact ⟨b2, m2, fun h => absurd h n6, fun _ => by rw [i2], fun h => absurd h n7, fun _ => by rw [i2], fun j _ _ => by rw [i2]⟩
theorem p_copy {c : Nat} {y : Int32} (hp : zP S 0 b = some (b + 1)) (hq : zP S 0 c = some (c + 1)) (hf : f_X0_copyFrom b c S = some (y, S')) : SB S S' b ∧ mCb S' b = mCb S c ∧ ∀ j, 1 ≤ j → j ≤ 6 → zI S' j b = zI S j c := by
  have hf : f_X0_copyFrom_0 b c S = some (y, S') := hf
  unfold f_X0_copyFrom_0 at hf
  obtain ⟨-, hf⟩ := m_chkE hf
  obtain ⟨d1, hd1, hf⟩ := m_calE hf
  rw [hq] at hd1
  cases hd1
  obtain ⟨-, hf⟩ := m_chkE hf
  obtain ⟨d2, hd2, hf⟩ := m_calE hf
  rw [hp] at hd2
  cases hd2
  obtain ⟨-, hf⟩ := m_chkE hf
  obtain ⟨-, hf⟩ := m_chkE hf
  obtain ⟨-, hf⟩ := m_chkE hf
  obtain ⟨S3, e3, hf⟩ := m_bndE hf
  obtain ⟨-, hf⟩ := m_chkE hf
  obtain ⟨-, hf⟩ := m_chkE hf
  obtain ⟨S4, e4, hf⟩ := m_bndE hf
  obtain ⟨-, hf⟩ := m_chkE hf
  obtain ⟨-, hf⟩ := m_chkE hf
  obtain ⟨S5, e5, hf⟩ := m_bndE hf
  obtain ⟨-, hf⟩ := m_chkE hf
  obtain ⟨-, hf⟩ := m_chkE hf
  obtain ⟨S6, e6, hf⟩ := m_bndE hf
  obtain ⟨-, hf⟩ := m_chkE hf
  obtain ⟨-, hf⟩ := m_chkE hf
  obtain ⟨S7, e7, hf⟩ := m_bndE hf
  obtain ⟨-, hf⟩ := m_chkE hf
  obtain ⟨-, hf⟩ := m_chkE hf
  obtain ⟨S8, e8, hf⟩ := m_bndE hf
  obtain ⟨-, hf⟩ := m_chkE hf
  obtain ⟨-, hf⟩ := m_chkE hf
  obtain ⟨S9, e9, hf⟩ := m_bndE hf
  cases hf
  have i3 : zI S3 = zI S := by rw [e3]; rfl
  refine ⟨sb_t (sb_t (sb_t (sb_t (sb_t (sb_t (sb_C e3) (sb_I e4)) (sb_I e5)) (sb_I e6)) (sb_I e7)) (sb_I e8)) (sb_I e9), ?_, ?_⟩
  · rw [mB_I e9, mB_I e8, mB_I e7, mB_I e6, mB_I e5, mB_I e4, e3]
    funext s
    have h5 : zA (zsC S (c + 1) (b + 1) ((0 : Int32)).toNatClampNeg ((0 : Int32)).toNatClampNeg ((64 : Int32)).toNatClampNeg) (b + 1) = va_cpy (zA S (c + 1)) (zA S (b + 1)) 0 0 64 := va_up_self _ _ _
    have h6 : zP (zsC S (c + 1) (b + 1) ((0 : Int32)).toNatClampNeg ((0 : Int32)).toNatClampNeg ((64 : Int32)).toNatClampNeg) 0 b = some (b + 1) := hp
    unfold mCb
    rw [h6, hq]
    by_cases d : 0 ≤ s ∧ s < 64
    · rw [if_pos d, if_pos d]
      show (zA (zsC S (c + 1) (b + 1) ((0 : Int32)).toNatClampNeg ((0 : Int32)).toNatClampNeg ((64 : Int32)).toNatClampNeg) (b + 1) s.toNat).toInt = (zA S (c + 1) s.toNat).toInt
      rw [h5]
      unfold va_cpy
      rw [if_pos (by omega)]
      congr 2
      omega
    · rw [if_neg d, if_neg d]
  · by_cases e : c = b
    · subst e
      intro j j1 j2
      have h9 : ∀ (T : ZS) (k a : Nat), zI (zsI T k a (zI T k a)) = zI T := fun T k a => by
        funext i d
        show va_up (zI T) k (va_up (zI T k) a (zI T k a)) i d = _
        by_cases f : i = k
        · rw [f, va_up_self]
          by_cases g : d = a
          · rw [g, va_up_self]
          · rw [va_up_ne _ _ g]
        · rw [va_up_ne _ _ f]
      rw [e9, h9, e8, h9, e7, h9, e6, h9, e5, h9, e4, h9, i3]
    · have o4 : ∀ j, zI S4 j c = zI S j c := fun j => by rw [e4, zI_b e, i3]
      have o5 : ∀ j, zI S5 j c = zI S j c := fun j => by rw [e5, zI_b e, o4]
      have o6 : ∀ j, zI S6 j c = zI S j c := fun j => by rw [e6, zI_b e, o5]
      have o7 : ∀ j, zI S7 j c = zI S j c := fun j => by rw [e7, zI_b e, o6]
      have o8 : ∀ j, zI S8 j c = zI S j c := fun j => by rw [e8, zI_b e, o7]
      intro j j1 j2
      have hj : j = 1 ∨ j = 2 ∨ j = 3 ∨ j = 4 ∨ j = 5 ∨ j = 6 := by omega
      rcases hj with h | h | h | h | h | h <;> subst h
      · rw [e9, zI_j (by decide), e8, zI_j (by decide), e7, zI_j (by decide), e6, zI_j (by decide), e5, zI_j (by decide), e4, zI_self, i3]
      · rw [e9, zI_j (by decide), e8, zI_j (by decide), e7, zI_j (by decide), e6, zI_j (by decide), e5, zI_self, o4]
      · rw [e9, zI_j (by decide), e8, zI_j (by decide), e7, zI_j (by decide), e6, zI_self, o5]
      · rw [e9, zI_j (by decide), e8, zI_j (by decide), e7, zI_self, o6]
      · rw [e9, zI_j (by decide), e8, zI_self, o7]
      · rw [e9, zI_self, o8]
noncomputable def c1 (m : Int → Int) (pw ps a t : Int) : Int → Int := if pw = 1 ∧ t = ps then up m (a / 8 * 8 + t % 8) 0 else m
noncomputable def c2 (m : Int → Int) (a t : Int) : Int → Int := if m a % 8 = 6 ∧ a / 8 = t / 8 ∧ (t = a + 2 ∨ t = a - 2) then up (up m ((a + t) / 2) (m (if a < t then a / 8 * 8 + 7 else a / 8 * 8))) (if a < t then a / 8 * 8 + 7 else a / 8 * 8) 0 else m
noncomputable def pv (m : Int → Int) (sd a p : Int) : Int := if p = 0 then m a else p + 8 * sd
noncomputable def c3 (m : Int → Int) (sd a t p : Int) : Int → Int := up (up m t (pv m sd a p)) a 0
noncomputable def psC (m : Int → Int) (sd pw a t : Int) : Int := if pw = 1 ∧ (t = a + 16 ∨ t = a - 16) ∧ (0 ≤ (a + t) / 2 + (16 * (1 - sd) - 8) ∧ (a + t) / 2 + (16 * (1 - sd) - 8) < 64 ∧ ((0 < ((a + t) / 2 + (16 * (1 - sd) - 8)) % 8 ∧ m ((a + t) / 2 + (16 * (1 - sd) - 8) - 1) = 1 + 8 * (1 - sd)) ∨ (((a + t) / 2 + (16 * (1 - sd) - 8)) % 8 < 7 ∧ m ((a + t) / 2 + (16 * (1 - sd) - 8) + 1) = 1 + 8 * (1 - sd)))) then (a + t) / 2 else -1
/-- what play leaves of a board: men, kings, rights, passed square -/
noncomputable def PLq (S S' : ZS) (b : Nat) (M : Int → Int) (wk bk R : Int32) (P : Int) : Prop := SB S S' b ∧ mCb S' b = M ∧ zI S' 1 b = wk ∧ zI S' 2 b = bk ∧ zI S' 4 b = R ∧ (zI S' 5 b).toInt = P ∧ (zI S' 6 b).toInt = (zI S 6 b).toInt + (zI S 3 b).toInt ∧ (zI S' 3 b).toInt = 1 - (zI S 3 b).toInt
noncomputable def BN (S : ZS) (b : Nat) : Prop := (0 ≤ (zI S 6 b).toInt ∧ (zI S 6 b).toInt ≤ 100000) ∧ 0 ≤ (zI S 3 b).toInt ∧ (zI S 3 b).toInt ≤ 1
theorem pl_pre {M : Int → Int} {wk bk R : Int32} {P : Int} (h : SB S S1 b) (h6 : zI S1 6 b = zI S 6 b) (h3 : zI S1 3 b = zI S 3 b) (hq : PLq S1 S' b M wk bk R P) : PLq S S' b M wk bk R P := by
  obtain ⟨a1, a2, a3, a4, a5, a6, a7, a8⟩ := hq
  rw [h6, h3] at a7
  rw [h3] at a8
  exact ⟨sb_t h a1, a2, a3, a4, a5, a6, a7, a8⟩
theorem p_227 {y : Int32} (hn : BN S b) (hf : f_X0_play_227 b S = some (y, S')) : PLq S S' b (mCb S b) (zI S 1 b) (zI S 2 b) (zI S 4 b) (zI S 5 b).toInt := by
  obtain ⟨⟨n1, n2⟩, n3, n4⟩ := hn
  unfold f_X0_play_227 at hf
  obtain ⟨-, hf⟩ := m_chkE hf
  obtain ⟨-, hf⟩ := m_chkE hf
  obtain ⟨v1, e1, hf⟩ := m_bndE hf
  obtain ⟨-, hf⟩ := m_chkE hf
  obtain ⟨S2, e2, hf⟩ := m_bndE hf
  obtain ⟨-, hf⟩ := m_chkE hf
  obtain ⟨v3, e3, hf⟩ := m_bndE hf
  obtain ⟨-, hf⟩ := m_chkE hf
  obtain ⟨S4, e4, hf⟩ := m_bndE hf
  cases hf
  have t1 : v1.toInt = (zI S 6 b).toInt + (zI S 3 b).toInt := ti_add e1 rfl rfl (by omega) (by omega)
  have i3 : zI S2 3 b = zI S 3 b := by rw [e2, zI_j (by decide)]
  have t3 : v3.toInt = 1 - (zI S 3 b).toInt := ti_sub e3 (show (1 : Int32).toInt = 1 from rfl) (by rw [i3]) (by omega) (by omega)
  have o : ∀ j, j ≠ 3 → j ≠ 6 → zI S' j b = zI S j b := fun j j1 j2 => by rw [e4, zI_j j1, e2, zI_j j2]
  refine ⟨sb_t (sb_I e2) (sb_I e4), (mB_I e4).trans (mB_I e2), o 1 (by decide) (by decide), o 2 (by decide) (by decide), o 4 (by decide) (by decide), by rw [o 5 (by decide) (by decide)], ?_, ?_⟩
  · rw [e4, zI_j (by decide), e2, zI_self]; exact t1
  · rw [e4, zI_self]; exact t3
theorem p_200 {x2 x3 y : Int32} (hT : ZT S) (kb : zK S b = 0) (hn : BN S b) (h2 : 0 ≤ x2.toInt ∧ x2.toInt < 64) (h3 : 0 ≤ x3.toInt ∧ x3.toInt < 64) (h16 : x3.toInt = x2.toInt + 16 ∨ x3.toInt = x2.toInt - 16) (h5 : (zI S 5 b).toInt = -1) (hf : f_X0_play_200 b x2 x3 S = some (y, S')) : PLq S S' b (mCb S b) (zI S 1 b) (zI S 2 b) (zI S 4 b) (psC (mCb S b) (zI S 3 b).toInt 1 x2.toInt x3.toInt) := by
  obtain ⟨⟨n1, n2⟩, n3, n4⟩ := id hn
  unfold f_X0_play_200 at hf
  obtain ⟨v1, e1, hf⟩ := m_bndE hf
  obtain ⟨v2, e2, hf⟩ := m_bndE hf
  obtain ⟨-, hf⟩ := m_chkE hf
  obtain ⟨v3, e3, hf⟩ := m_bndE hf
  obtain ⟨-, hf⟩ := m_chkE hf
  obtain ⟨r4, h4, hf⟩ := m_calR hf (fun _ h => ro_X0_pawnAttacks h)
  have t1 : v1.toInt = x2.toInt + x3.toInt := ti_add e1 rfl rfl (by omega) (by omega)
  have t2 : v2.toInt = (x2.toInt + x3.toInt) / 2 := ti_div e2 t1 (show (2 : Int32).toInt = 2 from rfl) (by omega) (by decide)
  have t3 : v3.toInt = 1 - (zI S 3 b).toInt := ti_sub e3 (show (1 : Int32).toInt = 1 from rfl) rfl (by omega) (by omega)
  obtain ⟨-, r4b, p4⟩ := ok_of (x_f_X0_pawnAttacks (hh := (x2.toInt + x3.toInt) / 2 + (16 * (1 - (zI S 3 b).toInt) - 8)) (ww := 1 + 8 * (1 - (zI S 3 b).toInt)) hT kb (by omega) (by omega) (by rw [t2, t3]) (by rw [t3])) h4
  dsimp only at r4b p4 hf
  rcases m_ifE hf with ⟨c, hf⟩ | ⟨c, hf⟩
  · have q := p_227 hn hf
    have z : r4.toInt = 0 := by rw [c]; rfl
    have e : psC (mCb S b) (zI S 3 b).toInt 1 x2.toInt x3.toInt = -1 := if_neg (fun g => by have := p4.2 g.2.2; omega)
    rw [e]
    rw [h5] at q
    exact q
  · have z : r4.toInt ≠ 0 := fun h => c (Int32.toInt_inj.1 h)
    obtain ⟨v5, e5, hf⟩ := m_bndE hf
    obtain ⟨v6, e6, hf⟩ := m_bndE hf
    obtain ⟨-, hf⟩ := m_chkE hf
    obtain ⟨S7, e7, hf⟩ := m_bndE hf
    have t5 : v5.toInt = x2.toInt + x3.toInt := ti_add e5 rfl rfl (by omega) (by omega)
    have t6 : v6.toInt = (x2.toInt + x3.toInt) / 2 := ti_div e6 t5 (show (2 : Int32).toInt = 2 from rfl) (by omega) (by decide)
    have o : ∀ j, j ≠ 5 → zI S7 j b = zI S j b := fun j hj => by rw [e7, zI_j hj]
    have q := p_227 (S := S7) (by unfold BN; rw [o 6 (by decide), o 3 (by decide)]; exact hn) hf
    have e : psC (mCb S b) (zI S 3 b).toInt 1 x2.toInt x3.toInt = (x2.toInt + x3.toInt) / 2 := if_pos ⟨rfl, h16, p4.1 (by omega)⟩
    have i5 : (zI S7 5 b).toInt = (x2.toInt + x3.toInt) / 2 := by rw [e7, zI_self]; exact t6
    rw [i5, mB_I e7, o 1 (by decide), o 2 (by decide), o 4 (by decide)] at q
    rw [e]
    exact pl_pre (sb_I e7) (o 6 (by decide)) (o 3 (by decide)) q
/-- the king's square that is kept, when a man comes to t -/
noncomputable def kq (k man w : Int) (old t : Int32) : Int32 := if man = w then t else old
theorem p_144 {x2 x3 x5 t0 y : Int32} (hT : ZT S) (kb : zK S b = 0) (hp : zP S 0 b = some (b + 1)) (hn : BN S b) (h2 : 0 ≤ x2.toInt ∧ x2.toInt < 64) (h3 : 0 ≤ x3.toInt ∧ x3.toInt < 64) (h5 : x5.toInt = 0 ∨ x5.toInt = 1) (hf : f_X0_play_144 b x2 x3 x5 t0 x3 b S = some (y, S')) : PLq S S' b (up (up (mCb S b) x3.toInt t0.toInt) x2.toInt 0) (kq 0 t0.toInt 6 (zI S 1 b) x3) (kq 0 t0.toInt 14 (zI S 2 b) x3) (zI S 4 b &&& ((gn x2.toInt ||| gn x3.toInt) ^^^ (-1 : Int32))) (psC (up (up (mCb S b) x3.toInt t0.toInt) x2.toInt 0) (zI S 3 b).toInt x5.toInt x2.toInt x3.toInt) := by
  unfold f_X0_play_144 at hf
  obtain ⟨-, hf⟩ := m_chkE hf
  obtain ⟨⟨y1, S1⟩, h1, hf⟩ := m_calE hf
  dsimp only at hf
  have T1 : ZT S1 := (ok_of (t_f_X0_put (SZ := S) hT (a7_0 S) kb (by omega)) h1).1
  obtain ⟨b1, m1, w6, n6, w14, n14, o1⟩ := p_put hp h3 h1
  obtain ⟨k1', hf⟩ := m_chkE hf
  obtain ⟨c2, hc2, hf⟩ := m_calE hf
  have hp1 : zP S1 0 b = some (b + 1) := by rw [b1.2.1]; exact hp
  rw [hp1] at hc2
  cases hc2
  obtain ⟨ka, hf⟩ := m_chkE hf
  obtain ⟨-, hf⟩ := m_chkE hf
  obtain ⟨S3, e3, hf⟩ := m_bndE hf
  have T3 : ZT S3 := e3.symm ▸ zt_A T1 ka
  have b3 : SB S S3 b := sb_t b1 (sb_A e3)
  have m3 : mCb S3 b = up (up (mCb S b) x3.toInt t0.toInt) x2.toInt 0 := by
    rw [mB_A hp1 h2 e3, m1]; rfl
  have i3 : zI S3 = zI S1 := by rw [e3]; rfl
  obtain ⟨-, hf⟩ := m_chkE hf
  obtain ⟨⟨r4, Sy⟩, h4, hf⟩ := m_calE hf
  obtain ⟨s4, -, g4⟩ := ok_of (x_f_X0_rightsOf (x0 := x2) T3) h4
  dsimp only at s4 g4 hf
  subst s4
  obtain ⟨⟨r5, Sz⟩, h5', hf⟩ := m_calE hf
  obtain ⟨s5, -, g5⟩ := ok_of (x_f_X0_rightsOf (x0 := x3) T3) h5'
  dsimp only at s5 g5 hf
  subst s5
  obtain ⟨v6, e6, hf⟩ := m_bndE hf
  obtain ⟨v7, e7, hf⟩ := m_bndE hf
  obtain ⟨v8, e8, hf⟩ := m_bndE hf
  obtain ⟨k9, hf⟩ := m_chkE hf
  obtain ⟨S9, e9, hf⟩ := m_bndE hf
  obtain ⟨k9', hf⟩ := m_chkE hf
  obtain ⟨S10, e10, hf⟩ := m_bndE hf
  have z1 : (-1 : Int32).toInt = -1 := rfl
  have T9 : ZT S9 := e9.symm ▸ zt_W T3 k9 (by decide) rfl
  have T10 : ZT S10 := e10.symm ▸ zt_I T9 k9' (by decide) (show (-1 : Int) ≤ (-1 : Int32).toInt ∧ (-1 : Int32).toInt ≤ (63 : Int) from by decide)
  have b10 : SB S S10 b := sb_t b3 (sb_t (sb_I e9) (sb_I e10))
  have m10 : mCb S10 b = up (up (mCb S b) x3.toInt t0.toInt) x2.toInt 0 := (mB_I e10).trans ((mB_I e9).trans m3)
  have o10 : ∀ j, j ≠ 4 → j ≠ 5 → zI S10 j b = zI S1 j b := fun j j1 j2 => by rw [e10, zI_j j2, e9, zI_j j1, i3]
  have r10 : zI S10 4 b = zI S 4 b &&& ((gn x2.toInt ||| gn x3.toInt) ^^^ (-1 : Int32)) := by
    rw [e10, zI_j (by decide), e9, zI_self, e8, e7, e6, g4, g5, i3, o1 4 (by decide) (by decide)]
  have s10 : (zI S10 5 b).toInt = -1 := by rw [e10, zI_self]; rfl
  have i6 : zI S10 6 b = zI S 6 b := by rw [o10 6 (by decide) (by decide), o1 6 (by decide) (by decide)]
  have i33 : zI S10 3 b = zI S 3 b := by rw [o10 3 (by decide) (by decide), o1 3 (by decide) (by decide)]
  have hn10 : BN S10 b := by unfold BN; rw [i6, i33]; exact hn
  have k10 : zK S10 b = 0 := by rw [b10.1.2.2.1]; exact kb
  have w1 : zI S10 1 b = kq 0 t0.toInt 6 (zI S 1 b) x3 := by
    rw [o10 1 (by decide) (by decide)]
    unfold kq
    by_cases c : t0.toInt = 6
    · rw [if_pos c]; exact w6 c
    · rw [if_neg c]; exact n6 c
  have w2 : zI S10 2 b = kq 0 t0.toInt 14 (zI S 2 b) x3 := by
    rw [o10 2 (by decide) (by decide)]
    unfold kq
    by_cases c : t0.toInt = 14
    · rw [if_pos c]; exact w14 c
    · rw [if_neg c]; exact n14 c
  have z0 : (0 : Int32).toInt = 0 := rfl
  have no : ¬ (x5.toInt = 1 ∧ (x3.toInt = x2.toInt + 16 ∨ x3.toInt = x2.toInt - 16)) → f_X0_play_227 b S10 = some (y, S') → PLq S S' b (up (up (mCb S b) x3.toInt t0.toInt) x2.toInt 0) (kq 0 t0.toInt 6 (zI S 1 b) x3) (kq 0 t0.toInt 14 (zI S 2 b) x3) (zI S 4 b &&& ((gn x2.toInt ||| gn x3.toInt) ^^^ (-1 : Int32))) (psC (up (up (mCb S b) x3.toInt t0.toInt) x2.toInt 0) (zI S 3 b).toInt x5.toInt x2.toInt x3.toInt) := by
    intro hno hf
    have q := p_227 hn10 hf
    have e : psC (up (up (mCb S b) x3.toInt t0.toInt) x2.toInt 0) (zI S 3 b).toInt x5.toInt x2.toInt x3.toInt = -1 := if_neg (fun g => hno ⟨g.1, g.2.1⟩)
    rw [s10, m10, w1, w2, r10] at q
    rw [e]
    exact pl_pre b10 i6 i33 q
  have yes : x5.toInt = 1 → (x3.toInt = x2.toInt + 16 ∨ x3.toInt = x2.toInt - 16) → f_X0_play_200 b x2 x3 S10 = some (y, S') → PLq S S' b (up (up (mCb S b) x3.toInt t0.toInt) x2.toInt 0) (kq 0 t0.toInt 6 (zI S 1 b) x3) (kq 0 t0.toInt 14 (zI S 2 b) x3) (zI S 4 b &&& ((gn x2.toInt ||| gn x3.toInt) ^^^ (-1 : Int32))) (psC (up (up (mCb S b) x3.toInt t0.toInt) x2.toInt 0) (zI S 3 b).toInt x5.toInt x2.toInt x3.toInt) := by
    intro h1 h16 hf
    have q := p_200 T10 k10 hn10 h2 h3 h16 s10 hf
    rw [m10, w1, w2, r10, i33] at q
    rw [h1]
    exact pl_pre b10 i6 i33 q
  rcases m_ifE hf with ⟨c, hf⟩ | ⟨c, hf⟩
  · exact no (fun g => by rw [c] at g; omega) hf
  · have c1 : x5.toInt = 1 := h5.resolve_left (fun h => c (Int32.toInt_inj.1 h))
    obtain ⟨v11, e11, hf⟩ := m_bndE hf
    have t11 : v11.toInt = x2.toInt + 16 := ti_add e11 rfl (show (16 : Int32).toInt = 16 from rfl) (by omega) (by omega)
    rcases m_ifE hf with ⟨d, hf⟩ | ⟨d, hf⟩
    · exact yes c1 (Or.inl (by rw [d]; exact t11)) hf
    · have d1 : x3.toInt ≠ x2.toInt + 16 := fun h => d (Int32.toInt_inj.1 (h.trans t11.symm))
      obtain ⟨v12, e12, hf⟩ := m_bndE hf
      have t12 : v12.toInt = x2.toInt - 16 := ti_sub e12 rfl (show (16 : Int32).toInt = 16 from rfl) (by omega) (by omega)
      rcases m_ifE hf with ⟨f, hf⟩ | ⟨f, hf⟩
      · exact yes c1 (Or.inr (by rw [f]; exact t12)) hf
      · have f1 : x3.toInt ≠ x2.toInt - 16 := fun h => f (Int32.toInt_inj.1 (h.trans t12.symm))
        exact no (fun g => by omega) hf
theorem p_118 {x2 x3 x4 x5 y : Int32} (hT : ZT S) (kb : zK S b = 0) (hp : zP S 0 b = some (b + 1)) (hn : BN S b) (h2 : 0 ≤ x2.toInt ∧ x2.toInt < 64) (h3 : 0 ≤ x3.toInt ∧ x3.toInt < 64) (h4 : 0 ≤ x4.toInt ∧ x4.toInt ≤ 7) (h5 : x5.toInt = 0 ∨ x5.toInt = 1) (hf : f_X0_play_118 b x2 x3 x4 x5 S = some (y, S')) : PLq S S' b (c3 (mCb S b) (zI S 3 b).toInt x2.toInt x3.toInt x4.toInt) (kq 0 (pv (mCb S b) (zI S 3 b).toInt x2.toInt x4.toInt) 6 (zI S 1 b) x3) (kq 0 (pv (mCb S b) (zI S 3 b).toInt x2.toInt x4.toInt) 14 (zI S 2 b) x3) (zI S 4 b &&& ((gn x2.toInt ||| gn x3.toInt) ^^^ (-1 : Int32))) (psC (c3 (mCb S b) (zI S 3 b).toInt x2.toInt x3.toInt x4.toInt) (zI S 3 b).toInt x5.toInt x2.toInt x3.toInt) := by
  have hnn := hn.2
  unfold f_X0_play_118 at hf
  rcases m_ifE hf with ⟨c, hf⟩ | ⟨c, hf⟩
  · obtain ⟨-, hf⟩ := m_chkE hf
    obtain ⟨d, hd, hf⟩ := m_calE hf
    rw [hp] at hd
    cases hd
    obtain ⟨-, hf⟩ := m_chkE hf
    obtain ⟨-, hf⟩ := m_chkE hf
    obtain ⟨v4, e4, hf⟩ := m_bndE hf
    have q := p_144 hT kb hp hn h2 h3 h5 hf
    have ev : v4.toInt = pv (mCb S b) (zI S 3 b).toInt x2.toInt x4.toInt := by
      unfold pv
      rw [if_pos (by rw [c]; rfl), e4]
      exact mB_v hp h2
    rw [ev] at q
    exact q
  · have c0 : x4.toInt ≠ 0 := fun h => c (Int32.toInt_inj.1 h)
    obtain ⟨-, hf⟩ := m_chkE hf
    obtain ⟨v1, e1, hf⟩ := m_bndE hf
    obtain ⟨v2, e2, hf⟩ := m_bndE hf
    have t1 : v1.toInt = 8 * (zI S 3 b).toInt := ti_mul e1 (show (8 : Int32).toInt = 8 from rfl) rfl (by omega) (by omega)
    have t2 : v2.toInt = x4.toInt + 8 * (zI S 3 b).toInt := ti_add e2 rfl t1 (by omega) (by omega)
    have q := p_144 hT kb hp hn h2 h3 h5 hf
    have ev : v2.toInt = pv (mCb S b) (zI S 3 b).toInt x2.toInt x4.toInt := by
      unfold pv
      rw [if_neg c0]
      exact t2
    rw [ev] at q
    exact q
theorem p_91 {x2 x3 x4 x5 t0 y : Int32} (hT : ZT S) (kb : zK S b = 0) (hp : zP S 0 b = some (b + 1)) (hn : BN S b) (h2 : 0 ≤ x2.toInt ∧ x2.toInt < 64) (h3 : 0 ≤ x3.toInt ∧ x3.toInt < 64) (h4 : 0 ≤ x4.toInt ∧ x4.toInt ≤ 7) (h5 : x5.toInt = 0 ∨ x5.toInt = 1) (ht : 0 ≤ t0.toInt ∧ t0.toInt < 64) (hf : f_X0_play_91 b x2 x3 x4 x5 t0 S = some (y, S')) : PLq S S' b (c3 (up (up (mCb S b) ((x2.toInt + x3.toInt) / 2) (mCb S b t0.toInt)) t0.toInt 0) (zI S 3 b).toInt x2.toInt x3.toInt x4.toInt) (kq 0 (pv (up (up (mCb S b) ((x2.toInt + x3.toInt) / 2) (mCb S b t0.toInt)) t0.toInt 0) (zI S 3 b).toInt x2.toInt x4.toInt) 6 (zI S 1 b) x3) (kq 0 (pv (up (up (mCb S b) ((x2.toInt + x3.toInt) / 2) (mCb S b t0.toInt)) t0.toInt 0) (zI S 3 b).toInt x2.toInt x4.toInt) 14 (zI S 2 b) x3) (zI S 4 b &&& ((gn x2.toInt ||| gn x3.toInt) ^^^ (-1 : Int32))) (psC (c3 (up (up (mCb S b) ((x2.toInt + x3.toInt) / 2) (mCb S b t0.toInt)) t0.toInt 0) (zI S 3 b).toInt x2.toInt x3.toInt x4.toInt) (zI S 3 b).toInt x5.toInt x2.toInt x3.toInt) := by
  unfold f_X0_play_91 at hf
  obtain ⟨-, hf⟩ := m_chkE hf
  obtain ⟨d1, hd1, hf⟩ := m_calE hf
  rw [hp] at hd1
  cases hd1
  obtain ⟨v2, e2, hf⟩ := m_bndE hf
  obtain ⟨v3, e3, hf⟩ := m_bndE hf
  have t2 : v2.toInt = x2.toInt + x3.toInt := ti_add e2 rfl rfl (by omega) (by omega)
  have t3 : v3.toInt = (x2.toInt + x3.toInt) / 2 := ti_div e3 t2 (show (2 : Int32).toInt = 2 from rfl) (by omega) (by decide)
  obtain ⟨-, hf⟩ := m_chkE hf
  obtain ⟨d4, hd4, hf⟩ := m_calE hf
  rw [hp] at hd4
  cases hd4
  obtain ⟨ka, hf⟩ := m_chkE hf
  obtain ⟨-, hf⟩ := m_chkE hf
  obtain ⟨v5, e5, hf⟩ := m_bndE hf
  have t5 : v5.toInt = mCb S b t0.toInt := by rw [e5]; exact mB_v hp ht
  obtain ⟨-, hf⟩ := m_chkE hf
  obtain ⟨-, hf⟩ := m_chkE hf
  obtain ⟨S6, e6, hf⟩ := m_bndE hf
  have T6 : ZT S6 := e6.symm ▸ zt_A hT ka
  have p6 : zP S6 0 b = some (b + 1) := by rw [e6]; exact hp
  have m6 : mCb S6 b = up (mCb S b) ((x2.toInt + x3.toInt) / 2) (mCb S b t0.toInt) := by
    rw [mB_A hp (by omega) e6, t3, t5]
  obtain ⟨-, hf⟩ := m_chkE hf
  obtain ⟨d7, hd7, hf⟩ := m_calE hf
  rw [p6] at hd7
  cases hd7
  obtain ⟨ka6, hf⟩ := m_chkE hf
  obtain ⟨-, hf⟩ := m_chkE hf
  obtain ⟨S8, e8, hf⟩ := m_bndE hf
  have T8 : ZT S8 := e8.symm ▸ zt_A T6 ka6
  have p8 : zP S8 0 b = some (b + 1) := by rw [e8]; exact p6
  have m8 : mCb S8 b = up (up (mCb S b) ((x2.toInt + x3.toInt) / 2) (mCb S b t0.toInt)) t0.toInt 0 := by
    rw [mB_A p6 ht e8, m6]; rfl
  have i8 : zI S8 = zI S := by rw [e8]; show zI S6 = _; rw [e6]; rfl
  have k8 : zK S8 b = 0 := by rw [e8]; show zK S6 b = 0; rw [e6]; exact kb
  have q := p_118 T8 k8 p8 (by unfold BN; rw [i8]; exact hn) h2 h3 h4 h5 hf
  rw [m8, i8] at q
  exact pl_pre (sb_t (sb_A e6) (sb_A e8)) (by rw [i8]) (by rw [i8]) q
theorem sq_56 {x v : Int32} (e : v = x &&& (56 : Int32)) (h : 0 ≤ x.toInt ∧ x.toInt < 64) : v.toInt = x.toInt / 8 * 8 := by
  rw [e]
  exact sq_all (P := fun x => (x &&& (56 : Int32)).toInt = x.toInt / 8 * 8) (by decide +kernel) (x := x) (by omega)
theorem sq_7 {x v : Int32} (e : v = x &&& (7 : Int32)) (h : 0 ≤ x.toInt ∧ x.toInt < 64) : v.toInt = x.toInt % 8 := by
  rw [e]
  exact sq_all (P := fun x => (x &&& (7 : Int32)).toInt = x.toInt % 8) (by decide +kernel) (x := x) (by omega)
theorem sq_o7 {x v : Int32} (e : v = x ||| (7 : Int32)) (h : 0 ≤ x.toInt ∧ x.toInt < 64) : v.toInt = x.toInt / 8 * 8 + 7 := by
  rw [e]
  exact sq_all (P := fun x => (x ||| (7 : Int32)).toInt = x.toInt / 8 * 8 + 7) (by decide +kernel) (x := x) (by omega)
theorem c2_y {m : Int → Int} {a t c : Int} (h : cas m a t) (hc : c = if a < t then a / 8 * 8 + 7 else a / 8 * 8) : c2 m a t = up (up m ((a + t) / 2) (m c)) c 0 := by
  subst hc
  exact if_pos h
theorem c2_n {m : Int → Int} {a t : Int} (h : ¬ cas m a t) : c2 m a t = m := if_neg h
theorem p_66 {x2 x3 x4 x5 y : Int32} (hT : ZT S) (kb : zK S b = 0) (hp : zP S 0 b = some (b + 1)) (hn : BN S b) (h2 : 0 ≤ x2.toInt ∧ x2.toInt < 64) (h3 : 0 ≤ x3.toInt ∧ x3.toInt < 64) (h4 : 0 ≤ x4.toInt ∧ x4.toInt ≤ 7) (hm : MBd (mCb S b)) (h5 : x5.toInt = 0 ∨ x5.toInt = 1) (hf : f_X0_play_66 b x2 x3 x4 x5 S = some (y, S')) : PLq S S' b (c3 (c2 (mCb S b) x2.toInt x3.toInt) (zI S 3 b).toInt x2.toInt x3.toInt x4.toInt) (kq 0 (pv (c2 (mCb S b) x2.toInt x3.toInt) (zI S 3 b).toInt x2.toInt x4.toInt) 6 (zI S 1 b) x3) (kq 0 (pv (c2 (mCb S b) x2.toInt x3.toInt) (zI S 3 b).toInt x2.toInt x4.toInt) 14 (zI S 2 b) x3) (zI S 4 b &&& ((gn x2.toInt ||| gn x3.toInt) ^^^ (-1 : Int32))) (psC (c3 (c2 (mCb S b) x2.toInt x3.toInt) (zI S 3 b).toInt x2.toInt x3.toInt x4.toInt) (zI S 3 b).toInt x5.toInt x2.toInt x3.toInt) := by
  unfold f_X0_play_66 at hf
  obtain ⟨-, hf⟩ := m_chkE hf
  obtain ⟨r1, h1, hf⟩ := m_calR hf (fun _ h => ro_X0_castles h)
  obtain ⟨-, r1b, q1⟩ := ok_of (x_f_X0_castles hT kb (by omega) (by omega) hm) h1
  dsimp only at r1b q1 hf
  rcases m_ifE hf with ⟨c, hf⟩ | ⟨c, hf⟩
  · have z : r1.toInt = 0 := by rw [c]; rfl
    have e : c2 (mCb S b) x2.toInt x3.toInt = mCb S b := c2_n (fun g => by have := q1.2 g; omega)
    rw [e]
    exact p_118 hT kb hp hn h2 h3 h4 h5 hf
  · have z : r1.toInt ≠ 0 := fun h => c (Int32.toInt_inj.1 h)
    have hc := q1.1 (by omega)
    rcases m_ifE hf with ⟨d, hf⟩ | ⟨d, hf⟩
    · have d1 := ti_leP (a := x3) (b := x2) d rfl rfl
      obtain ⟨v2, e2, hf⟩ := m_bndE hf
      have t2 := sq_56 e2 h2
      have e : c2 (mCb S b) x2.toInt x3.toInt = _ := c2_y (c := v2.toInt) hc (by rw [if_neg (by omega)]; exact t2)
      rw [e]
      exact p_91 hT kb hp hn h2 h3 h4 h5 (by omega) hf
    · have d1 := ti_leN (a := x3) (b := x2) d rfl rfl
      obtain ⟨v3, e3, hf⟩ := m_bndE hf
      have t3 := sq_o7 e3 h2
      have e : c2 (mCb S b) x2.toInt x3.toInt = _ := c2_y (c := v3.toInt) hc (by rw [if_pos (by omega)]; exact t3)
      rw [e]
      exact p_91 hT kb hp hn h2 h3 h4 h5 (by omega) hf
theorem p_36 {x2 x3 x4 t0 y : Int32} (hT : ZT S) (kb : zK S b = 0) (hp : zP S 0 b = some (b + 1)) (hn : BN S b) (h2 : 0 ≤ x2.toInt ∧ x2.toInt < 64) (h3 : 0 ≤ x3.toInt ∧ x3.toInt < 64) (h4 : 0 ≤ x4.toInt ∧ x4.toInt ≤ 7) (hm : MBd (mCb S b)) (h5 : t0.toInt = 0 ∨ t0.toInt = 1) (hf : f_X0_play_36 b x2 x3 x4 t0 S = some (y, S')) : PLq S S' b (c3 (c2 (c1 (mCb S b) t0.toInt (zI S 5 b).toInt x2.toInt x3.toInt) x2.toInt x3.toInt) (zI S 3 b).toInt x2.toInt x3.toInt x4.toInt) (kq 0 (pv (c2 (c1 (mCb S b) t0.toInt (zI S 5 b).toInt x2.toInt x3.toInt) x2.toInt x3.toInt) (zI S 3 b).toInt x2.toInt x4.toInt) 6 (zI S 1 b) x3) (kq 0 (pv (c2 (c1 (mCb S b) t0.toInt (zI S 5 b).toInt x2.toInt x3.toInt) x2.toInt x3.toInt) (zI S 3 b).toInt x2.toInt x4.toInt) 14 (zI S 2 b) x3) (zI S 4 b &&& ((gn x2.toInt ||| gn x3.toInt) ^^^ (-1 : Int32))) (psC (c3 (c2 (c1 (mCb S b) t0.toInt (zI S 5 b).toInt x2.toInt x3.toInt) x2.toInt x3.toInt) (zI S 3 b).toInt x2.toInt x3.toInt x4.toInt) (zI S 3 b).toInt t0.toInt x2.toInt x3.toInt) := by
  have z0 : (0 : Int32).toInt = 0 := rfl
  have no : ¬ (t0.toInt = 1 ∧ x3.toInt = (zI S 5 b).toInt) → f_X0_play_66 b x2 x3 x4 t0 S = some (y, S') → PLq S S' b (c3 (c2 (c1 (mCb S b) t0.toInt (zI S 5 b).toInt x2.toInt x3.toInt) x2.toInt x3.toInt) (zI S 3 b).toInt x2.toInt x3.toInt x4.toInt) (kq 0 (pv (c2 (c1 (mCb S b) t0.toInt (zI S 5 b).toInt x2.toInt x3.toInt) x2.toInt x3.toInt) (zI S 3 b).toInt x2.toInt x4.toInt) 6 (zI S 1 b) x3) (kq 0 (pv (c2 (c1 (mCb S b) t0.toInt (zI S 5 b).toInt x2.toInt x3.toInt) x2.toInt x3.toInt) (zI S 3 b).toInt x2.toInt x4.toInt) 14 (zI S 2 b) x3) (zI S 4 b &&& ((gn x2.toInt ||| gn x3.toInt) ^^^ (-1 : Int32))) (psC (c3 (c2 (c1 (mCb S b) t0.toInt (zI S 5 b).toInt x2.toInt x3.toInt) x2.toInt x3.toInt) (zI S 3 b).toInt x2.toInt x3.toInt x4.toInt) (zI S 3 b).toInt t0.toInt x2.toInt x3.toInt) := by
    intro hno hf
    have e : c1 (mCb S b) t0.toInt (zI S 5 b).toInt x2.toInt x3.toInt = mCb S b := if_neg hno
    rw [e]
    exact p_66 hT kb hp hn h2 h3 h4 hm h5 hf
  unfold f_X0_play_36 at hf
  rcases m_ifE hf with ⟨c, hf⟩ | ⟨c, hf⟩
  · exact no (fun g => by rw [c] at g; omega) hf
  · have c1' : t0.toInt = 1 := h5.resolve_left (fun h => c (Int32.toInt_inj.1 h))
    obtain ⟨-, hf⟩ := m_chkE hf
    rcases m_ifE hf with ⟨d, hf⟩ | ⟨d, hf⟩
    · obtain ⟨-, hf⟩ := m_chkE hf
      obtain ⟨d1, hd1, hf⟩ := m_calE hf
      rw [hp] at hd1
      cases hd1
      obtain ⟨v2, e2, hf⟩ := m_bndE hf
      obtain ⟨v3, e3, hf⟩ := m_bndE hf
      obtain ⟨v4, e4, hf⟩ := m_bndE hf
      have t2 := sq_56 e2 h2
      have t3 := sq_7 e3 h3
      have t4 : v4.toInt = x2.toInt / 8 * 8 + x3.toInt % 8 := ti_add e4 t2 t3 (by omega) (by omega)
      obtain ⟨ka, hf⟩ := m_chkE hf
      obtain ⟨-, hf⟩ := m_chkE hf
      obtain ⟨S5, e5, hf⟩ := m_bndE hf
      have T5 : ZT S5 := e5.symm ▸ zt_A hT ka
      have p5 : zP S5 0 b = some (b + 1) := by rw [e5]; exact hp
      have m5 : mCb S5 b = up (mCb S b) (x2.toInt / 8 * 8 + x3.toInt % 8) 0 := by
        rw [mB_A hp (by omega) e5, t4]; rfl
      have i5 : zI S5 = zI S := by rw [e5]; rfl
      have k5 : zK S5 b = 0 := by rw [e5]; exact kb
      have q := p_66 T5 k5 p5 (by unfold BN; rw [i5]; exact hn) h2 h3 h4 (by rw [m5]; exact mbd_up hm (by decide)) h5 hf
      rw [m5, i5] at q
      have e : c1 (mCb S b) t0.toInt (zI S 5 b).toInt x2.toInt x3.toInt = up (mCb S b) (x2.toInt / 8 * 8 + x3.toInt % 8) 0 := if_pos ⟨c1', by rw [d]⟩
      rw [e]
      exact pl_pre (sb_A e5) (by rw [i5]) (by rw [i5]) q
    · exact no (fun g => d (Int32.toInt_inj.1 g.2)) hf
theorem an63t {x : Int32} (h : 0 ≤ x.toInt) : (x &&& (63 : Int32)).toInt = x.toInt % 64 := by
  have m : x.toBitVec.msb = false := by
    rw [BitVec.msb_eq_toInt]
    exact decide_eq_false (by have h : 0 ≤ x.toBitVec.toInt := h; omega)
  have e : x.toInt = (x.toBitVec.toNat : Int) := BitVec.toInt_eq_toNat_of_msb m
  have n : (x.toBitVec &&& 63#32).toNat = x.toBitVec.toNat % 64 := by
    rw [BitVec.toNat_and]
    exact Nat.and_two_pow_sub_one_eq_mod x.toBitVec.toNat 6
  have k : (x &&& (63 : Int32)).toInt = ((x.toBitVec &&& 63#32).toNat : Int) := BitVec.toInt_eq_toNat_of_lt (x := x.toBitVec &&& 63#32) (by rw [n]; omega)
  rw [k, n, e]; omega
theorem an7t {x : Int32} (h : 0 ≤ x.toInt) : (x &&& (7 : Int32)).toInt = x.toInt % 8 := by
  have m : x.toBitVec.msb = false := by
    rw [BitVec.msb_eq_toInt]
    exact decide_eq_false (by have h : 0 ≤ x.toBitVec.toInt := h; omega)
  have e : x.toInt = (x.toBitVec.toNat : Int) := BitVec.toInt_eq_toNat_of_msb m
  have n : (x.toBitVec &&& 7#32).toNat = x.toBitVec.toNat % 8 := by
    rw [BitVec.toNat_and]
    exact Nat.and_two_pow_sub_one_eq_mod x.toBitVec.toNat 3
  have k : (x &&& (7 : Int32)).toInt = ((x.toBitVec &&& 7#32).toNat : Int) := BitVec.toInt_eq_toNat_of_lt (x := x.toBitVec &&& 7#32) (by rw [n]; omega)
  rw [k, n, e]; omega
theorem sh6t (x : Int32) : (x >>> ((6 : Int32) &&& 31)).toInt = x.toInt / 64 := by
  show (x.toBitVec.sshiftRight 6).toInt = x.toBitVec.toInt / 64
  rw [BitVec.toInt_sshiftRight, Int.shiftRight_eq_div_pow]; rfl
theorem sh12t (x : Int32) : (x >>> ((12 : Int32) &&& 31)).toInt = x.toInt / 4096 := by
  show (x.toBitVec.sshiftRight 12).toInt = x.toBitVec.toInt / 4096
  rw [BitVec.toInt_sshiftRight, Int.shiftRight_eq_div_pow]; rfl
/-- a move's numbers -/
theorem mv_bits {x v1 v2 v3 v4 v5 : Int32} (h : 0 ≤ x.toInt ∧ x.toInt ≤ 24575) (e1 : v1 = x &&& (63 : Int32)) (e2 : v2 = x >>> ((6 : Int32) &&& 31)) (e3 : v3 = v2 &&& (63 : Int32)) (e4 : v4 = x >>> ((12 : Int32) &&& 31)) (e5 : v5 = v4 &&& (7 : Int32)) : v1.toInt = x.toInt % 64 ∧ v3.toInt = x.toInt / 64 % 64 ∧ v5.toInt = x.toInt / 4096 ∧ v4.toInt = x.toInt / 4096 := by
  have n2 : v2.toInt = x.toInt / 64 := by rw [e2]; exact sh6t x
  have n4 : v4.toInt = x.toInt / 4096 := by rw [e4]; exact sh12t x
  refine ⟨by rw [e1]; exact an63t h.1, ?_, ?_, n4⟩
  · rw [e3, an63t (by omega), n2]
  · rw [e5, an7t (by omega), n4]; omega
/-- the men behind a move, but for the two squares of the man itself -/
noncomputable def m2B (m : Int → Int) (ps a t : Int) : Int → Int := c2 (c1 m (pwb m a) ps a t) a t
theorem p_play {x y : Int32} (hT : ZT S) (kb : zK S b = 0) (hp : zP S 0 b = some (b + 1)) (hn : BN S b) (hm : MBd (mCb S b)) (hx : 0 ≤ x.toInt ∧ x.toInt ≤ 24575) (hf : f_X0_play b x S = some (y, S')) : ∃ tq : Int32, tq.toInt = x.toInt / 64 % 64 ∧ PLq S S' b (c3 (m2B (mCb S b) (zI S 5 b).toInt (x.toInt % 64) (x.toInt / 64 % 64)) (zI S 3 b).toInt (x.toInt % 64) (x.toInt / 64 % 64) (x.toInt / 4096)) (kq 0 (pv (m2B (mCb S b) (zI S 5 b).toInt (x.toInt % 64) (x.toInt / 64 % 64)) (zI S 3 b).toInt (x.toInt % 64) (x.toInt / 4096)) 6 (zI S 1 b) tq) (kq 0 (pv (m2B (mCb S b) (zI S 5 b).toInt (x.toInt % 64) (x.toInt / 64 % 64)) (zI S 3 b).toInt (x.toInt % 64) (x.toInt / 4096)) 14 (zI S 2 b) tq) (zI S 4 b &&& ((gn (x.toInt % 64) ||| gn (x.toInt / 64 % 64)) ^^^ (-1 : Int32))) (psC (c3 (m2B (mCb S b) (zI S 5 b).toInt (x.toInt % 64) (x.toInt / 64 % 64)) (zI S 3 b).toInt (x.toInt % 64) (x.toInt / 64 % 64) (x.toInt / 4096)) (zI S 3 b).toInt (pwb (mCb S b) (x.toInt % 64)) (x.toInt % 64) (x.toInt / 64 % 64)) := by
  have hf : f_X0_play_0 b x S = some (y, S') := hf
  unfold f_X0_play_0 at hf
  obtain ⟨v1, e1, hf⟩ := m_bndE hf
  obtain ⟨v2, e2, hf⟩ := m_bndE hf
  obtain ⟨v3, e3, hf⟩ := m_bndE hf
  obtain ⟨v4, e4, hf⟩ := m_bndE hf
  obtain ⟨v5, e5, hf⟩ := m_bndE hf
  obtain ⟨t1, t3, t5, -⟩ := mv_bits hx e1 e2 e3 e4 e5
  obtain ⟨-, hf⟩ := m_chkE hf
  obtain ⟨r6, h6, hf⟩ := m_calR hf (fun _ h => ro_X0_kindAt h)
  obtain ⟨-, r6b, q6⟩ := ok_of (x_f_X0_kindAt hT kb (by omega) hm) h6
  dsimp only at r6b q6 hf
  refine ⟨v3, t3, ?_⟩
  have z1 : (1 : Int32).toInt = 1 := rfl
  have z0 : (0 : Int32).toInt = 0 := rfl
  rcases m_ifE hf with ⟨c, hf⟩ | ⟨c, hf⟩
  · have c1' : mCb S b v1.toInt % 8 = 1 := by rw [← q6, c]; rfl
    have e : pwb (mCb S b) (x.toInt % 64) = (1 : Int32).toInt := by
      unfold pwb
      rw [← t1, if_pos c1']; rfl
    have q := p_36 hT kb hp hn (by omega) (by omega) (by omega) hm (Or.inr rfl) hf
    unfold m2B
    rw [e]
    rw [t1, t3, t5] at q
    exact q
  · have c1' : ¬ mCb S b v1.toInt % 8 = 1 := fun h => c (Int32.toInt_inj.1 (by rw [q6, h]; rfl))
    have e : pwb (mCb S b) (x.toInt % 64) = (0 : Int32).toInt := by
      unfold pwb
      rw [← t1, if_neg c1']; rfl
    have q := p_36 hT kb hp hn (by omega) (by omega) (by omega) hm (Or.inl rfl) hf
    unfold m2B
    rw [e]
    rw [t1, t3, t5] at q
    exact q
end SBS
end
section
section PPM
variable {m : Int → Int}
theorem cas_att {a b : Int} (h : cas m a b) (hk : attk m a b) : False := by
  obtain ⟨h1, h2, h3⟩ := h
  rcases hk with ⟨k, -⟩ | ⟨k, -⟩ | ⟨-, g⟩ | ⟨g, -⟩
  · omega
  · omega
  · unfold kin at g
    omega
  · unfold lin at g
    omega
theorem cas_of {sd rt a b : Int} (hs : sd = 0 ∨ sd = 1) (p2 : m a % 8 = 6) (c1 : csl m sd rt a b) : cas m a b := by
  obtain ⟨e, c⟩ := c1
  rcases c with ⟨e2, -⟩ | ⟨e2, -⟩
  · exact ⟨p2, by omega, by omega⟩
  · exact ⟨p2, by omega, by omega⟩
/-- what goes by the reference is what the class reaches, castling out of or through check left out -/
theorem go_rch {sd rt ps a b : Int} (hs : sd = 0 ∨ sd = 1) : goR m sd rt ps a b ↔ rch m sd rt ps a b ∧ ¬ (cas m a b ∧ (attd m a (1 - sd) ∨ attd m ((a + b) / 2) (1 - sd))) := by
  unfold goR rch
  constructor
  · rintro ⟨h1, h2, h3⟩
    rcases h3 with ⟨p1, p2⟩ | ⟨p1, p2⟩
    · exact ⟨⟨h1, h2, Or.inl ⟨p1, p2⟩⟩, fun g => by have := g.1.1; omega⟩
    · rcases p2 with p2 | ⟨p2, p3⟩
      · exact ⟨⟨h1, h2, Or.inr ⟨p1, Or.inl p2⟩⟩, fun g => cas_att g.1 p2⟩
      · obtain ⟨c1, c2, c3⟩ := p3
        exact ⟨⟨h1, h2, Or.inr ⟨p1, Or.inr ⟨cas_of hs p2 c1, c1⟩⟩⟩, fun g => g.2.elim c2 c3⟩
  · rintro ⟨⟨h1, h2, h3⟩, h4⟩
    refine ⟨h1, h2, ?_⟩
    rcases h3 with h3 | ⟨p1, p2⟩
    · exact Or.inl h3
    · refine Or.inr ⟨p1, ?_⟩
      rcases p2 with p2 | ⟨p2, p3⟩
      · exact Or.inl p2
      · exact Or.inr ⟨p2.1, p3, fun g => h4 ⟨p2, Or.inl g⟩, fun g => h4 ⟨p2, Or.inr g⟩⟩
theorem up_s {i v : Int} : up m i v i = v := if_pos rfl
theorem up_n {i v s : Int} (h : s ≠ i) : up m i v s = m s := if_neg h
theorem up_c {a b v w : Int} (h : a ≠ b) : up (up m a v) b w = up (up m b w) a v := by
  funext s
  by_cases c : s = a
  · subst c
    rw [up_n h, up_s, up_s]
  · by_cases d : s = b
    · subst d
      rw [up_s, up_n c, up_s]
    · rw [up_n d, up_n c, up_n c, up_n d]
/-- the passed square is empty, and a pawn of the other side stands in front of it -/
noncomputable def PSo (m : Int → Int) (sd ps : Int) : Prop := ps = -1 ∨ (0 ≤ ps ∧ ps < 64 ∧ ps / 8 = 5 - 3 * sd ∧ m ps = 0 ∧ m (ps - (8 - 16 * sd)) = 1 + 8 * (1 - sd))
/-- the third way of a pawn -/
theorem pwn_3 {sd ps a b : Int} (h : pwn m sd ps a b) : (b = a + (8 - 16 * sd) ∧ m b = 0) ∨ (b = a + 2 * (8 - 16 * sd) ∧ a / 8 = 1 + 5 * sd ∧ m (a + (8 - 16 * sd)) = 0 ∧ m b = 0) ∨ (b / 8 = a / 8 + (1 - 2 * sd) ∧ (b % 8 - a % 8 = 1 ∨ b % 8 - a % 8 = -1) ∧ (m b ≠ 0 ∨ b = ps)) := by
  unfold pwn at h
  rcases h with h | h | h
  · exact Or.inl h
  · exact Or.inr (Or.inl h)
  · refine Or.inr (Or.inr ⟨h.1, h.2.1, ?_⟩)
    have := h.2.2
    omega
theorem k1_c1 {sd rt ps a b : Int} (hs : sd = 0 ∨ sd = 1) (ha : 0 ≤ a ∧ a < 64) (hb : 0 ≤ b ∧ b < 64) (hP : PSo m sd ps) (hr : rch m sd rt ps a b) : k1 m (pwb m a) a b = c1 m (pwb m a) ps a b := by
  obtain ⟨⟨n0, n1⟩, -, h3⟩ := hr
  unfold k1 c1 pwb
  by_cases hp : m a % 8 = 1
  · rw [if_pos hp]
    have hw : pwn m sd ps a b := h3.elim (fun z => z.2) (fun z => absurd hp z.1)
    have key : ((1 : Int) = 1 ∧ m b = 0 ∧ a % 8 ≠ b % 8) ↔ ((1 : Int) = 1 ∧ b = ps) := by
      constructor
      · rintro ⟨-, g1, g2⟩
        refine ⟨rfl, ?_⟩
        rcases pwn_3 hw with w | w | w
        · rcases hs with e | e <;> subst e <;> omega
        · rcases hs with e | e <;> subst e <;> omega
        · exact w.2.2.resolve_left (fun g => g g1)
      · rintro ⟨-, g1⟩
        rcases hP with e | ⟨q1, q2, q3, q4, q5⟩
        · omega
        · refine ⟨rfl, by rw [g1]; exact q4, ?_⟩
          rcases pwn_3 hw with w | w | w
          · exfalso
            have e : ps - (8 - 16 * sd) = a := by omega
            rw [e] at q5
            rcases hs with h | h <;> subst h <;> omega
          · exfalso
            have e : ps - (8 - 16 * sd) = a + (8 - 16 * sd) := by omega
            rw [e, w.2.2.1] at q5
            rcases hs with h | h <;> subst h <;> omega
          · omega
    by_cases c : (1 : Int) = 1 ∧ b = ps
    · rw [if_pos c, if_pos (key.2 c)]
    · rw [if_neg c, if_neg (fun g => c (key.1 g))]
  · rw [if_neg hp, if_neg (fun g => absurd g.1 (by decide)), if_neg (fun g => absurd g.1 (by decide))]
theorem k1_at {pw a b : Int} : k1 m pw a b a = m a := by
  unfold k1
  by_cases c : pw = 1 ∧ m b = 0 ∧ a % 8 ≠ b % 8
  · rw [if_pos c, up_n (by omega)]
  · rw [if_neg c]
theorem k2_c2 {sd rt ps a b : Int} (hs : sd = 0 ∨ sd = 1) (ha : 0 ≤ a ∧ a < 64) (hb : 0 ≤ b ∧ b < 64) (hr : rch m sd rt ps a b) : k2 (k1 m (pwb m a) a b) (m a) a b = c2 (k1 m (pwb m a) a b) a b := by
  obtain ⟨⟨n0, n1⟩, -, h3⟩ := hr
  unfold k2 c2
  rw [k1_at]
  have key : (m a % 8 = 6 ∧ a % 8 = 4 ∧ (b % 8 = 6 ∨ b % 8 = 2)) ↔ (m a % 8 = 6 ∧ a / 8 = b / 8 ∧ (b = a + 2 ∨ b = a - 2)) := by
    constructor
    · rintro ⟨g1, g2, g3⟩
      rcases h3 with h3 | ⟨-, h3⟩
      · omega
      · rcases h3 with h3 | ⟨h3, -⟩
        · exfalso
          rcases h3 with ⟨k, -⟩ | ⟨k, -⟩ | ⟨-, g⟩ | ⟨g, -⟩
          · omega
          · omega
          · unfold kin at g
            omega
          · unfold lin at g
            omega
        · exact h3
    · rintro ⟨g1, g2, g3⟩
      rcases h3 with h3 | ⟨-, h3⟩
      · omega
      · rcases h3 with h3 | ⟨-, h3⟩
        · exact absurd h3 (fun h => cas_att ⟨g1, g2, g3⟩ h)
        · have := h3.1
          omega
  by_cases c : m a % 8 = 6 ∧ a / 8 = b / 8 ∧ (b = a + 2 ∨ b = a - 2)
  · have d := key.2 c
    rw [if_pos c, if_pos d]
    have e : (if b % 8 = 6 then a + 3 else a - 4) = (if a < b then a / 8 * 8 + 7 else a / 8 * 8) := by
      split <;> split <;> omega
    rw [e]
  · rw [if_neg c, if_neg (fun g => c (key.1 g))]
theorem k2_at {a b : Int} {man : Int} (ha : 0 ≤ a ∧ a < 64) (hb : 0 ≤ b ∧ b < 64) : k2 m man a b a = m a := by
  unfold k2
  by_cases c : man % 8 = 6 ∧ a % 8 = 4 ∧ (b % 8 = 6 ∨ b % 8 = 2)
  · rw [if_pos c]
    by_cases d : b % 8 = 6
    · rw [if_pos d, up_n (by omega)]
      by_cases e : a = (a + b) / 2
      · exfalso; omega
      · rw [up_n e]
    · rw [if_neg d, up_n (by omega)]
      by_cases e : a = (a + b) / 2
      · exfalso; omega
      · rw [up_n e]
  · rw [if_neg c]
/-- both make the same of the men -/
theorem mk_pl {sd rt ps a b p : Int} (hs : sd = 0 ∨ sd = 1) (ha : 0 ≤ a ∧ a < 64) (hb : 0 ≤ b ∧ b < 64) (hp : 0 ≤ p) (hP : PSo m sd ps) (hr : rch m sd rt ps a b) : mkR m sd a b p = c3 (m2B m ps a b) sd a b p := by
  have hab : a ≠ b := fun e => by
    obtain ⟨n0, n1, -⟩ := hr
    rw [e] at n0
    exact n1 n0
  have e2 : m2B m ps a b = k2 (k1 m (pwb m a) a b) (m a) a b := by
    unfold m2B
    rw [← k1_c1 hs ha hb hP hr, k2_c2 hs ha hb hr]
  have ea : k2 (k1 m (pwb m a) a b) (m a) a b a = m a := by rw [k2_at ha hb, k1_at]
  unfold mkR k3 c3
  rw [e2, up_c hab]
  have ev : (if 0 < p then p + 8 * sd else m a) = pv (k2 (k1 m (pwb m a) a b) (m a) a b) sd a p := by
    unfold pv
    rw [ea]
    by_cases c : p = 0
    · rw [if_pos c, if_neg (by omega)]
    · rw [if_neg c, if_pos (by omega)]
  rw [ev]
/-- and of the passed square -/
theorem ps_pl {sd pw a b : Int} (hs : sd = 0 ∨ sd = 1) (ha : 0 ≤ a ∧ a < 64) (hb : 0 ≤ b ∧ b < 64) (hd : pw = 1 → (b = a + 16 ∨ b = a - 16) → b = a + 2 * (8 - 16 * sd)) : psF m sd pw a b = psC m sd pw a b := by
  unfold psF psC
  have key : (pw = 1 ∧ (b = a + 16 ∨ b = a - 16) ∧ psb m b (1 - sd)) ↔ (pw = 1 ∧ (b = a + 16 ∨ b = a - 16) ∧ (0 ≤ (a + b) / 2 + (16 * (1 - sd) - 8) ∧ (a + b) / 2 + (16 * (1 - sd) - 8) < 64 ∧ ((0 < ((a + b) / 2 + (16 * (1 - sd) - 8)) % 8 ∧ m ((a + b) / 2 + (16 * (1 - sd) - 8) - 1) = 1 + 8 * (1 - sd)) ∨ (((a + b) / 2 + (16 * (1 - sd) - 8)) % 8 < 7 ∧ m ((a + b) / 2 + (16 * (1 - sd) - 8) + 1) = 1 + 8 * (1 - sd))))) := by
    refine and_congr_right (fun h1 => and_congr_right (fun h2 => ?_))
    have e : (a + b) / 2 + (16 * (1 - sd) - 8) = b := by
      have := hd h1 h2
      rcases hs with h | h <;> subst h <;> omega
    rw [e]
    unfold psb
    have l : 0 ≤ stp b (-1) 0 ↔ 0 < b % 8 := by
      unfold stp
      split <;> omega
    have r : 0 ≤ stp b 1 0 ↔ b % 8 < 7 := by
      unfold stp
      split <;> omega
    have le : 0 < b % 8 → stp b (-1) 0 = b - 1 := fun h => by
      unfold stp
      rw [if_pos (by omega)]
      omega
    have re : b % 8 < 7 → stp b 1 0 = b + 1 := fun h => by
      unfold stp
      rw [if_pos (by omega)]
      omega
    constructor
    · rintro (⟨g1, g2⟩ | ⟨g1, g2⟩)
      · exact ⟨hb.1, hb.2, Or.inl ⟨l.1 g1, by rw [← le (l.1 g1)]; exact g2⟩⟩
      · exact ⟨hb.1, hb.2, Or.inr ⟨r.1 g1, by rw [← re (r.1 g1)]; exact g2⟩⟩
    · rintro ⟨-, -, (⟨g1, g2⟩ | ⟨g1, g2⟩)⟩
      · exact Or.inl ⟨l.2 g1, by rw [le g1]; exact g2⟩
      · exact Or.inr ⟨r.2 g1, by rw [re g1]; exact g2⟩
  by_cases c : pw = 1 ∧ (b = a + 16 ∨ b = a - 16) ∧ psb m b (1 - sd)
  · rw [if_pos c, if_pos (key.1 c)]
  · rw [if_neg c, if_neg (fun g => c (key.2 g))]
end PPM
end
section
section SAF
variable {S S' : ZS} {x0 bb tb : Nat}
theorem mbd_c1 {m : Int → Int} {pw ps a t : Int} (h : MBd m) : MBd (c1 m pw ps a t) := by
  unfold c1
  by_cases c : pw = 1 ∧ t = ps
  · rw [if_pos c]; exact mbd_up h (by decide)
  · rw [if_neg c]; exact h
theorem mbd_c2 {m : Int → Int} {a t : Int} (h : MBd m) : MBd (c2 m a t) := by
  unfold c2
  by_cases c : m a % 8 = 6 ∧ a / 8 = t / 8 ∧ (t = a + 2 ∨ t = a - 2)
  · rw [if_pos c]; exact mbd_up (mbd_up h (h _)) (by decide)
  · rw [if_neg c]; exact h
theorem mbd_c3 {m : Int → Int} {sd a t p : Int} (h : MBd m) (hs : sd = 0 ∨ sd = 1) (hp : 0 ≤ p ∧ p ≤ 5) : MBd (c3 m sd a t p) := by
  unfold c3
  refine mbd_up (mbd_up h ?_) (by decide)
  unfold pv
  by_cases c : p = 0
  · rw [if_pos c]; exact h a
  · rw [if_neg c]; omega
/-- the men behind a move, by the class -/
noncomputable def plB (m : Int → Int) (sd ps a t p : Int) : Int → Int := c3 (m2B m ps a t) sd a t p
theorem mbd_pl {m : Int → Int} {sd ps a t p : Int} (h : MBd m) (hs : sd = 0 ∨ sd = 1) (hp : 0 ≤ p ∧ p ≤ 5) : MBd (plB m sd ps a t p) := mbd_c3 (mbd_c2 (mbd_c1 h)) hs hp
/-- where the class holds the king of a side, behind a move -/
noncomputable def kgB (m : Int → Int) (sd ps a t p w old : Int) : Int := if pv (m2B m ps a t) sd a p = 6 + 8 * w then t else old
noncomputable def safC (m : Int → Int) (sd ps kg a t p : Int) : Prop := ¬ (cas m a t ∧ (attd m a (1 - sd) ∨ attd m ((a + t) / 2) (1 - sd))) ∧ ¬ attd (plB m sd ps a t p) (kgB m sd ps a t p sd kg) (1 - sd)
theorem p_61 {x2 x5 y : Int32} {m : Int → Int} {sd ps kg : Int} (hT : ZT S) (k7 : zK S x0 = 7) (ht : zP S 0 x0 = some tb) (kt : zK S tb = 0) (hpt : zP S 0 tb = some (tb + 1)) (kb : zK S bb = 0) (hpb : zP S 0 bb = some (bb + 1)) (hn : BN S bb) (hm : mCb S bb = m) (hM : MBd m) (hsd : (zI S 3 bb).toInt = sd) (hps : (zI S 5 bb).toInt = ps) (hkg : (if sd = 0 then (zI S 1 bb).toInt else (zI S 2 bb).toInt) = kg) (h5 : x5 = zI S 3 bb) (hx : 0 ≤ x2.toInt ∧ x2.toInt ≤ 24575) (hf : f_X7_isSafe_61 x0 bb x2 x5 S = some (y, S')) : SB S S' tb ∧ (y.toInt = 0 ∨ y.toInt = 1) ∧ (y.toInt = 1 ↔ ¬ attd (plB m sd ps (x2.toInt % 64) (x2.toInt / 64 % 64) (x2.toInt / 4096)) (kgB m sd ps (x2.toInt % 64) (x2.toInt / 64 % 64) (x2.toInt / 4096) sd kg) (1 - sd)) := by
  have hs : sd = 0 ∨ sd = 1 := by have := hn.2; omega
  unfold f_X7_isSafe_61 at hf
  obtain ⟨-, hf⟩ := m_chkE hf
  obtain ⟨d1, hd1, hf⟩ := m_calE hf
  rw [ht] at hd1
  cases hd1
  obtain ⟨-, hf⟩ := m_chkE hf
  obtain ⟨⟨y2, S2⟩, h2, hf⟩ := m_calE hf
  dsimp only at hf
  have T2 : ZT S2 := (ok_of (t_f_X0_copyFrom (SZ := S) hT (a7_0 S) kt kb) h2).1
  obtain ⟨b2, m2, i2⟩ := p_copy hpt hpb h2
  have P2 : zP S2 = zP S := b2.2.1
  have K2 : zK S2 = zK S := b2.1.2.2.1
  obtain ⟨-, hf⟩ := m_chkE hf
  obtain ⟨d3, hd3, hf⟩ := m_calE hf
  rw [P2, ht] at hd3
  cases hd3
  obtain ⟨-, hf⟩ := m_chkE hf
  obtain ⟨⟨y4, S4⟩, h4, hf⟩ := m_calE hf
  dsimp only at hf
  have kt2 : zK S2 tb = 0 := by rw [K2]; exact kt
  have T4 : ZT S4 := (ok_of (t_f_X0_play (SZ := S2) T2 (a7_0 S2) kt2) h4).1
  obtain ⟨tq, htq, b4, m4, w4, v4, -, -, -, -⟩ := p_play T2 kt2 (by rw [P2]; exact hpt) (by unfold BN; rw [i2 6 (by decide) (by decide), i2 3 (by decide) (by decide)]; exact hn) (by rw [m2, hm]; exact hM) hx h4
  have P4 : zP S4 = zP S := b4.2.1.trans P2
  have K4 : zK S4 = zK S := b4.1.2.2.1.trans K2
  rw [m2, hm, i2 3 (by decide) (by decide), hsd, i2 5 (by decide) (by decide), hps] at m4 w4 v4
  rw [i2 1 (by decide) (by decide)] at w4
  rw [i2 2 (by decide) (by decide)] at v4
  obtain ⟨-, hf⟩ := m_chkE hf
  obtain ⟨d5, hd5, hf⟩ := m_calE hf
  rw [P4, ht] at hd5
  cases hd5
  obtain ⟨-, hf⟩ := m_chkE hf
  obtain ⟨d6, hd6, hf⟩ := m_calE hf
  rw [P4, ht] at hd6
  cases hd6
  obtain ⟨-, hf⟩ := m_chkE hf
  obtain ⟨r7, h7, hf⟩ := m_calR hf (fun _ h => ro_X0_kingOf h)
  have kt4 : zK S4 tb = 0 := by rw [K4]; exact kt
  obtain ⟨-, r7b, q7⟩ := ok_of (x_f_X0_kingOf (x1 := x5) T4 kt4) h7
  dsimp only at r7b q7 hf
  obtain ⟨v8, e8, hf⟩ := m_bndE hf
  have t8 : v8.toInt = 1 - sd := ti_sub e8 (show (1 : Int32).toInt = 1 from rfl) (by rw [h5]; exact hsd) (by omega) (by omega)
  obtain ⟨-, hf⟩ := m_chkE hf
  obtain ⟨r9, h9, hf⟩ := m_calR hf (fun _ h => ro_X0_attacked h)
  have hM4 : MBd (mCb S4 tb) := by rw [m4]; exact mbd_pl hM hs (by omega)
  obtain ⟨-, r9b, q9⟩ := ok_of (x_f_X0_attacked (P := attd (mCb S4 tb) r7.toInt (1 - sd)) T4 kt4 r7b (by omega) (by rw [t8]) hM4) h9
  dsimp only at r9b q9 hf
  have ek : r7.toInt = kgB m sd ps (x2.toInt % 64) (x2.toInt / 64 % 64) (x2.toInt / 4096) sd kg := by
    rw [q7, h5, hsd, ← hkg]
    unfold kgB
    rcases hs with e | e
    · subst e
      rw [if_pos rfl, if_pos rfl, w4]
      unfold kq
      by_cases c : pv (m2B m ps (x2.toInt % 64) (x2.toInt / 64 % 64)) 0 (x2.toInt % 64) (x2.toInt / 4096) = 6
      · rw [if_pos c, if_pos (by omega), htq]
      · rw [if_neg c, if_neg (by omega)]
    · subst e
      rw [if_neg (show ¬ ((1 : Int) = 0) by decide), if_neg (show ¬ ((1 : Int) = 0) by decide), v4]
      unfold kq
      by_cases c : pv (m2B m ps (x2.toInt % 64) (x2.toInt / 64 % 64)) 1 (x2.toInt % 64) (x2.toInt / 4096) = 14
      · rw [if_pos c, if_pos (by omega), htq]
      · rw [if_neg c, if_neg (by omega)]
  rw [m4, ek] at q9
  have bS : SB S S4 tb := sb_t b2 b4
  have z0 : (0 : Int32).toInt = 0 := rfl
  have z1 : (1 : Int32).toInt = 1 := rfl
  rcases m_ifE hf with ⟨c, hf⟩ | ⟨c, hf⟩
  · unfold f_X7_isSafe_105 at hf
    obtain ⟨-, hf⟩ := m_chkE hf
    cases hf
    refine ⟨bS, Or.inr rfl, fun _ g => ?_, fun _ => rfl⟩
    have := q9.2 g
    rw [c] at this
    omega
  · unfold f_X7_isSafe_105 at hf
    obtain ⟨-, hf⟩ := m_chkE hf
    cases hf
    refine ⟨bS, Or.inl rfl, fun g => by omega, fun g => ?_⟩
    have h1 : r9.toInt ≠ 0 := fun h => c (Int32.toInt_inj.1 h)
    exact absurd (q9.1 (by omega)) g
theorem p_isSafe {x2 y : Int32} {m : Int → Int} {sd ps kg : Int} (hT : ZT S) (k7 : zK S x0 = 7) (ht : zP S 0 x0 = some tb) (kt : zK S tb = 0) (hpt : zP S 0 tb = some (tb + 1)) (kb : zK S bb = 0) (hpb : zP S 0 bb = some (bb + 1)) (hn : BN S bb) (hm : mCb S bb = m) (hM : MBd m) (hsd : (zI S 3 bb).toInt = sd) (hps : (zI S 5 bb).toInt = ps) (hkg : (if sd = 0 then (zI S 1 bb).toInt else (zI S 2 bb).toInt) = kg) (hx : 0 ≤ x2.toInt ∧ x2.toInt ≤ 24575) (hf : f_X7_isSafe x0 bb x2 S = some (y, S')) : SB S S' tb ∧ (y.toInt = 0 ∨ y.toInt = 1) ∧ (y.toInt = 1 ↔ safC m sd ps kg (x2.toInt % 64) (x2.toInt / 64 % 64) (x2.toInt / 4096)) := by
  have hs : sd = 0 ∨ sd = 1 := by have := hn.2; omega
  have hf : f_X7_isSafe_0 x0 bb x2 S = some (y, S') := hf
  unfold f_X7_isSafe_0 at hf
  obtain ⟨v1, e1, hf⟩ := m_bndE hf
  obtain ⟨v2, e2, hf⟩ := m_bndE hf
  obtain ⟨v3, e3, hf⟩ := m_bndE hf
  obtain ⟨t1, t3, -, -⟩ := mv_bits hx e1 e2 e3 rfl rfl
  obtain ⟨-, hf⟩ := m_chkE hf
  obtain ⟨-, hf⟩ := m_chkE hf
  obtain ⟨r4, h4, hf⟩ := m_calR hf (fun _ h => ro_X0_castles h)
  obtain ⟨-, r4b, q4⟩ := ok_of (x_f_X0_castles hT kb (by omega) (by omega) (by rw [hm]; exact hM)) h4
  dsimp only at r4b q4 hf
  rw [hm, t1, t3] at q4
  have z0 : (0 : Int32).toInt = 0 := rfl
  have last : ¬ (cas m (x2.toInt % 64) (x2.toInt / 64 % 64) ∧ (attd m (x2.toInt % 64) (1 - sd) ∨ attd m ((x2.toInt % 64 + x2.toInt / 64 % 64) / 2) (1 - sd))) → f_X7_isSafe_61 x0 bb x2 (zI S 3 bb) S = some (y, S') → SB S S' tb ∧ (y.toInt = 0 ∨ y.toInt = 1) ∧ (y.toInt = 1 ↔ safC m sd ps kg (x2.toInt % 64) (x2.toInt / 64 % 64) (x2.toInt / 4096)) := by
    intro hc hf
    obtain ⟨a1, a2, a3⟩ := p_61 hT k7 ht kt hpt kb hpb hn hm hM hsd hps hkg rfl hx hf
    refine ⟨a1, a2, ?_⟩
    rw [a3]
    unfold safC
    exact ⟨fun g => ⟨hc, g⟩, fun g => g.2⟩
  have no : (cas m (x2.toInt % 64) (x2.toInt / 64 % 64) ∧ (attd m (x2.toInt % 64) (1 - sd) ∨ attd m ((x2.toInt % 64 + x2.toInt / 64 % 64) / 2) (1 - sd))) → f_X7_isSafe_59 S = some (y, S') → SB S S' tb ∧ (y.toInt = 0 ∨ y.toInt = 1) ∧ (y.toInt = 1 ↔ safC m sd ps kg (x2.toInt % 64) (x2.toInt / 64 % 64) (x2.toInt / 4096)) := by
    intro hc hf
    unfold f_X7_isSafe_59 at hf
    obtain ⟨-, hf⟩ := m_chkE hf
    cases hf
    exact ⟨sb_0, Or.inl rfl, fun g => absurd g (by decide), fun g => absurd hc g.1⟩
  rcases m_ifE hf with ⟨c, hf⟩ | ⟨c, hf⟩
  · refine last (fun g => ?_) hf
    have := q4.2 g.1
    rw [c] at this
    omega
  · have h1 : r4.toInt ≠ 0 := fun h => c (Int32.toInt_inj.1 h)
    have hc := q4.1 (by omega)
    obtain ⟨v5, e5, hf⟩ := m_bndE hf
    have t5 : v5.toInt = 1 - sd := ti_sub e5 (show (1 : Int32).toInt = 1 from rfl) hsd (by omega) (by omega)
    obtain ⟨-, hf⟩ := m_chkE hf
    obtain ⟨r6, h6, hf⟩ := m_calR hf (fun _ h => ro_X0_attacked h)
    obtain ⟨-, r6b, q6⟩ := ok_of (x_f_X0_attacked (P := attd m (x2.toInt % 64) (1 - sd)) hT kb (by omega) (by omega) (by rw [hm, t1, t5]) (by rw [hm]; exact hM)) h6
    dsimp only at r6b q6 hf
    rcases m_ifE hf with ⟨d, hf⟩ | ⟨d, hf⟩
    · obtain ⟨v7, e7, hf⟩ := m_bndE hf
      obtain ⟨v8, e8, hf⟩ := m_bndE hf
      obtain ⟨v9, e9, hf⟩ := m_bndE hf
      have t7 : v7.toInt = x2.toInt % 64 + x2.toInt / 64 % 64 := ti_add e7 t1 t3 (by omega) (by omega)
      have t8 : v8.toInt = (x2.toInt % 64 + x2.toInt / 64 % 64) / 2 := ti_div e8 t7 (show (2 : Int32).toInt = 2 from rfl) (by omega) (by decide)
      have t9 : v9.toInt = 1 - sd := ti_sub e9 (show (1 : Int32).toInt = 1 from rfl) hsd (by omega) (by omega)
      obtain ⟨-, hf⟩ := m_chkE hf
      obtain ⟨r10, h10, hf⟩ := m_calR hf (fun _ h => ro_X0_attacked h)
      obtain ⟨-, r10b, q10⟩ := ok_of (x_f_X0_attacked (P := attd m ((x2.toInt % 64 + x2.toInt / 64 % 64) / 2) (1 - sd)) hT kb (by omega) (by omega) (by rw [hm, t8, t9]) (by rw [hm]; exact hM)) h10
      dsimp only at r10b q10 hf
      rcases m_ifE hf with ⟨f, hf⟩ | ⟨f, hf⟩
      · refine last (fun g => ?_) hf
        rcases g.2 with g | g
        · have := q6.2 g
          rw [d] at this
          omega
        · have := q10.2 g
          rw [f] at this
          omega
      · have h2 : r10.toInt ≠ 0 := fun h => f (Int32.toInt_inj.1 h)
        exact no ⟨hc, Or.inr (q10.1 (by omega))⟩ hf
    · have h2 : r6.toInt ≠ 0 := fun h => d (Int32.toInt_inj.1 h)
      exact no ⟨hc, Or.inl (q6.1 (by omega))⟩ hf
end SAF
end
section
/-- each right's king and rook stand on their first squares -/
noncomputable def RTo (m : Int → Int) (rt : Int) : Prop := ∀ i : Int, 0 ≤ i → i ≤ 3 → rb rt i → m (4 + 56 * (i / 2)) = 6 + 8 * (i / 2) ∧ m (56 * (i / 2) + (if i % 2 = 0 then 7 else 0)) = 4 + 8 * (i / 2)
/-- a position that can stand -/
noncomputable def POS (m : Int → Int) (sd rt ps kw kb : Int) : Prop := (sd = 0 ∨ sd = 1) ∧ MBd m ∧ KU m 0 kw ∧ KU m 1 kb ∧ PSo m sd ps ∧ RTo m rt ∧ (0 ≤ rt ∧ rt ≤ 15) ∧ ¬ attd m (if sd = 0 then kb else kw) sd
/-- what a man becomes fits its way -/
noncomputable def PRo (m : Int → Int) (a t p : Int) : Prop := (p = 0 ∧ ¬ (m a % 8 = 1 ∧ (t < 8 ∨ 56 ≤ t))) ∨ (2 ≤ p ∧ p ≤ 5 ∧ m a % 8 = 1 ∧ (t < 8 ∨ 56 ≤ t))
section POSs
variable {m : Int → Int} {sd rt ps kw kb a t p : Int}
theorem ku_at {w k : Int} (h : KU m w k) : m k = 6 + 8 * w := h.2.2.1
theorem ku_1 {w k s : Int} (h : KU m w k) (hs : 0 ≤ s ∧ s < 64) (e : m s = 6 + 8 * w) : s = k := h.2.2.2 s hs.1 hs.2 e
/-- a pawn that takes attacks -/
theorem pw_tak (hs : sd = 0 ∨ sd = 1) (h1 : m a % 8 = 1) (h2 : m a / 8 = sd) (hw : pwn m sd ps a t) (hne : m t ≠ 0) : attk m a t := by
  refine Or.inl ⟨h1, ?_⟩
  rcases pwn_3 hw with w | w | w
  · exact absurd w.2 hne
  · exact absurd w.2.2.2 hne
  · unfold paw
    rcases hs with e | e <;> subst e <;> omega
/-- where a man goes on a square that is not empty, it attacks it -/
theorem rch_att (hs : sd = 0 ∨ sd = 1) (ha : 0 ≤ a ∧ a < 64) (hr : rch m sd rt ps a t) (hne : m t ≠ 0) : attd m t sd := by
  obtain ⟨⟨n0, n1⟩, -, h3⟩ := hr
  refine ⟨a, ha.1, ha.2, n0, n1, ?_⟩
  rcases h3 with ⟨p1, p2⟩ | ⟨p1, p2⟩
  · exact pw_tak hs p1 n1 p2 hne
  · rcases p2 with p2 | ⟨-, p3⟩
    · exact p2
    · exfalso
      rcases p3.2 with ⟨e, -, -, g⟩ | ⟨e, -, -, g, -⟩
      · rw [← e] at g; exact hne g
      · rw [← e] at g; exact hne g
theorem rch_nk (hP : POS m sd rt ps kw kb) (ha : 0 ≤ a ∧ a < 64) (hr : rch m sd rt ps a t) : t ≠ (if sd = 0 then kb else kw) := fun e => by
  obtain ⟨hs, -, k0, k1, -, -, -, hn⟩ := hP
  rw [← e] at hn
  refine hn (rch_att hs ha hr ?_)
  have h0 := ku_at k0
  have h1 := ku_at k1
  rcases hs with h | h <;> subst h
  · rw [if_pos rfl] at e; rw [e]; omega
  · rw [if_neg (by decide)] at e; rw [e]; omega
/-- the men behind a move, square by square -/
theorem m2_at (hP : POS m sd rt ps kw kb) (ha : 0 ≤ a ∧ a < 64) (ht : 0 ≤ t ∧ t < 64) (hr : rch m sd rt ps a t) (s : Int) : m2B m ps a t s = m s ∨ (m2B m ps a t s = 0 ∧ m s = 1 + 8 * (1 - sd) ∧ s = a / 8 * 8 + t % 8 ∧ m a % 8 = 1 ∧ t = ps) ∨ (m a % 8 = 6 ∧ a = 4 + 56 * sd ∧ ((t = a + 2 ∧ ((s = a + 1 ∧ m s = 0 ∧ m2B m ps a t s = 4 + 8 * sd) ∨ (s = a + 3 ∧ m s = 4 + 8 * sd ∧ m2B m ps a t s = 0))) ∨ (t = a - 2 ∧ ((s = a - 1 ∧ m s = 0 ∧ m2B m ps a t s = 4 + 8 * sd) ∨ (s = a - 4 ∧ m s = 4 + 8 * sd ∧ m2B m ps a t s = 0))))) := by
  obtain ⟨hs, -, -, -, hps, hrt, -, -⟩ := hP
  have e1 := k1_c1 hs ha ht hps hr
  obtain ⟨⟨n0, n1⟩, n2, h3⟩ := hr
  unfold m2B
  by_cases c : m a % 8 = 1
  · have nc : c2 (c1 m (pwb m a) ps a t) a t = c1 m (pwb m a) ps a t := if_neg (fun g => by
      rw [← e1, k1_at] at g
      omega)
    rw [nc]
    unfold c1 pwb
    rw [if_pos c]
    by_cases d : (1 : Int) = 1 ∧ t = ps
    · rw [if_pos d]
      by_cases e : s = a / 8 * 8 + t % 8
      · right; left
        rw [e, up_s]
        have hw : pwn m sd ps a t := h3.elim (fun z => z.2) (fun z => absurd c z.1)
        refine ⟨rfl, ?_, rfl, c, d.2⟩
        rcases hps with f | ⟨q1, q2, q3, q4, q5⟩
        · omega
        · have g : a / 8 * 8 + t % 8 = ps - (8 - 16 * sd) := by
            rcases pwn_3 hw with w | w | w
            · exfalso
              have e9 : ps - (8 - 16 * sd) = a := by omega
              rw [e9] at q5
              rcases hs with h | h <;> subst h <;> omega
            · exfalso
              have e9 : ps - (8 - 16 * sd) = a + (8 - 16 * sd) := by omega
              rw [e9, w.2.2.1] at q5
              rcases hs with h | h <;> subst h <;> omega
            · rcases hs with h | h <;> subst h <;> omega
          rw [g]; exact q5
      · left; exact up_n e
    · left; rw [if_neg d]
  · have nw : c1 m (pwb m a) ps a t = m := by
      unfold c1 pwb
      rw [if_neg c]
      exact if_neg (fun g => absurd g.1 (by decide))
    rw [nw]
    by_cases d : cas m a t
    · have hc : csl m sd rt a t := by
        rcases h3 with h3 | ⟨-, h3⟩
        · exact absurd h3.1 c
        · rcases h3 with h3 | h3
          · exact absurd h3 (fun g => cas_att d g)
          · exact h3.2
      obtain ⟨ea, hc⟩ := hc
      rcases hc with ⟨et, hb, g1, g2⟩ | ⟨et, hb, g1, g2, g3⟩
      · have hk := hrt (2 * sd) (by omega) (by omega) hb
        rw [show (2 * sd / 2 : Int) = sd by omega, if_pos (by omega)] at hk
        have ec : (if a < t then a / 8 * 8 + 7 else a / 8 * 8) = a + 3 := by
          rw [if_pos (by omega)]
          rcases hs with h | h <;> subst h <;> omega
        have em : (a + t) / 2 = a + 1 := by omega
        rw [c2_y (c := a + 3) d ec.symm, em, show m (a + 3) = 4 + 8 * sd by rw [← hk.2]; congr 1; omega]
        by_cases f : s = a + 3
        · right; right
          rw [f, up_s]
          refine ⟨d.1, ea, Or.inl ⟨et, Or.inr ⟨rfl, ?_, rfl⟩⟩⟩
          rw [← hk.2]; congr 1; omega
        · rw [up_n f]
          by_cases g : s = a + 1
          · right; right
            rw [g, up_s]
            exact ⟨d.1, ea, Or.inl ⟨et, Or.inl ⟨rfl, g1, rfl⟩⟩⟩
          · left; exact up_n g
      · have hk := hrt (2 * sd + 1) (by omega) (by omega) hb
        rw [show ((2 * sd + 1) / 2 : Int) = sd by omega, if_neg (by omega)] at hk
        have ec : (if a < t then a / 8 * 8 + 7 else a / 8 * 8) = a - 4 := by
          rw [if_neg (by omega)]
          rcases hs with h | h <;> subst h <;> omega
        have em : (a + t) / 2 = a - 1 := by omega
        rw [c2_y (c := a - 4) d ec.symm, em, show m (a - 4) = 4 + 8 * sd by rw [← hk.2]; congr 1; omega]
        by_cases f : s = a - 4
        · right; right
          rw [f, up_s]
          refine ⟨d.1, ea, Or.inr ⟨et, Or.inr ⟨rfl, ?_, rfl⟩⟩⟩
          rw [← hk.2]; congr 1; omega
        · rw [up_n f]
          by_cases g : s = a - 1
          · right; right
            rw [g, up_s]
            exact ⟨d.1, ea, Or.inr ⟨et, Or.inl ⟨rfl, g1, rfl⟩⟩⟩
          · left; exact up_n g
    · left
      rw [c2_n d]
theorem m2_a (hP : POS m sd rt ps kw kb) (ha : 0 ≤ a ∧ a < 64) (ht : 0 ≤ t ∧ t < 64) (hr : rch m sd rt ps a t) : m2B m ps a t a = m a := by
  obtain ⟨hs, -, -, -, hps, -, -, -⟩ := hP
  unfold m2B
  rw [← k1_c1 hs ha ht hps hr, ← k2_c2 hs ha ht hr, k2_at ha ht, k1_at]
theorem plB_at (s : Int) : plB m sd ps a t p s = if s = a then 0 else if s = t then pv (m2B m ps a t) sd a p else m2B m ps a t s := by
  unfold plB c3 up
  rfl
/-- what comes to the square -/
theorem pv_v (hP : POS m sd rt ps kw kb) (ha : 0 ≤ a ∧ a < 64) (ht : 0 ≤ t ∧ t < 64) (hr : rch m sd rt ps a t) : pv (m2B m ps a t) sd a p = if p = 0 then m a else p + 8 * sd := by
  unfold pv
  rw [m2_a hP ha ht hr]
/-- the kings behind a move -/
theorem ku_pl {w k : Int} (hP : POS m sd rt ps kw kb) (ha : 0 ≤ a ∧ a < 64) (ht : 0 ≤ t ∧ t < 64) (hr : rch m sd rt ps a t) (hp : p = 0 ∨ PRo m a t p) (hw : w = 0 ∨ w = 1) (hk : KU m w k) (hkk : k = if w = 0 then kw else kb) : KU (plB m sd ps a t p) w (kgB m sd ps a t p w k) := by
  have hv := pv_v (p := p) hP ha ht hr
  have hnk := rch_nk hP ha hr
  have h2 := m2_at hP ha ht hr
  obtain ⟨hs, hM, k0, k1, -, -, -, -⟩ := hP
  obtain ⟨⟨n0, n1⟩, n2, -⟩ := hr
  obtain ⟨b1, b2, b3, b4⟩ := id hk
  have hMa := hM a
  have hva : pv (m2B m ps a t) sd a p = m a ∨ (2 ≤ p ∧ p ≤ 5 ∧ m a % 8 = 1 ∧ pv (m2B m ps a t) sd a p = p + 8 * sd) := by
    rw [hv]
    rcases hp with e | ⟨e, -⟩ | ⟨e1, e2, e3, -⟩
    · left; rw [if_pos e]
    · left; rw [if_pos e]
    · right; rw [if_neg (by omega)]; exact ⟨e1, e2, e3, rfl⟩
  have hat : a ≠ t := fun e => by rw [e] at n0 n1; exact n2 ⟨n0, n1⟩
  -- elsewhere a king behind the move was one before it
  have els : ∀ s, 0 ≤ s → s < 64 → s ≠ a → s ≠ t → (plB m sd ps a t p s = 6 + 8 * w ↔ m s = 6 + 8 * w) := fun s s1 s2 s3 s4 => by
    rw [plB_at, if_neg s3, if_neg s4]
    rcases h2 s with e | ⟨e1, e2, -⟩ | ⟨-, -, e⟩
    · rw [e]
    · rw [e1, e2]
      rcases hs with h | h <;> subst h <;> rcases hw with g | g <;> subst g <;> omega
    · rcases e with ⟨-, e⟩ | ⟨-, e⟩
      · rcases e with ⟨-, e1, e2⟩ | ⟨-, e1, e2⟩ <;> rw [e1, e2] <;> rcases hs with h | h <;> subst h <;> rcases hw with g | g <;> subst g <;> omega
      · rcases e with ⟨-, e1, e2⟩ | ⟨-, e1, e2⟩ <;> rw [e1, e2] <;> rcases hs with h | h <;> subst h <;> rcases hw with g | g <;> subst g <;> omega
  have pa : plB m sd ps a t p a = 0 := by rw [plB_at, if_pos rfl]
  have pt : plB m sd ps a t p t = pv (m2B m ps a t) sd a p := by rw [plB_at, if_neg (fun e => hat e.symm), if_pos rfl]
  unfold kgB
  by_cases c : pv (m2B m ps a t) sd a p = 6 + 8 * w
  · rw [if_pos c]
    have em : m a = 6 + 8 * w := by
      rcases hva with e | ⟨e1, e2, e3, e4⟩
      · rw [← e]; exact c
      · exfalso
        rw [e4] at c
        rcases hs with h | h <;> subst h <;> rcases hw with g | g <;> subst g <;> omega
    have ek : a = k := b4 a ha.1 ha.2 em
    refine ⟨ht.1, ht.2, by rw [pt]; exact c, fun s s1 s2 s3 => ?_⟩
    by_cases e1 : s = a
    · rw [e1, pa] at s3
      rcases hw with g | g <;> subst g <;> omega
    · by_cases e2 : s = t
      · exact e2
      · exfalso
        have := b4 s s1 s2 ((els s s1 s2 e1 e2).1 s3)
        omega
  · rw [if_neg c]
    have ka : k ≠ a := fun e => by
      rw [e] at b3
      rw [b3] at hva
      rcases hva with h | ⟨-, -, h, -⟩
      · exact c h
      · rcases hw with g | g <;> subst g <;> omega
    have kt : k ≠ t := fun e => by
      by_cases hws : w = sd
      · apply n2
        rw [← e, b3, hws]
        rcases hs with h | h <;> subst h <;> omega
      · apply hnk
        rw [← e, hkk]
        rcases hs with h | h <;> subst h <;> rcases hw with g | g <;> subst g
        · exact absurd rfl hws
        · rw [if_neg (by decide), if_pos rfl]
        · rw [if_pos rfl, if_neg (by decide)]
        · exact absurd rfl hws
    refine ⟨b1, b2, (els k b1 b2 ka kt).2 b3, fun s s1 s2 s3 => ?_⟩
    by_cases e1 : s = a
    · exfalso
      rw [e1, pa] at s3
      rcases hw with g | g <;> subst g <;> omega
    · by_cases e2 : s = t
      · exfalso
        rw [e2, pt] at s3
        exact c s3
      · exact b4 s s1 s2 ((els s s1 s2 e1 e2).1 s3)
theorem ku_p0 {ko : Int} (hP : POS m sd rt ps kw kb) (ha : 0 ≤ a ∧ a < 64) (ht : 0 ≤ t ∧ t < 64) (hr : rch m sd rt ps a t) (hko : ko = if sd = 0 then kw else kb) : KU (c3 (m2B m ps a t) sd a t 0) sd (kgB m sd ps a t 0 sd ko) := by
  have hs := hP.1
  refine ku_pl (p := 0) hP ha ht hr (Or.inl rfl) hs ?_ hko
  rw [hko]
  rcases hs with h | h <;> subst h
  · rw [if_pos rfl]; exact hP.2.2.1
  · rw [if_neg (by decide)]; exact hP.2.2.2.1
end POSs
end
section
theorem rb_a : ∀ r : Nat, r < 16 → ∀ g : Nat, g < 16 → ∀ h : Nat, h < 16 → 0 ≤ (nI r &&& ((nI g ||| nI h) ^^^ (-1 : Int32))).toInt ∧ (nI r &&& ((nI g ||| nI h) ^^^ (-1 : Int32))).toInt ≤ 15 := by decide +kernel
theorem rb_0 : ∀ r : Nat, r < 16 → ∀ g : Nat, g < 16 → ∀ h : Nat, h < 16 → ((nI r &&& ((nI g ||| nI h) ^^^ (-1 : Int32))).toInt % 2 ≠ 1 ∨ (r % 2 = 1 ∧ g % 2 = 0 ∧ h % 2 = 0)) := by decide +kernel
theorem rb_1 : ∀ r : Nat, r < 16 → ∀ g : Nat, g < 16 → ∀ h : Nat, h < 16 → ((nI r &&& ((nI g ||| nI h) ^^^ (-1 : Int32))).toInt / 2 % 2 ≠ 1 ∨ (r / 2 % 2 = 1 ∧ g / 2 % 2 = 0 ∧ h / 2 % 2 = 0)) := by decide +kernel
theorem rb_2 : ∀ r : Nat, r < 16 → ∀ g : Nat, g < 16 → ∀ h : Nat, h < 16 → ((nI r &&& ((nI g ||| nI h) ^^^ (-1 : Int32))).toInt / 4 % 2 ≠ 1 ∨ (r / 4 % 2 = 1 ∧ g / 4 % 2 = 0 ∧ h / 4 % 2 = 0)) := by decide +kernel
theorem rb_3 : ∀ r : Nat, r < 16 → ∀ g : Nat, g < 16 → ∀ h : Nat, h < 16 → ((nI r &&& ((nI g ||| nI h) ^^^ (-1 : Int32))).toInt / 8 % 2 ≠ 1 ∨ (r / 8 % 2 = 1 ∧ g / 8 % 2 = 0 ∧ h / 8 % 2 = 0)) := by decide +kernel
theorem rb_all (r : Nat) (hr : r < 16) (g : Nat) (hg : g < 16) (h : Nat) (hh : h < 16) : 0 ≤ (nI r &&& ((nI g ||| nI h) ^^^ (-1 : Int32))).toInt ∧ (nI r &&& ((nI g ||| nI h) ^^^ (-1 : Int32))).toInt ≤ 15 ∧ ((nI r &&& ((nI g ||| nI h) ^^^ (-1 : Int32))).toInt % 2 = 1 → r % 2 = 1 ∧ g % 2 = 0 ∧ h % 2 = 0) ∧ ((nI r &&& ((nI g ||| nI h) ^^^ (-1 : Int32))).toInt / 2 % 2 = 1 → r / 2 % 2 = 1 ∧ g / 2 % 2 = 0 ∧ h / 2 % 2 = 0) ∧ ((nI r &&& ((nI g ||| nI h) ^^^ (-1 : Int32))).toInt / 4 % 2 = 1 → r / 4 % 2 = 1 ∧ g / 4 % 2 = 0 ∧ h / 4 % 2 = 0) ∧ ((nI r &&& ((nI g ||| nI h) ^^^ (-1 : Int32))).toInt / 8 % 2 = 1 → r / 8 % 2 = 1 ∧ g / 8 % 2 = 0 ∧ h / 8 % 2 = 0) := ⟨(rb_a r hr g hg h hh).1, (rb_a r hr g hg h hh).2, fun e => (rb_0 r hr g hg h hh).resolve_left (fun n => n e), fun e => (rb_1 r hr g hg h hh).resolve_left (fun n => n e), fun e => (rb_2 r hr g hg h hh).resolve_left (fun n => n e), fun e => (rb_3 r hr g hg h hh).resolve_left (fun n => n e)⟩
/-- the squares whose leaving ends a right -/
noncomputable def gb (s i : Int) : Prop := (i = 0 ∧ (s = 4 ∨ s = 7)) ∨ (i = 1 ∧ (s = 4 ∨ s = 0)) ∨ (i = 2 ∧ (s = 60 ∨ s = 63)) ∨ (i = 3 ∧ (s = 60 ∨ s = 56))
theorem gn_n16 (s : Int) : ∃ g : Nat, g < 16 ∧ gn s = nI g ∧ (g % 2 = 0 → ¬ gb s 0) ∧ (g / 2 % 2 = 0 → ¬ gb s 1) ∧ (g / 4 % 2 = 0 → ¬ gb s 2) ∧ (g / 8 % 2 = 0 → ¬ gb s 3) := by
  by_cases h1 : s = 4
  · exact ⟨3, by decide, gn_4 h1, fun h => absurd h (by decide), fun h => absurd h (by decide), fun _ g => by unfold gb at g; omega, fun _ g => by unfold gb at g; omega⟩
  · by_cases h2 : s = 7
    · exact ⟨1, by decide, gn_7 h2, fun h => absurd h (by decide), fun _ g => by unfold gb at g; omega, fun _ g => by unfold gb at g; omega, fun _ g => by unfold gb at g; omega⟩
    · by_cases h3 : s = 0
      · exact ⟨2, by decide, gn_0 h3, fun _ g => by unfold gb at g; omega, fun h => absurd h (by decide), fun _ g => by unfold gb at g; omega, fun _ g => by unfold gb at g; omega⟩
      · by_cases h4 : s = 60
        · exact ⟨12, by decide, gn_60 h4, fun _ g => by unfold gb at g; omega, fun _ g => by unfold gb at g; omega, fun h => absurd h (by decide), fun h => absurd h (by decide)⟩
        · by_cases h5 : s = 63
          · exact ⟨4, by decide, gn_63 h5, fun _ g => by unfold gb at g; omega, fun _ g => by unfold gb at g; omega, fun h => absurd h (by decide), fun _ g => by unfold gb at g; omega⟩
          · by_cases h6 : s = 56
            · exact ⟨8, by decide, gn_56 h6, fun _ g => by unfold gb at g; omega, fun _ g => by unfold gb at g; omega, fun _ g => by unfold gb at g; omega, fun h => absurd h (by decide)⟩
            · exact ⟨0, by decide, gn_n h1 h2 h3 h4 h5 h6, fun _ g => by unfold gb at g; omega, fun _ g => by unfold gb at g; omega, fun _ g => by unfold gb at g; omega, fun _ g => by unfold gb at g; omega⟩
/-- the rights behind a move -/
theorem rt_pl {r : Int32} {a t : Int} (hr : 0 ≤ r.toInt ∧ r.toInt ≤ 15) : (0 ≤ (r &&& ((gn a ||| gn t) ^^^ (-1 : Int32))).toInt ∧ (r &&& ((gn a ||| gn t) ^^^ (-1 : Int32))).toInt ≤ 15) ∧ ∀ i : Int, rb (r &&& ((gn a ||| gn t) ^^^ (-1 : Int32))).toInt i → rb r.toInt i ∧ ¬ gb a i ∧ ¬ gb t i := by
  obtain ⟨g, g1, g2, g3, g4, g5, g6⟩ := gn_n16 a
  obtain ⟨h, h1, h2, h3, h4, h5, h6⟩ := gn_n16 t
  have hx : r = nI r.toInt.toNat := by
    apply Int32.toInt_inj.1
    rw [nI_toInt (by omega)]
    omega
  have hN : ((r.toInt.toNat : Nat) : Int) = r.toInt := by omega
  obtain ⟨a1, a2, a3, a4, a5, a6⟩ := rb_all r.toInt.toNat (by omega) g g1 h h1
  rw [← hx, ← g2, ← h2] at a1 a2 a3 a4 a5 a6
  refine ⟨⟨a1, a2⟩, fun i hi => ?_⟩
  unfold rb at hi ⊢
  rcases hi with ⟨e, hi⟩ | ⟨e, hi⟩ | ⟨e, hi⟩ | ⟨e, hi⟩ <;> subst e
  · obtain ⟨c1, c2, c3⟩ := a3 hi
    exact ⟨Or.inl ⟨rfl, by omega⟩, g3 c2, h3 c3⟩
  · obtain ⟨c1, c2, c3⟩ := a4 hi
    exact ⟨Or.inr (Or.inl ⟨rfl, by omega⟩), g4 c2, h4 c3⟩
  · obtain ⟨c1, c2, c3⟩ := a5 hi
    exact ⟨Or.inr (Or.inr (Or.inl ⟨rfl, by omega⟩)), g5 c2, h5 c3⟩
  · obtain ⟨c1, c2, c3⟩ := a6 hi
    exact ⟨Or.inr (Or.inr (Or.inr ⟨rfl, by omega⟩)), g6 c2, h6 c3⟩
section POSt
variable {m : Int → Int} {sd rt ps kw kb a t p : Int}
/-- a position is one behind a legal move too -/
theorem pos_pl {rt' ps' : Int} (hP : POS m sd rt ps kw kb) (ha : 0 ≤ a ∧ a < 64) (ht : 0 ≤ t ∧ t < 64) (hr : rch m sd rt ps a t) (hp : PRo m a t p) (hsf : ¬ attd (plB m sd ps a t p) (kgB m sd ps a t p sd (if sd = 0 then kw else kb)) (1 - sd)) (hrt : (0 ≤ rt' ∧ rt' ≤ 15) ∧ ∀ i : Int, rb rt' i → rb rt i ∧ ¬ gb a i ∧ ¬ gb t i) (hps : ps' = psC (plB m sd ps a t p) sd (pwb m a) a t) : POS (plB m sd ps a t p) (1 - sd) rt' ps' (kgB m sd ps a t p 0 kw) (kgB m sd ps a t p 1 kb) := by
  have k0 := ku_pl hP ha ht hr (Or.inr hp) (Or.inl rfl) hP.2.2.1 (by rw [if_pos rfl])
  have k1 := ku_pl hP ha ht hr (Or.inr hp) (Or.inr rfl) hP.2.2.2.1 (by rw [if_neg (by decide)])
  have h2 := m2_at hP ha ht hr
  have hv := pv_v (p := p) hP ha ht hr
  obtain ⟨hs, hM, -, -, -, hro, -, -⟩ := hP
  obtain ⟨⟨n0, n1⟩, n2, h3⟩ := hr
  have hat : a ≠ t := fun e => by rw [e] at n0 n1; exact n2 ⟨n0, n1⟩
  have hp5 : 0 ≤ p ∧ p ≤ 5 := by unfold PRo at hp; omega
  refine ⟨by omega, mbd_pl hM hs hp5, k0, k1, ?_, fun i i0 i3 hi => ?_, hrt.1, ?_⟩
  · rw [hps]
    unfold psC
    split
    · rename_i c
      obtain ⟨c1, c2, -⟩ := c
      have hw1 : m a % 8 = 1 := by
        unfold pwb at c1
        by_cases e : m a % 8 = 1
        · exact e
        · rw [if_neg e] at c1; omega
      have hw : pwn m sd ps a t := h3.elim (fun z => z.2) (fun z => absurd hw1 z.1)
      have hd : t = a + 2 * (8 - 16 * sd) ∧ a / 8 = 1 + 5 * sd ∧ m (a + (8 - 16 * sd)) = 0 ∧ m t = 0 := by
        rcases pwn_3 hw with w | w | w
        · exfalso; rcases hs with h | h <;> subst h <;> omega
        · exact w
        · exfalso; rcases hs with h | h <;> subst h <;> omega
      obtain ⟨d1, d2, d3, d4⟩ := hd
      have eq : (a + t) / 2 = a + (8 - 16 * sd) := by omega
      rw [eq]
      have hMa := hM a
      refine Or.inr ⟨by rcases hs with h | h <;> subst h <;> omega, by rcases hs with h | h <;> subst h <;> omega, by rcases hs with h | h <;> subst h <;> omega, ?_, ?_⟩
      · rw [plB_at, if_neg (by rcases hs with h | h <;> subst h <;> omega), if_neg (by rcases hs with h | h <;> subst h <;> omega)]
        rcases h2 (a + (8 - 16 * sd)) with e | ⟨-, -, e, -⟩ | ⟨e, -⟩
        · rw [e]; exact d3
        · exfalso; rcases hs with h | h <;> subst h <;> omega
        · exfalso; omega
      · have et : a + (8 - 16 * sd) - (8 - 16 * (1 - sd)) = t := by omega
        rw [et, plB_at, if_neg (fun e => hat e.symm), if_pos rfl, hv]
        have p0 : p = 0 := by
          unfold PRo at hp
          rcases hs with h | h <;> subst h <;> omega
        rw [if_pos p0]
        omega
    · exact Or.inl rfl
  · obtain ⟨q1, q2, q3⟩ := hrt.2 i hi
    obtain ⟨w1, w2⟩ := hro i i0 i3 q1
    have nh : 4 + 56 * (i / 2) ≠ a ∧ 4 + 56 * (i / 2) ≠ t := by
      constructor
      · intro e
        apply q2
        unfold gb
        omega
      · intro e
        apply q3
        unfold gb
        omega
    have nc : 56 * (i / 2) + (if i % 2 = 0 then 7 else 0) ≠ a ∧ 56 * (i / 2) + (if i % 2 = 0 then 7 else 0) ≠ t := by
      constructor
      · intro e
        apply q2
        unfold gb
        split at e <;> omega
      · intro e
        apply q3
        unfold gb
        split at e <;> omega
    have hi2 : i / 2 = 0 ∨ i / 2 = 1 := by omega
    constructor
    · rw [plB_at, if_neg nh.1, if_neg nh.2]
      rcases h2 (4 + 56 * (i / 2)) with e | ⟨-, e, -⟩ | ⟨-, e1, e⟩
      · rw [e]; exact w1
      · exfalso
        rw [w1] at e
        rcases hs with h | h <;> subst h <;> rcases hi2 with g | g <;> rw [g] at e <;> omega
      · exfalso
        rcases e with ⟨-, e⟩ | ⟨-, e⟩
        · rcases e with ⟨e, -⟩ | ⟨e, -⟩ <;> rcases hs with h | h <;> subst h <;> omega
        · rcases e with ⟨e, -⟩ | ⟨e, -⟩ <;> rcases hs with h | h <;> subst h <;> omega
    · rw [plB_at, if_neg nc.1, if_neg nc.2]
      rcases h2 (56 * (i / 2) + (if i % 2 = 0 then 7 else 0)) with e | ⟨-, e, -⟩ | ⟨-, e1, e⟩
      · rw [e]; exact w2
      · exfalso
        rw [w2] at e
        rcases hs with h | h <;> subst h <;> rcases hi2 with g | g <;> rw [g] at e <;> omega
      · exfalso
        have nha := nh.1
        rcases e with ⟨-, e⟩ | ⟨-, e⟩
        · rcases e with ⟨e, -⟩ | ⟨e, -⟩ <;> split at e <;> rcases hs with h | h <;> subst h <;> omega
        · rcases e with ⟨e, -⟩ | ⟨e, -⟩ <;> split at e <;> rcases hs with h | h <;> subst h <;> omega
  · rcases hs with h | h <;> subst h
    · rw [if_neg (by decide)]
      rw [if_pos rfl] at hsf
      exact hsf
    · rw [if_pos (by decide)]
      rw [if_neg (by decide)] at hsf
      exact hsf
/-- both sides call the same moves legal -/
theorem leg_eq (hP : POS m sd rt ps kw kb) (ha : 0 ≤ a ∧ a < 64) (ht : 0 ≤ t ∧ t < 64) (hp : 0 ≤ p) : (goR m sd rt ps a t ∧ ¬ attd (mkR m sd a t p) (kgB m sd ps a t p sd (if sd = 0 then kw else kb)) (1 - sd)) ↔ (rch m sd rt ps a t ∧ safC m sd ps (if sd = 0 then kw else kb) a t p) := by
  have hs := hP.1
  constructor
  · rintro ⟨h1, h2⟩
    obtain ⟨g1, g2⟩ := (go_rch hs).1 h1
    rw [mk_pl hs ha ht hp hP.2.2.2.2.1 g1] at h2
    exact ⟨g1, g2, h2⟩
  · rintro ⟨g1, g2, h2⟩
    refine ⟨(go_rch hs).2 ⟨g1, g2⟩, ?_⟩
    rw [mk_pl hs ha ht hp hP.2.2.2.2.1 g1]
    exact h2
end POSt
end
section
/-- how many numbers below n have P -/
noncomputable def cnt (P : Nat → Prop) : Nat → Nat
  | 0 => 0
  | n + 1 => cnt P n + @ite Nat (P n) (Classical.propDecidable _) 1 0
section CNT
variable {P Q : Nat → Prop} {n k N : Nat}
theorem cnt_y (h : P n) : cnt P (n + 1) = cnt P n + 1 := by
  show cnt P n + @ite Nat (P n) (Classical.propDecidable _) 1 0 = _
  rw [if_pos h]
theorem cnt_n (h : ¬ P n) : cnt P (n + 1) = cnt P n := by
  show cnt P n + @ite Nat (P n) (Classical.propDecidable _) 1 0 = _
  rw [if_neg h]
  rfl
theorem cnt_s : cnt P n ≤ cnt P (n + 1) := by
  by_cases h : P n
  · rw [cnt_y h]; omega
  · rw [cnt_n h]; exact Nat.le_refl _
theorem cnt_m (h : n ≤ N) : cnt P n ≤ cnt P N := by
  induction N with
  | zero =>
    have : n = 0 := by omega
    rw [this]; exact Nat.le_refl _
  | succ N ih =>
    by_cases e : n = N + 1
    · rw [e]; exact Nat.le_refl _
    · exact Nat.le_trans (ih (by omega)) cnt_s
theorem cnt_lt (hp : P n) (h : n < N) : cnt P n < cnt P N := by
  have h1 := cnt_m (P := P) (show n + 1 ≤ N from h)
  rw [cnt_y hp] at h1
  omega
theorem cnt_inj (hn : P n) (hk : P k) (e : cnt P n = cnt P k) : n = k := by
  rcases Nat.lt_trichotomy n k with h | h | h
  · have := cnt_lt hn h; omega
  · exact h
  · have := cnt_lt hk h; omega
theorem cnt_sur (h : k < cnt P N) : ∃ n, n < N ∧ P n ∧ cnt P n = k := by
  induction N with
  | zero => exact absurd h (Nat.not_lt_zero _)
  | succ N ih =>
    by_cases hp : P N
    · rw [cnt_y hp] at h
      by_cases e : k = cnt P N
      · exact ⟨N, Nat.lt_succ_self _, hp, e.symm⟩
      · obtain ⟨n, h1, h2, h3⟩ := ih (by omega)
        exact ⟨n, by omega, h2, h3⟩
    · rw [cnt_n hp] at h
      obtain ⟨n, h1, h2, h3⟩ := ih h
      exact ⟨n, by omega, h2, h3⟩
theorem cnt_c (h : ∀ j, j < N → (P j ↔ Q j)) : cnt P N = cnt Q N := by
  induction N with
  | zero => rfl
  | succ N ih =>
    have e := ih (fun j hj => h j (by omega))
    by_cases hp : P N
    · rw [cnt_y hp, cnt_y ((h N (by omega)).1 hp), e]
    · rw [cnt_n hp, cnt_n (fun g => hp ((h N (by omega)).2 g)), e]
theorem cnt_gap (hn : n ≤ N) (h : ∀ j, n ≤ j → j < N → ¬ P j) : cnt P N = cnt P n := by
  induction N with
  | zero =>
    have : n = 0 := by omega
    rw [this]
  | succ N ih =>
    by_cases e : n = N + 1
    · rw [e]
    · rw [cnt_n (h N (by omega) (by omega))]
      exact ih (by omega) (fun j j1 j2 => h j j1 (by omega))
theorem cnt_0 (h : ∀ j, j < N → ¬ P j) : cnt P N = 0 := cnt_gap (Nat.zero_le _) (fun j _ hj => h j hj)
/-- one, and which -/
theorem cnt_1 (e : cnt P N = 1) (hn : P n) (hk : P k) (h1 : n < N) (h2 : k < N) : n = k := by
  have a1 := cnt_lt hn h1
  have a2 := cnt_lt hk h2
  exact cnt_inj hn hk (by omega)
theorem cnt_pos (hp : P n) (h : n < N) : 0 < cnt P N := by
  have := cnt_lt hp h
  omega
/-- a row l that holds, one behind the other, what the numbers with P tell -/
noncomputable def LST (l : Nat → Int) (P : Nat → Prop) (mv : Nat → Int) (K : Nat) : Prop := ∀ key, key < K → P key → l (cnt P key) = mv key
theorem lst_cnt {l : Nat → Int} {mv : Nat → Int} {F : Int → Prop} : ∀ K, LST l P mv K → cnt (fun k => F (l k)) (cnt P K) = cnt (fun key => P key ∧ F (mv key)) K
  | 0, _ => rfl
  | K + 1, h => by
    have ih := lst_cnt (F := F) K (fun key hk hp => h key (by omega) hp)
    by_cases hp : P K
    · rw [cnt_y hp]
      have e := h K (by omega) hp
      by_cases hf : F (mv K)
      · rw [cnt_y (show (fun k => F (l k)) (cnt P K) by show F (l (cnt P K)); rw [e]; exact hf), cnt_y (show (fun key => P key ∧ F (mv key)) K from ⟨hp, hf⟩), ih]
      · rw [cnt_n (show ¬ (fun k => F (l k)) (cnt P K) by show ¬ F (l (cnt P K)); rw [e]; exact hf), cnt_n (show ¬ (fun key => P key ∧ F (mv key)) K from fun g => hf g.2), ih]
    · rw [cnt_n hp, cnt_n (show ¬ (fun key => P key ∧ F (mv key)) K from fun g => hp g.1), ih]
end CNT
end
