/-- only the board b changes -/
def SB (S S' : ZS) (b : Nat) : Prop := EqT S S' ∧ zP S' = zP S ∧ (∀ j a, a ≠ b → zI S' j a = zI S j a) ∧ (∀ a, a ≠ b + 1 → zA S' a = zA S a) ∧ zc S' = zc S
section SBS
variable {S S1 S2 S' : ZS} {b : Nat}
theorem sb_0 : SB S S b := ⟨eqt_0, rfl, fun _ _ _ => rfl, fun _ _ => rfl, rfl⟩
theorem sb_t (h : SB S S1 b) (h2 : SB S1 S2 b) : SB S S2 b := ⟨eqt_t h.1 h2.1, h2.2.1.trans h.2.1, fun j a ha => (h2.2.2.1 j a ha).trans (h.2.2.1 j a ha), fun a ha => (h2.2.2.2.1 a ha).trans (h.2.2.2.1 a ha), h2.2.2.2.2.trans h.2.2.2.2⟩
theorem sb_A {i : Nat} {v : Int32} (e : S' = zsA S (b + 1) i v) : SB S S' b := by
  subst e
  exact ⟨⟨rfl, rfl, rfl, rfl, rfl⟩, rfl, fun _ _ _ => rfl, fun a ha => va_up_ne _ _ ha, rfl⟩
theorem sb_I {j : Nat} {v : Int32} (e : S' = zsI S j b v) : SB S S' b := by
  subst e
  exact ⟨⟨rfl, rfl, rfl, rfl, rfl⟩, rfl, fun i a ha => zI_b ha, fun _ _ => rfl, rfl⟩
theorem sb_C {c sp dp n : Nat} (e : S' = zsC S c (b + 1) sp dp n) : SB S S' b := by
  subst e
  exact ⟨⟨rfl, rfl, rfl, rfl, rfl⟩, rfl, fun _ _ _ => rfl, fun a ha => va_up_ne _ _ ha, rfl⟩
theorem mB_e (hp : zP S' 0 b = zP S 0 b) (ha : ∀ c, zP S 0 b = some c → zA S' c = zA S c) : mCb S' b = mCb S b := by
  funext s
  unfold mCb
  rw [hp]
  cases h : zP S 0 b with
  | none => rfl
  | some c =>
    have e := ha c h
    simp only [e]
/-- another board stays as it was -/
theorem mB_o {c : Nat} (h : SB S S' c) (hp : zP S 0 b = some (b + 1)) (hne : b ≠ c) : mCb S' b = mCb S b := mB_e (congrFun (congrFun h.2.1 0) b) (fun d hd => by
  rw [hp] at hd
  cases hd
  exact h.2.2.2.1 _ (by omega))
theorem mB_I {j a : Nat} {v : Int32} (e : S' = zsI S j a v) : mCb S' b = mCb S b := by subst e; rfl
theorem mB_A {x v : Int32} (hp : zP S 0 b = some (b + 1)) (h : 0 ≤ x.toInt ∧ x.toInt < 64) (e : S' = zsA S (b + 1) x.toNatClampNeg v) : mCb S' b = up (mCb S b) x.toInt v.toInt := by
  subst e
  funext s
  have h4 : x.toNatClampNeg = x.toInt.toNat := rfl
  have h5 : zA (zsA S (b + 1) x.toNatClampNeg v) (b + 1) = upd (zA S (b + 1)) x.toNatClampNeg v := va_up_self _ _ _
  have h6 : zP (zsA S (b + 1) x.toNatClampNeg v) 0 b = some (b + 1) := hp
  unfold mCb up
  rw [h6, hp]
  show (if 0 ≤ s ∧ s < 64 then (zA (zsA S (b + 1) x.toNatClampNeg v) (b + 1) s.toNat).toInt else 0) = if s = x.toInt then v.toInt else if 0 ≤ s ∧ s < 64 then (zA S (b + 1) s.toNat).toInt else 0
  rw [h5]
  by_cases c : s = x.toInt
  · rw [if_pos (by omega), if_pos c, h4, c]
    rw [upd_self]
  · rw [if_neg c]
    by_cases d : 0 ≤ s ∧ s < 64
    · rw [if_pos d, if_pos d, upd_ne (by omega)]
    · rw [if_neg d, if_neg d]
theorem mB_v {x : Int32} (hp : zP S 0 b = some (b + 1)) (h : 0 ≤ x.toInt ∧ x.toInt < 64) : (zA S (b + 1) x.toNatClampNeg).toInt = mCb S b x.toInt := by
  unfold mCb
  rw [if_pos h, hp]
  rfl
theorem mbd_up {m : Int → Int} {i v : Int} (h : MBd m) (hv : 0 ≤ v ∧ v ≤ 14 ∧ v ≠ 7 ∧ v ≠ 8) : MBd (up m i v) := fun s => by
  unfold up
  by_cases c : s = i
  · rw [if_pos c]; exact hv
  · rw [if_neg c]; exact h s
theorem p_put {x1 x2 y : Int32} (hp : zP S 0 b = some (b + 1)) (h1 : 0 ≤ x1.toInt ∧ x1.toInt < 64) (hf : f_X0_put b x1 x2 S = some (y, S')) : SB S S' b ∧ mCb S' b = up (mCb S b) x1.toInt x2.toInt ∧ (x2.toInt = 6 → zI S' 1 b = x1) ∧ (x2.toInt ≠ 6 → zI S' 1 b = zI S 1 b) ∧ (x2.toInt = 14 → zI S' 2 b = x1) ∧ (x2.toInt ≠ 14 → zI S' 2 b = zI S 2 b) ∧ ∀ j, j ≠ 1 → j ≠ 2 → zI S' j b = zI S j b := by
  have hf : f_X0_put_0 b x1 x2 S = some (y, S') := hf
  have z6 : (6 : Int32).toInt = 6 := rfl
  have z14 : (14 : Int32).toInt = 14 := rfl
  unfold f_X0_put_0 at hf
  obtain ⟨-, hf⟩ := m_chkE hf
  obtain ⟨c, hc, hf⟩ := m_calE hf
  rw [hp] at hc
  cases hc
  obtain ⟨-, hf⟩ := m_chkE hf
  obtain ⟨-, hf⟩ := m_chkE hf
  obtain ⟨S2, e2, hf⟩ := m_bndE hf
  have b2 : SB S S2 b := sb_A e2
  have m2 := mB_A hp h1 e2
  have i2 : zI S2 = zI S := by rw [e2]; rfl
  rcases m_ifE hf with ⟨c6, hf⟩ | ⟨c6, hf⟩
  · obtain ⟨-, hf⟩ := m_chkE hf
    obtain ⟨S4, e4, hf⟩ := m_bndE hf
    cases hf
    have n6 : x2.toInt = 6 := by rw [c6]; rfl
    refine ⟨sb_t b2 (sb_I e4), (mB_I e4).trans m2, fun _ => by rw [e4, zI_self], fun h => absurd n6 h, fun h => by omega, fun _ => by rw [e4, zI_j (by decide), i2], fun j j1 j2 => by rw [e4, zI_j j1, i2]⟩
  · have n6 : x2.toInt ≠ 6 := fun h => c6 (Int32.toInt_inj.1 (h.trans z6.symm))
    rcases m_ifE hf with ⟨c7, hf⟩ | ⟨c7, hf⟩
    · obtain ⟨-, hf⟩ := m_chkE hf
      obtain ⟨S4, e4, hf⟩ := m_bndE hf
      cases hf
      have n7 : x2.toInt = 14 := by rw [c7]; rfl
      refine ⟨sb_t b2 (sb_I e4), (mB_I e4).trans m2, fun h => absurd h n6, fun _ => by rw [e4, zI_j (by decide), i2], fun _ => by rw [e4, zI_self], fun h => absurd n7 h, fun j j1 j2 => by rw [e4, zI_j j2, i2]⟩
    · have n7 : x2.toInt ≠ 14 := fun h => c7 (Int32.toInt_inj.1 (h.trans z14.symm))
      cases hf
      exact ⟨b2, m2, fun h => absurd h n6, fun _ => by rw [i2], fun h => absurd h n7, fun _ => by rw [i2], fun j _ _ => by rw [i2]⟩
theorem p_copy {c : Nat} {y : Int32} (hp : zP S 0 b = some (b + 1)) (hq : zP S 0 c = some (c + 1)) (hf : f_X0_copyFrom b c S = some (y, S')) : SB S S' b ∧ mCb S' b = mCb S c ∧ ∀ j, 1 ≤ j → j ≤ 6 → zI S' j b = zI S j c := by
  have hf : f_X0_copyFrom_0 b c S = some (y, S') := hf
  unfold f_X0_copyFrom_0 at hf
  obtain ⟨-, hf⟩ := m_chkE hf
  obtain ⟨d1, hd1, hf⟩ := m_calE hf
  rw [hq] at hd1
  cases hd1
  obtain ⟨-, hf⟩ := m_chkE hf
  obtain ⟨d2, hd2, hf⟩ := m_calE hf
  rw [hp] at hd2
  cases hd2
  obtain ⟨-, hf⟩ := m_chkE hf
  obtain ⟨-, hf⟩ := m_chkE hf
  obtain ⟨-, hf⟩ := m_chkE hf
  obtain ⟨S3, e3, hf⟩ := m_bndE hf
  obtain ⟨-, hf⟩ := m_chkE hf
  obtain ⟨-, hf⟩ := m_chkE hf
  obtain ⟨S4, e4, hf⟩ := m_bndE hf
  obtain ⟨-, hf⟩ := m_chkE hf
  obtain ⟨-, hf⟩ := m_chkE hf
  obtain ⟨S5, e5, hf⟩ := m_bndE hf
  obtain ⟨-, hf⟩ := m_chkE hf
  obtain ⟨-, hf⟩ := m_chkE hf
  obtain ⟨S6, e6, hf⟩ := m_bndE hf
  obtain ⟨-, hf⟩ := m_chkE hf
  obtain ⟨-, hf⟩ := m_chkE hf
  obtain ⟨S7, e7, hf⟩ := m_bndE hf
  obtain ⟨-, hf⟩ := m_chkE hf
  obtain ⟨-, hf⟩ := m_chkE hf
  obtain ⟨S8, e8, hf⟩ := m_bndE hf
  obtain ⟨-, hf⟩ := m_chkE hf
  obtain ⟨-, hf⟩ := m_chkE hf
  obtain ⟨S9, e9, hf⟩ := m_bndE hf
  cases hf
  have i3 : zI S3 = zI S := by rw [e3]; rfl
  refine ⟨sb_t (sb_t (sb_t (sb_t (sb_t (sb_t (sb_C e3) (sb_I e4)) (sb_I e5)) (sb_I e6)) (sb_I e7)) (sb_I e8)) (sb_I e9), ?_, ?_⟩
  · rw [mB_I e9, mB_I e8, mB_I e7, mB_I e6, mB_I e5, mB_I e4, e3]
    funext s
    have h5 : zA (zsC S (c + 1) (b + 1) ((0 : Int32)).toNatClampNeg ((0 : Int32)).toNatClampNeg ((64 : Int32)).toNatClampNeg) (b + 1) = va_cpy (zA S (c + 1)) (zA S (b + 1)) 0 0 64 := va_up_self _ _ _
    have h6 : zP (zsC S (c + 1) (b + 1) ((0 : Int32)).toNatClampNeg ((0 : Int32)).toNatClampNeg ((64 : Int32)).toNatClampNeg) 0 b = some (b + 1) := hp
    unfold mCb
    rw [h6, hq]
    by_cases d : 0 ≤ s ∧ s < 64
    · rw [if_pos d, if_pos d]
      show (zA (zsC S (c + 1) (b + 1) ((0 : Int32)).toNatClampNeg ((0 : Int32)).toNatClampNeg ((64 : Int32)).toNatClampNeg) (b + 1) s.toNat).toInt = (zA S (c + 1) s.toNat).toInt
      rw [h5]
      unfold va_cpy
      rw [if_pos (by omega)]
      congr 2
      omega
    · rw [if_neg d, if_neg d]
  · by_cases e : c = b
    · subst e
      intro j j1 j2
      have h9 : ∀ (T : ZS) (k a : Nat), zI (zsI T k a (zI T k a)) = zI T := fun T k a => by
        funext i d
        show va_up (zI T) k (va_up (zI T k) a (zI T k a)) i d = _
        by_cases f : i = k
        · rw [f, va_up_self]
          by_cases g : d = a
          · rw [g, va_up_self]
          · rw [va_up_ne _ _ g]
        · rw [va_up_ne _ _ f]
      rw [e9, h9, e8, h9, e7, h9, e6, h9, e5, h9, e4, h9, i3]
    · have o4 : ∀ j, zI S4 j c = zI S j c := fun j => by rw [e4, zI_b e, i3]
      have o5 : ∀ j, zI S5 j c = zI S j c := fun j => by rw [e5, zI_b e, o4]
      have o6 : ∀ j, zI S6 j c = zI S j c := fun j => by rw [e6, zI_b e, o5]
      have o7 : ∀ j, zI S7 j c = zI S j c := fun j => by rw [e7, zI_b e, o6]
      have o8 : ∀ j, zI S8 j c = zI S j c := fun j => by rw [e8, zI_b e, o7]
      intro j j1 j2
      have hj : j = 1 ∨ j = 2 ∨ j = 3 ∨ j = 4 ∨ j = 5 ∨ j = 6 := by omega
      rcases hj with h | h | h | h | h | h <;> subst h
      · rw [e9, zI_j (by decide), e8, zI_j (by decide), e7, zI_j (by decide), e6, zI_j (by decide), e5, zI_j (by decide), e4, zI_self, i3]
      · rw [e9, zI_j (by decide), e8, zI_j (by decide), e7, zI_j (by decide), e6, zI_j (by decide), e5, zI_self, o4]
      · rw [e9, zI_j (by decide), e8, zI_j (by decide), e7, zI_j (by decide), e6, zI_self, o5]
      · rw [e9, zI_j (by decide), e8, zI_j (by decide), e7, zI_self, o6]
      · rw [e9, zI_j (by decide), e8, zI_self, o7]
      · rw [e9, zI_self, o8]
def c1 (m : Int → Int) (pw ps a t : Int) : Int → Int := if pw = 1 ∧ t = ps then up m (a / 8 * 8 + t % 8) 0 else m
def c2 (m : Int → Int) (a t : Int) : Int → Int := if m a % 8 = 6 ∧ a / 8 = t / 8 ∧ (t = a + 2 ∨ t = a - 2) then up (up m ((a + t) / 2) (m (if a < t then a / 8 * 8 + 7 else a / 8 * 8))) (if a < t then a / 8 * 8 + 7 else a / 8 * 8) 0 else m
def pv (m : Int → Int) (sd a p : Int) : Int := if p = 0 then m a else p + 8 * sd
def c3 (m : Int → Int) (sd a t p : Int) : Int → Int := up (up m t (pv m sd a p)) a 0
def psC (m : Int → Int) (sd pw a t : Int) : Int := if pw = 1 ∧ (t = a + 16 ∨ t = a - 16) ∧ (0 ≤ (a + t) / 2 + (16 * (1 - sd) - 8) ∧ (a + t) / 2 + (16 * (1 - sd) - 8) < 64 ∧ ((0 < ((a + t) / 2 + (16 * (1 - sd) - 8)) % 8 ∧ m ((a + t) / 2 + (16 * (1 - sd) - 8) - 1) = 1 + 8 * (1 - sd)) ∨ (((a + t) / 2 + (16 * (1 - sd) - 8)) % 8 < 7 ∧ m ((a + t) / 2 + (16 * (1 - sd) - 8) + 1) = 1 + 8 * (1 - sd)))) then (a + t) / 2 else -1
/-- what play leaves of a board: men, kings, rights, passed square -/
def PLq (S S' : ZS) (b : Nat) (M : Int → Int) (wk bk R : Int32) (P : Int) : Prop := SB S S' b ∧ mCb S' b = M ∧ zI S' 1 b = wk ∧ zI S' 2 b = bk ∧ zI S' 4 b = R ∧ (zI S' 5 b).toInt = P ∧ (zI S' 6 b).toInt = (zI S 6 b).toInt + (zI S 3 b).toInt ∧ (zI S' 3 b).toInt = 1 - (zI S 3 b).toInt
def BN (S : ZS) (b : Nat) : Prop := (0 ≤ (zI S 6 b).toInt ∧ (zI S 6 b).toInt ≤ 100000) ∧ 0 ≤ (zI S 3 b).toInt ∧ (zI S 3 b).toInt ≤ 1
theorem pl_pre {M : Int → Int} {wk bk R : Int32} {P : Int} (h : SB S S1 b) (h6 : zI S1 6 b = zI S 6 b) (h3 : zI S1 3 b = zI S 3 b) (hq : PLq S1 S' b M wk bk R P) : PLq S S' b M wk bk R P := by
  obtain ⟨a1, a2, a3, a4, a5, a6, a7, a8⟩ := hq
  rw [h6, h3] at a7
  rw [h3] at a8
  exact ⟨sb_t h a1, a2, a3, a4, a5, a6, a7, a8⟩
theorem p_227 {y : Int32} (hn : BN S b) (hf : f_X0_play_227 b S = some (y, S')) : PLq S S' b (mCb S b) (zI S 1 b) (zI S 2 b) (zI S 4 b) (zI S 5 b).toInt := by
  obtain ⟨⟨n1, n2⟩, n3, n4⟩ := hn
  unfold f_X0_play_227 at hf
  obtain ⟨-, hf⟩ := m_chkE hf
  obtain ⟨-, hf⟩ := m_chkE hf
  obtain ⟨v1, e1, hf⟩ := m_bndE hf
  obtain ⟨-, hf⟩ := m_chkE hf
  obtain ⟨S2, e2, hf⟩ := m_bndE hf
  obtain ⟨-, hf⟩ := m_chkE hf
  obtain ⟨v3, e3, hf⟩ := m_bndE hf
  obtain ⟨-, hf⟩ := m_chkE hf
  obtain ⟨S4, e4, hf⟩ := m_bndE hf
  cases hf
  have t1 : v1.toInt = (zI S 6 b).toInt + (zI S 3 b).toInt := ti_add e1 rfl rfl (by omega) (by omega)
  have i3 : zI S2 3 b = zI S 3 b := by rw [e2, zI_j (by decide)]
  have t3 : v3.toInt = 1 - (zI S 3 b).toInt := ti_sub e3 (show (1 : Int32).toInt = 1 from rfl) (by rw [i3]) (by omega) (by omega)
  have o : ∀ j, j ≠ 3 → j ≠ 6 → zI S' j b = zI S j b := fun j j1 j2 => by rw [e4, zI_j j1, e2, zI_j j2]
  refine ⟨sb_t (sb_I e2) (sb_I e4), (mB_I e4).trans (mB_I e2), o 1 (by decide) (by decide), o 2 (by decide) (by decide), o 4 (by decide) (by decide), by rw [o 5 (by decide) (by decide)], ?_, ?_⟩
  · rw [e4, zI_j (by decide), e2, zI_self]; exact t1
  · rw [e4, zI_self]; exact t3
theorem p_200 {x2 x3 y : Int32} (hT : ZT S) (kb : zK S b = 0) (hn : BN S b) (h2 : 0 ≤ x2.toInt ∧ x2.toInt < 64) (h3 : 0 ≤ x3.toInt ∧ x3.toInt < 64) (h16 : x3.toInt = x2.toInt + 16 ∨ x3.toInt = x2.toInt - 16) (h5 : (zI S 5 b).toInt = -1) (hf : f_X0_play_200 b x2 x3 S = some (y, S')) : PLq S S' b (mCb S b) (zI S 1 b) (zI S 2 b) (zI S 4 b) (psC (mCb S b) (zI S 3 b).toInt 1 x2.toInt x3.toInt) := by
  obtain ⟨⟨n1, n2⟩, n3, n4⟩ := id hn
  unfold f_X0_play_200 at hf
  obtain ⟨v1, e1, hf⟩ := m_bndE hf
  obtain ⟨v2, e2, hf⟩ := m_bndE hf
  obtain ⟨-, hf⟩ := m_chkE hf
  obtain ⟨v3, e3, hf⟩ := m_bndE hf
  obtain ⟨-, hf⟩ := m_chkE hf
  obtain ⟨r4, h4, hf⟩ := m_calR hf (fun _ h => ro_X0_pawnAttacks h)
  have t1 : v1.toInt = x2.toInt + x3.toInt := ti_add e1 rfl rfl (by omega) (by omega)
  have t2 : v2.toInt = (x2.toInt + x3.toInt) / 2 := ti_div e2 t1 (show (2 : Int32).toInt = 2 from rfl) (by omega) (by decide)
  have t3 : v3.toInt = 1 - (zI S 3 b).toInt := ti_sub e3 (show (1 : Int32).toInt = 1 from rfl) rfl (by omega) (by omega)
  obtain ⟨-, r4b, p4⟩ := ok_of (x_f_X0_pawnAttacks (hh := (x2.toInt + x3.toInt) / 2 + (16 * (1 - (zI S 3 b).toInt) - 8)) (ww := 1 + 8 * (1 - (zI S 3 b).toInt)) hT kb (by omega) (by omega) (by rw [t2, t3]) (by rw [t3])) h4
  dsimp only at r4b p4 hf
  rcases m_ifE hf with ⟨c, hf⟩ | ⟨c, hf⟩
  · have q := p_227 hn hf
    have z : r4.toInt = 0 := by rw [c]; rfl
    have e : psC (mCb S b) (zI S 3 b).toInt 1 x2.toInt x3.toInt = -1 := if_neg (fun g => by have := p4.2 g.2.2; omega)
    rw [e]
    rw [h5] at q
    exact q
  · have z : r4.toInt ≠ 0 := fun h => c (Int32.toInt_inj.1 h)
    obtain ⟨v5, e5, hf⟩ := m_bndE hf
    obtain ⟨v6, e6, hf⟩ := m_bndE hf
    obtain ⟨-, hf⟩ := m_chkE hf
    obtain ⟨S7, e7, hf⟩ := m_bndE hf
    have t5 : v5.toInt = x2.toInt + x3.toInt := ti_add e5 rfl rfl (by omega) (by omega)
    have t6 : v6.toInt = (x2.toInt + x3.toInt) / 2 := ti_div e6 t5 (show (2 : Int32).toInt = 2 from rfl) (by omega) (by decide)
    have o : ∀ j, j ≠ 5 → zI S7 j b = zI S j b := fun j hj => by rw [e7, zI_j hj]
    have q := p_227 (S := S7) (by unfold BN; rw [o 6 (by decide), o 3 (by decide)]; exact hn) hf
    have e : psC (mCb S b) (zI S 3 b).toInt 1 x2.toInt x3.toInt = (x2.toInt + x3.toInt) / 2 := if_pos ⟨rfl, h16, p4.1 (by omega)⟩
    have i5 : (zI S7 5 b).toInt = (x2.toInt + x3.toInt) / 2 := by rw [e7, zI_self]; exact t6
    rw [i5, mB_I e7, o 1 (by decide), o 2 (by decide), o 4 (by decide)] at q
    rw [e]
    exact pl_pre (sb_I e7) (o 6 (by decide)) (o 3 (by decide)) q
/-- the king's square that is kept, when a man comes to t -/
def kq (k man w : Int) (old t : Int32) : Int32 := if man = w then t else old
theorem p_144 {x2 x3 x5 t0 y : Int32} (hT : ZT S) (kb : zK S b = 0) (hp : zP S 0 b = some (b + 1)) (hn : BN S b) (h2 : 0 ≤ x2.toInt ∧ x2.toInt < 64) (h3 : 0 ≤ x3.toInt ∧ x3.toInt < 64) (h5 : x5.toInt = 0 ∨ x5.toInt = 1) (hf : f_X0_play_144 b x2 x3 x5 t0 x3 b S = some (y, S')) : PLq S S' b (up (up (mCb S b) x3.toInt t0.toInt) x2.toInt 0) (kq 0 t0.toInt 6 (zI S 1 b) x3) (kq 0 t0.toInt 14 (zI S 2 b) x3) (zI S 4 b &&& ((gn x2.toInt ||| gn x3.toInt) ^^^ (-1 : Int32))) (psC (up (up (mCb S b) x3.toInt t0.toInt) x2.toInt 0) (zI S 3 b).toInt x5.toInt x2.toInt x3.toInt) := by
  unfold f_X0_play_144 at hf
  obtain ⟨-, hf⟩ := m_chkE hf
  obtain ⟨⟨y1, S1⟩, h1, hf⟩ := m_calE hf
  dsimp only at hf
  have T1 : ZT S1 := (ok_of (t_f_X0_put (SZ := S) hT (a7_0 S) kb (by omega)) h1).1
  obtain ⟨b1, m1, w6, n6, w14, n14, o1⟩ := p_put hp h3 h1
  obtain ⟨k1', hf⟩ := m_chkE hf
  obtain ⟨c2, hc2, hf⟩ := m_calE hf
  have hp1 : zP S1 0 b = some (b + 1) := by rw [b1.2.1]; exact hp
  rw [hp1] at hc2
  cases hc2
  obtain ⟨ka, hf⟩ := m_chkE hf
  obtain ⟨-, hf⟩ := m_chkE hf
  obtain ⟨S3, e3, hf⟩ := m_bndE hf
  have T3 : ZT S3 := e3.symm ▸ zt_A T1 ka
  have b3 : SB S S3 b := sb_t b1 (sb_A e3)
  have m3 : mCb S3 b = up (up (mCb S b) x3.toInt t0.toInt) x2.toInt 0 := by
    rw [mB_A hp1 h2 e3, m1]; rfl
  have i3 : zI S3 = zI S1 := by rw [e3]; rfl
  obtain ⟨-, hf⟩ := m_chkE hf
  obtain ⟨⟨r4, Sy⟩, h4, hf⟩ := m_calE hf
  obtain ⟨s4, -, g4⟩ := ok_of (x_f_X0_rightsOf (x0 := x2) T3) h4
  dsimp only at s4 g4 hf
  subst s4
  obtain ⟨⟨r5, Sz⟩, h5', hf⟩ := m_calE hf
  obtain ⟨s5, -, g5⟩ := ok_of (x_f_X0_rightsOf (x0 := x3) T3) h5'
  dsimp only at s5 g5 hf
  subst s5
  obtain ⟨v6, e6, hf⟩ := m_bndE hf
  obtain ⟨v7, e7, hf⟩ := m_bndE hf
  obtain ⟨v8, e8, hf⟩ := m_bndE hf
  obtain ⟨k9, hf⟩ := m_chkE hf
  obtain ⟨S9, e9, hf⟩ := m_bndE hf
  obtain ⟨k9', hf⟩ := m_chkE hf
  obtain ⟨S10, e10, hf⟩ := m_bndE hf
  have z1 : (-1 : Int32).toInt = -1 := rfl
  have T9 : ZT S9 := e9.symm ▸ zt_W T3 k9 (by decide) rfl
  have T10 : ZT S10 := e10.symm ▸ zt_I T9 k9' (by decide) (show (-1 : Int) ≤ (-1 : Int32).toInt ∧ (-1 : Int32).toInt ≤ (63 : Int) from by decide)
  have b10 : SB S S10 b := sb_t b3 (sb_t (sb_I e9) (sb_I e10))
  have m10 : mCb S10 b = up (up (mCb S b) x3.toInt t0.toInt) x2.toInt 0 := (mB_I e10).trans ((mB_I e9).trans m3)
  have o10 : ∀ j, j ≠ 4 → j ≠ 5 → zI S10 j b = zI S1 j b := fun j j1 j2 => by rw [e10, zI_j j2, e9, zI_j j1, i3]
  have r10 : zI S10 4 b = zI S 4 b &&& ((gn x2.toInt ||| gn x3.toInt) ^^^ (-1 : Int32)) := by
    rw [e10, zI_j (by decide), e9, zI_self, e8, e7, e6, g4, g5, i3, o1 4 (by decide) (by decide)]
  have s10 : (zI S10 5 b).toInt = -1 := by rw [e10, zI_self]; rfl
  have i6 : zI S10 6 b = zI S 6 b := by rw [o10 6 (by decide) (by decide), o1 6 (by decide) (by decide)]
  have i33 : zI S10 3 b = zI S 3 b := by rw [o10 3 (by decide) (by decide), o1 3 (by decide) (by decide)]
  have hn10 : BN S10 b := by unfold BN; rw [i6, i33]; exact hn
  have k10 : zK S10 b = 0 := by rw [b10.1.2.2.1]; exact kb
  have w1 : zI S10 1 b = kq 0 t0.toInt 6 (zI S 1 b) x3 := by
    rw [o10 1 (by decide) (by decide)]
    unfold kq
    by_cases c : t0.toInt = 6
    · rw [if_pos c]; exact w6 c
    · rw [if_neg c]; exact n6 c
  have w2 : zI S10 2 b = kq 0 t0.toInt 14 (zI S 2 b) x3 := by
    rw [o10 2 (by decide) (by decide)]
    unfold kq
    by_cases c : t0.toInt = 14
    · rw [if_pos c]; exact w14 c
    · rw [if_neg c]; exact n14 c
  have z0 : (0 : Int32).toInt = 0 := rfl
  have no : ¬ (x5.toInt = 1 ∧ (x3.toInt = x2.toInt + 16 ∨ x3.toInt = x2.toInt - 16)) → f_X0_play_227 b S10 = some (y, S') → PLq S S' b (up (up (mCb S b) x3.toInt t0.toInt) x2.toInt 0) (kq 0 t0.toInt 6 (zI S 1 b) x3) (kq 0 t0.toInt 14 (zI S 2 b) x3) (zI S 4 b &&& ((gn x2.toInt ||| gn x3.toInt) ^^^ (-1 : Int32))) (psC (up (up (mCb S b) x3.toInt t0.toInt) x2.toInt 0) (zI S 3 b).toInt x5.toInt x2.toInt x3.toInt) := by
    intro hno hf
    have q := p_227 hn10 hf
    have e : psC (up (up (mCb S b) x3.toInt t0.toInt) x2.toInt 0) (zI S 3 b).toInt x5.toInt x2.toInt x3.toInt = -1 := if_neg (fun g => hno ⟨g.1, g.2.1⟩)
    rw [s10, m10, w1, w2, r10] at q
    rw [e]
    exact pl_pre b10 i6 i33 q
  have yes : x5.toInt = 1 → (x3.toInt = x2.toInt + 16 ∨ x3.toInt = x2.toInt - 16) → f_X0_play_200 b x2 x3 S10 = some (y, S') → PLq S S' b (up (up (mCb S b) x3.toInt t0.toInt) x2.toInt 0) (kq 0 t0.toInt 6 (zI S 1 b) x3) (kq 0 t0.toInt 14 (zI S 2 b) x3) (zI S 4 b &&& ((gn x2.toInt ||| gn x3.toInt) ^^^ (-1 : Int32))) (psC (up (up (mCb S b) x3.toInt t0.toInt) x2.toInt 0) (zI S 3 b).toInt x5.toInt x2.toInt x3.toInt) := by
    intro h1 h16 hf
    have q := p_200 T10 k10 hn10 h2 h3 h16 s10 hf
    rw [m10, w1, w2, r10, i33] at q
    rw [h1]
    exact pl_pre b10 i6 i33 q
  rcases m_ifE hf with ⟨c, hf⟩ | ⟨c, hf⟩
  · exact no (fun g => by rw [c] at g; omega) hf
  · have c1 : x5.toInt = 1 := h5.resolve_left (fun h => c (Int32.toInt_inj.1 h))
    obtain ⟨v11, e11, hf⟩ := m_bndE hf
    have t11 : v11.toInt = x2.toInt + 16 := ti_add e11 rfl (show (16 : Int32).toInt = 16 from rfl) (by omega) (by omega)
    rcases m_ifE hf with ⟨d, hf⟩ | ⟨d, hf⟩
    · exact yes c1 (Or.inl (by rw [d]; exact t11)) hf
    · have d1 : x3.toInt ≠ x2.toInt + 16 := fun h => d (Int32.toInt_inj.1 (h.trans t11.symm))
      obtain ⟨v12, e12, hf⟩ := m_bndE hf
      have t12 : v12.toInt = x2.toInt - 16 := ti_sub e12 rfl (show (16 : Int32).toInt = 16 from rfl) (by omega) (by omega)
      rcases m_ifE hf with ⟨f, hf⟩ | ⟨f, hf⟩
      · exact yes c1 (Or.inr (by rw [f]; exact t12)) hf
      · have f1 : x3.toInt ≠ x2.toInt - 16 := fun h => f (Int32.toInt_inj.1 (h.trans t12.symm))
        exact no (fun g => by omega) hf
theorem p_118 {x2 x3 x4 x5 y : Int32} (hT : ZT S) (kb : zK S b = 0) (hp : zP S 0 b = some (b + 1)) (hn : BN S b) (h2 : 0 ≤ x2.toInt ∧ x2.toInt < 64) (h3 : 0 ≤ x3.toInt ∧ x3.toInt < 64) (h4 : 0 ≤ x4.toInt ∧ x4.toInt ≤ 7) (h5 : x5.toInt = 0 ∨ x5.toInt = 1) (hf : f_X0_play_118 b x2 x3 x4 x5 S = some (y, S')) : PLq S S' b (c3 (mCb S b) (zI S 3 b).toInt x2.toInt x3.toInt x4.toInt) (kq 0 (pv (mCb S b) (zI S 3 b).toInt x2.toInt x4.toInt) 6 (zI S 1 b) x3) (kq 0 (pv (mCb S b) (zI S 3 b).toInt x2.toInt x4.toInt) 14 (zI S 2 b) x3) (zI S 4 b &&& ((gn x2.toInt ||| gn x3.toInt) ^^^ (-1 : Int32))) (psC (c3 (mCb S b) (zI S 3 b).toInt x2.toInt x3.toInt x4.toInt) (zI S 3 b).toInt x5.toInt x2.toInt x3.toInt) := by
  have hnn := hn.2
  unfold f_X0_play_118 at hf
  rcases m_ifE hf with ⟨c, hf⟩ | ⟨c, hf⟩
  · obtain ⟨-, hf⟩ := m_chkE hf
    obtain ⟨d, hd, hf⟩ := m_calE hf
    rw [hp] at hd
    cases hd
    obtain ⟨-, hf⟩ := m_chkE hf
    obtain ⟨-, hf⟩ := m_chkE hf
    obtain ⟨v4, e4, hf⟩ := m_bndE hf
    have q := p_144 hT kb hp hn h2 h3 h5 hf
    have ev : v4.toInt = pv (mCb S b) (zI S 3 b).toInt x2.toInt x4.toInt := by
      unfold pv
      rw [if_pos (by rw [c]; rfl), e4]
      exact mB_v hp h2
    rw [ev] at q
    exact q
  · have c0 : x4.toInt ≠ 0 := fun h => c (Int32.toInt_inj.1 h)
    obtain ⟨-, hf⟩ := m_chkE hf
    obtain ⟨v1, e1, hf⟩ := m_bndE hf
    obtain ⟨v2, e2, hf⟩ := m_bndE hf
    have t1 : v1.toInt = 8 * (zI S 3 b).toInt := ti_mul e1 (show (8 : Int32).toInt = 8 from rfl) rfl (by omega) (by omega)
    have t2 : v2.toInt = x4.toInt + 8 * (zI S 3 b).toInt := ti_add e2 rfl t1 (by omega) (by omega)
    have q := p_144 hT kb hp hn h2 h3 h5 hf
    have ev : v2.toInt = pv (mCb S b) (zI S 3 b).toInt x2.toInt x4.toInt := by
      unfold pv
      rw [if_neg c0]
      exact t2
    rw [ev] at q
    exact q
theorem p_91 {x2 x3 x4 x5 t0 y : Int32} (hT : ZT S) (kb : zK S b = 0) (hp : zP S 0 b = some (b + 1)) (hn : BN S b) (h2 : 0 ≤ x2.toInt ∧ x2.toInt < 64) (h3 : 0 ≤ x3.toInt ∧ x3.toInt < 64) (h4 : 0 ≤ x4.toInt ∧ x4.toInt ≤ 7) (h5 : x5.toInt = 0 ∨ x5.toInt = 1) (ht : 0 ≤ t0.toInt ∧ t0.toInt < 64) (hf : f_X0_play_91 b x2 x3 x4 x5 t0 S = some (y, S')) : PLq S S' b (c3 (up (up (mCb S b) ((x2.toInt + x3.toInt) / 2) (mCb S b t0.toInt)) t0.toInt 0) (zI S 3 b).toInt x2.toInt x3.toInt x4.toInt) (kq 0 (pv (up (up (mCb S b) ((x2.toInt + x3.toInt) / 2) (mCb S b t0.toInt)) t0.toInt 0) (zI S 3 b).toInt x2.toInt x4.toInt) 6 (zI S 1 b) x3) (kq 0 (pv (up (up (mCb S b) ((x2.toInt + x3.toInt) / 2) (mCb S b t0.toInt)) t0.toInt 0) (zI S 3 b).toInt x2.toInt x4.toInt) 14 (zI S 2 b) x3) (zI S 4 b &&& ((gn x2.toInt ||| gn x3.toInt) ^^^ (-1 : Int32))) (psC (c3 (up (up (mCb S b) ((x2.toInt + x3.toInt) / 2) (mCb S b t0.toInt)) t0.toInt 0) (zI S 3 b).toInt x2.toInt x3.toInt x4.toInt) (zI S 3 b).toInt x5.toInt x2.toInt x3.toInt) := by
  unfold f_X0_play_91 at hf
  obtain ⟨-, hf⟩ := m_chkE hf
  obtain ⟨d1, hd1, hf⟩ := m_calE hf
  rw [hp] at hd1
  cases hd1
  obtain ⟨v2, e2, hf⟩ := m_bndE hf
  obtain ⟨v3, e3, hf⟩ := m_bndE hf
  have t2 : v2.toInt = x2.toInt + x3.toInt := ti_add e2 rfl rfl (by omega) (by omega)
  have t3 : v3.toInt = (x2.toInt + x3.toInt) / 2 := ti_div e3 t2 (show (2 : Int32).toInt = 2 from rfl) (by omega) (by decide)
  obtain ⟨-, hf⟩ := m_chkE hf
  obtain ⟨d4, hd4, hf⟩ := m_calE hf
  rw [hp] at hd4
  cases hd4
  obtain ⟨ka, hf⟩ := m_chkE hf
  obtain ⟨-, hf⟩ := m_chkE hf
  obtain ⟨v5, e5, hf⟩ := m_bndE hf
  have t5 : v5.toInt = mCb S b t0.toInt := by rw [e5]; exact mB_v hp ht
  obtain ⟨-, hf⟩ := m_chkE hf
  obtain ⟨-, hf⟩ := m_chkE hf
  obtain ⟨S6, e6, hf⟩ := m_bndE hf
  have T6 : ZT S6 := e6.symm ▸ zt_A hT ka
  have p6 : zP S6 0 b = some (b + 1) := by rw [e6]; exact hp
  have m6 : mCb S6 b = up (mCb S b) ((x2.toInt + x3.toInt) / 2) (mCb S b t0.toInt) := by
    rw [mB_A hp (by omega) e6, t3, t5]
  obtain ⟨-, hf⟩ := m_chkE hf
  obtain ⟨d7, hd7, hf⟩ := m_calE hf
  rw [p6] at hd7
  cases hd7
  obtain ⟨ka6, hf⟩ := m_chkE hf
  obtain ⟨-, hf⟩ := m_chkE hf
  obtain ⟨S8, e8, hf⟩ := m_bndE hf
  have T8 : ZT S8 := e8.symm ▸ zt_A T6 ka6
  have p8 : zP S8 0 b = some (b + 1) := by rw [e8]; exact p6
  have m8 : mCb S8 b = up (up (mCb S b) ((x2.toInt + x3.toInt) / 2) (mCb S b t0.toInt)) t0.toInt 0 := by
    rw [mB_A p6 ht e8, m6]; rfl
  have i8 : zI S8 = zI S := by rw [e8]; show zI S6 = _; rw [e6]; rfl
  have k8 : zK S8 b = 0 := by rw [e8]; show zK S6 b = 0; rw [e6]; exact kb
  have q := p_118 T8 k8 p8 (by unfold BN; rw [i8]; exact hn) h2 h3 h4 h5 hf
  rw [m8, i8] at q
  exact pl_pre (sb_t (sb_A e6) (sb_A e8)) (by rw [i8]) (by rw [i8]) q
theorem sq_56 {x v : Int32} (e : v = x &&& (56 : Int32)) (h : 0 ≤ x.toInt ∧ x.toInt < 64) : v.toInt = x.toInt / 8 * 8 := by
  rw [e]
  exact sq_all (P := fun x => (x &&& (56 : Int32)).toInt = x.toInt / 8 * 8) (by decide) (x := x) (by omega)
theorem sq_7 {x v : Int32} (e : v = x &&& (7 : Int32)) (h : 0 ≤ x.toInt ∧ x.toInt < 64) : v.toInt = x.toInt % 8 := by
  rw [e]
  exact sq_all (P := fun x => (x &&& (7 : Int32)).toInt = x.toInt % 8) (by decide) (x := x) (by omega)
theorem sq_o7 {x v : Int32} (e : v = x ||| (7 : Int32)) (h : 0 ≤ x.toInt ∧ x.toInt < 64) : v.toInt = x.toInt / 8 * 8 + 7 := by
  rw [e]
  exact sq_all (P := fun x => (x ||| (7 : Int32)).toInt = x.toInt / 8 * 8 + 7) (by decide) (x := x) (by omega)
theorem c2_y {m : Int → Int} {a t c : Int} (h : cas m a t) (hc : c = if a < t then a / 8 * 8 + 7 else a / 8 * 8) : c2 m a t = up (up m ((a + t) / 2) (m c)) c 0 := by
  subst hc
  exact if_pos h
theorem c2_n {m : Int → Int} {a t : Int} (h : ¬ cas m a t) : c2 m a t = m := if_neg h
theorem p_66 {x2 x3 x4 x5 y : Int32} (hT : ZT S) (kb : zK S b = 0) (hp : zP S 0 b = some (b + 1)) (hn : BN S b) (h2 : 0 ≤ x2.toInt ∧ x2.toInt < 64) (h3 : 0 ≤ x3.toInt ∧ x3.toInt < 64) (h4 : 0 ≤ x4.toInt ∧ x4.toInt ≤ 7) (hm : MBd (mCb S b)) (h5 : x5.toInt = 0 ∨ x5.toInt = 1) (hf : f_X0_play_66 b x2 x3 x4 x5 S = some (y, S')) : PLq S S' b (c3 (c2 (mCb S b) x2.toInt x3.toInt) (zI S 3 b).toInt x2.toInt x3.toInt x4.toInt) (kq 0 (pv (c2 (mCb S b) x2.toInt x3.toInt) (zI S 3 b).toInt x2.toInt x4.toInt) 6 (zI S 1 b) x3) (kq 0 (pv (c2 (mCb S b) x2.toInt x3.toInt) (zI S 3 b).toInt x2.toInt x4.toInt) 14 (zI S 2 b) x3) (zI S 4 b &&& ((gn x2.toInt ||| gn x3.toInt) ^^^ (-1 : Int32))) (psC (c3 (c2 (mCb S b) x2.toInt x3.toInt) (zI S 3 b).toInt x2.toInt x3.toInt x4.toInt) (zI S 3 b).toInt x5.toInt x2.toInt x3.toInt) := by
  unfold f_X0_play_66 at hf
  obtain ⟨-, hf⟩ := m_chkE hf
  obtain ⟨r1, h1, hf⟩ := m_calR hf (fun _ h => ro_X0_castles h)
  obtain ⟨-, r1b, q1⟩ := ok_of (x_f_X0_castles hT kb (by omega) (by omega) hm) h1
  dsimp only at r1b q1 hf
  rcases m_ifE hf with ⟨c, hf⟩ | ⟨c, hf⟩
  · have z : r1.toInt = 0 := by rw [c]; rfl
    have e : c2 (mCb S b) x2.toInt x3.toInt = mCb S b := c2_n (fun g => by have := q1.2 g; omega)
    rw [e]
    exact p_118 hT kb hp hn h2 h3 h4 h5 hf
  · have z : r1.toInt ≠ 0 := fun h => c (Int32.toInt_inj.1 h)
    have hc := q1.1 (by omega)
    rcases m_ifE hf with ⟨d, hf⟩ | ⟨d, hf⟩
    · have d1 := ti_leP (a := x3) (b := x2) d rfl rfl
      obtain ⟨v2, e2, hf⟩ := m_bndE hf
      have t2 := sq_56 e2 h2
      have e : c2 (mCb S b) x2.toInt x3.toInt = _ := c2_y (c := v2.toInt) hc (by rw [if_neg (by omega)]; exact t2)
      rw [e]
      exact p_91 hT kb hp hn h2 h3 h4 h5 (by omega) hf
    · have d1 := ti_leN (a := x3) (b := x2) d rfl rfl
      obtain ⟨v3, e3, hf⟩ := m_bndE hf
      have t3 := sq_o7 e3 h2
      have e : c2 (mCb S b) x2.toInt x3.toInt = _ := c2_y (c := v3.toInt) hc (by rw [if_pos (by omega)]; exact t3)
      rw [e]
      exact p_91 hT kb hp hn h2 h3 h4 h5 (by omega) hf
theorem p_36 {x2 x3 x4 t0 y : Int32} (hT : ZT S) (kb : zK S b = 0) (hp : zP S 0 b = some (b + 1)) (hn : BN S b) (h2 : 0 ≤ x2.toInt ∧ x2.toInt < 64) (h3 : 0 ≤ x3.toInt ∧ x3.toInt < 64) (h4 : 0 ≤ x4.toInt ∧ x4.toInt ≤ 7) (hm : MBd (mCb S b)) (h5 : t0.toInt = 0 ∨ t0.toInt = 1) (hf : f_X0_play_36 b x2 x3 x4 t0 S = some (y, S')) : PLq S S' b (c3 (c2 (c1 (mCb S b) t0.toInt (zI S 5 b).toInt x2.toInt x3.toInt) x2.toInt x3.toInt) (zI S 3 b).toInt x2.toInt x3.toInt x4.toInt) (kq 0 (pv (c2 (c1 (mCb S b) t0.toInt (zI S 5 b).toInt x2.toInt x3.toInt) x2.toInt x3.toInt) (zI S 3 b).toInt x2.toInt x4.toInt) 6 (zI S 1 b) x3) (kq 0 (pv (c2 (c1 (mCb S b) t0.toInt (zI S 5 b).toInt x2.toInt x3.toInt) x2.toInt x3.toInt) (zI S 3 b).toInt x2.toInt x4.toInt) 14 (zI S 2 b) x3) (zI S 4 b &&& ((gn x2.toInt ||| gn x3.toInt) ^^^ (-1 : Int32))) (psC (c3 (c2 (c1 (mCb S b) t0.toInt (zI S 5 b).toInt x2.toInt x3.toInt) x2.toInt x3.toInt) (zI S 3 b).toInt x2.toInt x3.toInt x4.toInt) (zI S 3 b).toInt t0.toInt x2.toInt x3.toInt) := by
  have z0 : (0 : Int32).toInt = 0 := rfl
  have no : ¬ (t0.toInt = 1 ∧ x3.toInt = (zI S 5 b).toInt) → f_X0_play_66 b x2 x3 x4 t0 S = some (y, S') → PLq S S' b (c3 (c2 (c1 (mCb S b) t0.toInt (zI S 5 b).toInt x2.toInt x3.toInt) x2.toInt x3.toInt) (zI S 3 b).toInt x2.toInt x3.toInt x4.toInt) (kq 0 (pv (c2 (c1 (mCb S b) t0.toInt (zI S 5 b).toInt x2.toInt x3.toInt) x2.toInt x3.toInt) (zI S 3 b).toInt x2.toInt x4.toInt) 6 (zI S 1 b) x3) (kq 0 (pv (c2 (c1 (mCb S b) t0.toInt (zI S 5 b).toInt x2.toInt x3.toInt) x2.toInt x3.toInt) (zI S 3 b).toInt x2.toInt x4.toInt) 14 (zI S 2 b) x3) (zI S 4 b &&& ((gn x2.toInt ||| gn x3.toInt) ^^^ (-1 : Int32))) (psC (c3 (c2 (c1 (mCb S b) t0.toInt (zI S 5 b).toInt x2.toInt x3.toInt) x2.toInt x3.toInt) (zI S 3 b).toInt x2.toInt x3.toInt x4.toInt) (zI S 3 b).toInt t0.toInt x2.toInt x3.toInt) := by
    intro hno hf
    have e : c1 (mCb S b) t0.toInt (zI S 5 b).toInt x2.toInt x3.toInt = mCb S b := if_neg hno
    rw [e]
    exact p_66 hT kb hp hn h2 h3 h4 hm h5 hf
  unfold f_X0_play_36 at hf
  rcases m_ifE hf with ⟨c, hf⟩ | ⟨c, hf⟩
  · exact no (fun g => by rw [c] at g; omega) hf
  · have c1' : t0.toInt = 1 := h5.resolve_left (fun h => c (Int32.toInt_inj.1 h))
    obtain ⟨-, hf⟩ := m_chkE hf
    rcases m_ifE hf with ⟨d, hf⟩ | ⟨d, hf⟩
    · obtain ⟨-, hf⟩ := m_chkE hf
      obtain ⟨d1, hd1, hf⟩ := m_calE hf
      rw [hp] at hd1
      cases hd1
      obtain ⟨v2, e2, hf⟩ := m_bndE hf
      obtain ⟨v3, e3, hf⟩ := m_bndE hf
      obtain ⟨v4, e4, hf⟩ := m_bndE hf
      have t2 := sq_56 e2 h2
      have t3 := sq_7 e3 h3
      have t4 : v4.toInt = x2.toInt / 8 * 8 + x3.toInt % 8 := ti_add e4 t2 t3 (by omega) (by omega)
      obtain ⟨ka, hf⟩ := m_chkE hf
      obtain ⟨-, hf⟩ := m_chkE hf
      obtain ⟨S5, e5, hf⟩ := m_bndE hf
      have T5 : ZT S5 := e5.symm ▸ zt_A hT ka
      have p5 : zP S5 0 b = some (b + 1) := by rw [e5]; exact hp
      have m5 : mCb S5 b = up (mCb S b) (x2.toInt / 8 * 8 + x3.toInt % 8) 0 := by
        rw [mB_A hp (by omega) e5, t4]; rfl
      have i5 : zI S5 = zI S := by rw [e5]; rfl
      have k5 : zK S5 b = 0 := by rw [e5]; exact kb
      have q := p_66 T5 k5 p5 (by unfold BN; rw [i5]; exact hn) h2 h3 h4 (by rw [m5]; exact mbd_up hm (by decide)) h5 hf
      rw [m5, i5] at q
      have e : c1 (mCb S b) t0.toInt (zI S 5 b).toInt x2.toInt x3.toInt = up (mCb S b) (x2.toInt / 8 * 8 + x3.toInt % 8) 0 := if_pos ⟨c1', by rw [d]⟩
      rw [e]
      exact pl_pre (sb_A e5) (by rw [i5]) (by rw [i5]) q
    · exact no (fun g => d (Int32.toInt_inj.1 g.2)) hf
theorem mv_a0 : ∀ a : Nat, a < 384 → ∀ c : Nat, c < 64 → (nI (64 * a + c) &&& (63 : Int32)) = nI ((64 * a + c) % 64) ∧ ((nI (64 * a + c) >>> ((6 : Int32) &&& 31)) &&& (63 : Int32)) = nI ((64 * a + c) / 64 % 64) ∧ (nI (64 * a + c) >>> ((12 : Int32) &&& 31)) = nI ((64 * a + c) / 4096) ∧ ((nI (64 * a + c) >>> ((12 : Int32) &&& 31)) &&& (7 : Int32)) = nI ((64 * a + c) / 4096) := by decide +kernel
theorem mv_all (n : Nat) (h : n < 24576) : (nI n &&& (63 : Int32)) = nI (n % 64) ∧ ((nI n >>> ((6 : Int32) &&& 31)) &&& (63 : Int32)) = nI (n / 64 % 64) ∧ (nI n >>> ((12 : Int32) &&& 31)) = nI (n / 4096) ∧ ((nI n >>> ((12 : Int32) &&& 31)) &&& (7 : Int32)) = nI (n / 4096) := by
  have := mv_a0 (n / 64) (by omega) (n % 64) (by omega)
  rw [show 64 * (n / 64) + n % 64 = n by omega] at this
  exact this
/-- a move's numbers -/
theorem mv_bits {x v1 v2 v3 v4 v5 : Int32} (h : 0 ≤ x.toInt ∧ x.toInt ≤ 24575) (e1 : v1 = x &&& (63 : Int32)) (e2 : v2 = x >>> ((6 : Int32) &&& 31)) (e3 : v3 = v2 &&& (63 : Int32)) (e4 : v4 = x >>> ((12 : Int32) &&& 31)) (e5 : v5 = v4 &&& (7 : Int32)) : v1.toInt = x.toInt % 64 ∧ v3.toInt = x.toInt / 64 % 64 ∧ v5.toInt = x.toInt / 4096 ∧ v4.toInt = x.toInt / 4096 := by
  have hx : x = nI x.toInt.toNat := by
    apply Int32.toInt_inj.1
    rw [nI_toInt (by omega)]
    omega
  obtain ⟨a1, a2, a3, a4⟩ := mv_all x.toInt.toNat (by omega)
  rw [← hx] at a1 a2 a3 a4
  subst e1 e2 e3 e4 e5
  rw [a1, a2, a4, a3, nI_toInt (by omega), nI_toInt (by omega), nI_toInt (by omega)]
  omega
/-- the men behind a move, but for the two squares of the man itself -/
def m2B (m : Int → Int) (ps a t : Int) : Int → Int := c2 (c1 m (pwb m a) ps a t) a t
theorem p_play {x y : Int32} (hT : ZT S) (kb : zK S b = 0) (hp : zP S 0 b = some (b + 1)) (hn : BN S b) (hm : MBd (mCb S b)) (hx : 0 ≤ x.toInt ∧ x.toInt ≤ 24575) (hf : f_X0_play b x S = some (y, S')) : ∃ tq : Int32, tq.toInt = x.toInt / 64 % 64 ∧ PLq S S' b (c3 (m2B (mCb S b) (zI S 5 b).toInt (x.toInt % 64) (x.toInt / 64 % 64)) (zI S 3 b).toInt (x.toInt % 64) (x.toInt / 64 % 64) (x.toInt / 4096)) (kq 0 (pv (m2B (mCb S b) (zI S 5 b).toInt (x.toInt % 64) (x.toInt / 64 % 64)) (zI S 3 b).toInt (x.toInt % 64) (x.toInt / 4096)) 6 (zI S 1 b) tq) (kq 0 (pv (m2B (mCb S b) (zI S 5 b).toInt (x.toInt % 64) (x.toInt / 64 % 64)) (zI S 3 b).toInt (x.toInt % 64) (x.toInt / 4096)) 14 (zI S 2 b) tq) (zI S 4 b &&& ((gn (x.toInt % 64) ||| gn (x.toInt / 64 % 64)) ^^^ (-1 : Int32))) (psC (c3 (m2B (mCb S b) (zI S 5 b).toInt (x.toInt % 64) (x.toInt / 64 % 64)) (zI S 3 b).toInt (x.toInt % 64) (x.toInt / 64 % 64) (x.toInt / 4096)) (zI S 3 b).toInt (pwb (mCb S b) (x.toInt % 64)) (x.toInt % 64) (x.toInt / 64 % 64)) := by
  have hf : f_X0_play_0 b x S = some (y, S') := hf
  unfold f_X0_play_0 at hf
  obtain ⟨v1, e1, hf⟩ := m_bndE hf
  obtain ⟨v2, e2, hf⟩ := m_bndE hf
  obtain ⟨v3, e3, hf⟩ := m_bndE hf
  obtain ⟨v4, e4, hf⟩ := m_bndE hf
  obtain ⟨v5, e5, hf⟩ := m_bndE hf
  obtain ⟨t1, t3, t5, -⟩ := mv_bits hx e1 e2 e3 e4 e5
  obtain ⟨-, hf⟩ := m_chkE hf
  obtain ⟨r6, h6, hf⟩ := m_calR hf (fun _ h => ro_X0_kindAt h)
  obtain ⟨-, r6b, q6⟩ := ok_of (x_f_X0_kindAt hT kb (by omega) hm) h6
  dsimp only at r6b q6 hf
  refine ⟨v3, t3, ?_⟩
  have z1 : (1 : Int32).toInt = 1 := rfl
  have z0 : (0 : Int32).toInt = 0 := rfl
  rcases m_ifE hf with ⟨c, hf⟩ | ⟨c, hf⟩
  · have c1' : mCb S b v1.toInt % 8 = 1 := by rw [← q6, c]; rfl
    have e : pwb (mCb S b) (x.toInt % 64) = (1 : Int32).toInt := by
      unfold pwb
      rw [← t1, if_pos c1']; rfl
    have q := p_36 hT kb hp hn (by omega) (by omega) (by omega) hm (Or.inr rfl) hf
    unfold m2B
    rw [e]
    rw [t1, t3, t5] at q
    exact q
  · have c1' : ¬ mCb S b v1.toInt % 8 = 1 := fun h => c (Int32.toInt_inj.1 (by rw [q6, h]; rfl))
    have e : pwb (mCb S b) (x.toInt % 64) = (0 : Int32).toInt := by
      unfold pwb
      rw [← t1, if_neg c1']; rfl
    have q := p_36 hT kb hp hn (by omega) (by omega) (by omega) hm (Or.inl rfl) hf
    unfold m2B
    rw [e]
    rw [t1, t3, t5] at q
    exact q
end SBS
