def LG (m : Int → Int) (sd rt ps kw kb a t : Int) : Prop := rch m sd rt ps a t ∧ safC m sd ps (if sd = 0 then kw else kb) a t 0
def NBf (m : Int → Int) (sd rt ps kw kb k : Int) : Prop := ∀ a t : Int, 0 ≤ a → a < 64 → 0 ≤ t → t < 64 → a * 64 + t < k → ¬ LG m sd rt ps kw kb a t
def ANY (m : Int → Int) (sd rt ps kw kb : Int) : Prop := ∃ a t : Int, 0 ≤ a ∧ a < 64 ∧ 0 ≤ t ∧ t < 64 ∧ LG m sd rt ps kw kb a t
/-- what sign a position asks for: none, +, # -/
def csP (m : Int → Int) (sd rt ps kw kb v : Int) : Prop := (¬ attd m (if sd = 0 then kw else kb) (1 - sd) ∧ v = 0) ∨ (attd m (if sd = 0 then kw else kb) (1 - sd) ∧ ANY m sd rt ps kw kb ∧ v = 43) ∨ (attd m (if sd = 0 then kw else kb) (1 - sd) ∧ ¬ ANY m sd rt ps kw kb ∧ v = 35)
theorem csP_u {m : Int → Int} {sd rt ps kw kb v w : Int} (h : csP m sd rt ps kw kb v) (g : csP m sd rt ps kw kb w) : v = w := by
  rcases h with ⟨a, b⟩ | ⟨a, c, b⟩ | ⟨a, c, b⟩ <;> rcases g with ⟨d, e⟩ | ⟨d, f, e⟩ | ⟨d, f, e⟩ <;> first | omega | exact absurd d a | exact absurd a d | exact absurd c f | exact absurd f c
/-- the position behind a move -/
def afM (m : Int → Int) (sd ps x : Int) : Int → Int := plB m sd ps (x % 64) (x / 64 % 64) (x / 4096)
def afR (rt x : Int) : Int := (Int32.ofInt rt &&& ((gn (x % 64) ||| gn (x / 64 % 64)) ^^^ (-1 : Int32))).toInt
def afP (m : Int → Int) (sd ps x : Int) : Int := psC (afM m sd ps x) sd (pwb m (x % 64)) (x % 64) (x / 64 % 64)
def afK (m : Int → Int) (sd ps x w old : Int) : Int := kgB m sd ps (x % 64) (x / 64 % 64) (x / 4096) w old
section CSG
variable {m : Int → Int} {sd rt ps kw kb : Int}
theorem nb_s {a t : Int} (h : NBf m sd rt ps kw kb (a * 64 + t)) (hn : ¬ LG m sd rt ps kw kb a t) (ha : 0 ≤ a ∧ a < 64) (ht : 0 ≤ t ∧ t < 64) : NBf m sd rt ps kw kb (a * 64 + t + 1) := by
  intro b u b1 b2 u1 u2 hlt
  by_cases c : b * 64 + u < a * 64 + t
  · exact h b u b1 b2 u1 u2 c
  · have e1 : b = a := by omega
    have e2 : u = t := by omega
    rw [e1, e2]
    exact hn
theorem nb_any {k : Int} (h : NBf m sd rt ps kw kb k) (hk : 4096 ≤ k) : ¬ ANY m sd rt ps kw kb := by
  rintro ⟨a, t, a1, a2, t1, t2, g⟩
  exact h a t a1 a2 t1 t2 (by omega) g
theorem nb_0 : NBf m sd rt ps kw kb 0 := fun a t a1 a2 t1 t2 h => by omega
section CLS
variable {S0 : ZS} {x0 tb ab : Nat} {o : Int32 × ZS}
theorem cs_62 {x3 : Int32} {self53 : Nat → Int32 → ZS → Option (Int32 × ZS)} {G : Int32 × ZS → Prop} (hM : MBd m) (hr : 0 ≤ rt ∧ rt ≤ 15) (ha : zP S0 1 x0 = some ab) (h3 : 0 ≤ x3.toInt ∧ x3.toInt < 64) (H : ∀ (v : Int32) (S : ZS), v.toInt = x3.toInt + 1 → BX S x0 tb ab m sd rt ps kw kb → SB S0 S tb → NBf m sd rt ps kw kb (x3.toInt * 64 + 64) → self53 x0 v S = some o → G o) (H4 : ∀ S : ZS, BX S x0 tb ab m sd rt ps kw kb → SB S0 S tb → ANY m sd rt ps kw kb → G (43, S)) : ∀ (n : Nat) (x4 : Int32) (S : ZS), (0 ≤ x4.toInt ∧ x4.toInt ≤ 64) → BX S x0 tb ab m sd rt ps kw kb → SB S0 S tb → NBf m sd rt ps kw kb (x3.toInt * 64 + x4.toInt) → f_X7_checkSign_62 self53 n x0 x3 x4 S = some o → G o := by
  intro n
  induction n with
  | zero => intro x4 S _ _ _ _ hf; cases hf
  | succ n ih =>
    intro x4 S h4 hB hs hN hf
    have hf : f_X7_checkSign_62s self53 (f_X7_checkSign_62 self53 n) x0 x3 x4 S = some o := hf
    have hp : zP S 1 x0 = some ab := by rw [hs.2.1]; exact ha
    have nx : ∀ Sq, BX Sq x0 tb ab m sd rt ps kw kb → SB S0 Sq tb → ¬ LG m sd rt ps kw kb x3.toInt x4.toInt → x4.toInt < 64 → f_X7_checkSign_103 self53 (f_X7_checkSign_62 self53 n) x0 x3 x4 Sq = some o → G o := by
      intro Sq hB2 hs2 hn hlt hf
      unfold f_X7_checkSign_103 at hf
      obtain ⟨v1, e_v1, hf⟩ := m_bndE hf
      have t_v1 : v1.toInt = x4.toInt + 1 := ti_add e_v1 rfl (show (1 : Int32).toInt = 1 from rfl) (by omega) (by omega)
      refine ih v1 Sq (by omega) hB2 hs2 ?_ hf
      have e : x3.toInt * 64 + v1.toInt = x3.toInt * 64 + x4.toInt + 1 := by omega
      rw [e]
      exact nb_s hN hn h3 ⟨h4.1, hlt⟩
    unfold f_X7_checkSign_62s at hf
    rcases m_ifE hf with ⟨c1, hf⟩ | ⟨c1, hf⟩
    · skip
      replace c1 := ti_leP (a := (64 : Int32)) (b := x4) c1 (show (64 : Int32).toInt = 64 from rfl) rfl
      obtain ⟨v1, e_v1, hf⟩ := m_bndE hf
      have t_v1 : v1.toInt = x3.toInt + 1 := ti_add e_v1 rfl (show (1 : Int32).toInt = 1 from rfl) (by omega) (by omega)
      have e : x4.toInt = 64 := by omega
      rw [e] at hN
      exact H v1 S (by omega) hB hs hN hf
    · skip
      replace c1 := ti_leN (a := (64 : Int32)) (b := x4) c1 (show (64 : Int32).toInt = 64 from rfl) rfl
      obtain ⟨-, hf⟩ := m_chkE hf
      replace hf := m_calY hf hp
      obtain ⟨-, hf⟩ := m_chkE hf
      obtain ⟨r3, h_r3, hf⟩ := m_calR hf (fun _ h => ro_X0_reaches h)
      dsimp only at hf
      obtain ⟨-, b3, q3⟩ := bx_reach hB hM hr (by omega) (by omega) h_r3
      rcases m_ifE hf with ⟨c2, hf⟩ | ⟨c2, hf⟩
      · skip
        replace c2 := ti_eqP (a := r3) (b := (0 : Int32)) c2 rfl (show (0 : Int32).toInt = 0 from rfl)
        exact nx S hB hs (fun h => by have := q3.2 h.1; omega) (by omega) hf
      · skip
        replace c2 := ti_eqN (a := r3) (b := (0 : Int32)) c2 rfl (show (0 : Int32).toInt = 0 from rfl)
        obtain ⟨-, hf⟩ := m_chkE hf
        replace hf := m_calY hf hp
        obtain ⟨v5, e_v5, hf⟩ := m_bndE hf
        have t_v5 : v5.toInt = 64 * x4.toInt := ti_mul e_v5 (show (64 : Int32).toInt = 64 from rfl) rfl (by omega) (by omega)
        obtain ⟨v6, e_v6, hf⟩ := m_bndE hf
        have t_v6 : v6.toInt = x3.toInt + v5.toInt := ti_add e_v6 rfl rfl (by omega) (by omega)
        obtain ⟨-, hf⟩ := m_chkE hf
        obtain ⟨⟨r7, S7c⟩, h_r7, hf⟩ := m_calE hf
        dsimp only at hf
        obtain ⟨B7, s7, b7, q7⟩ := bx_safe hB hM (by omega) h_r7
        rw [show v6.toInt % 64 = x3.toInt by omega, show v6.toInt / 64 % 64 = x4.toInt by omega, show v6.toInt / 4096 = 0 by omega] at q7
        rcases m_ifE hf with ⟨c3, hf⟩ | ⟨c3, hf⟩
        · skip
          replace c3 := ti_eqP (a := r7) (b := (0 : Int32)) c3 rfl (show (0 : Int32).toInt = 0 from rfl)
          exact nx S7c B7 (sb_t hs s7) (fun h => by have := q7.2 h.2; omega) (by omega) hf
        · skip
          replace c3 := ti_eqN (a := r7) (b := (0 : Int32)) c3 rfl (show (0 : Int32).toInt = 0 from rfl)
          obtain ⟨-, hf⟩ := m_chkE hf
          cases hf
          try dsimp only
          exact H4 _ B7 (sb_t hs s7) ⟨x3.toInt, x4.toInt, h3.1, h3.2, h4.1, by omega, q3.1 (by omega), q7.1 (by omega)⟩
theorem cs_53 (hM : MBd m) (hr : 0 ≤ rt ∧ rt ≤ 15) (ha : zP S0 1 x0 = some ab) : ∀ (n : Nat) (x3 : Int32) (S : ZS), (0 ≤ x3.toInt ∧ x3.toInt ≤ 64) → BX S x0 tb ab m sd rt ps kw kb → SB S0 S tb → NBf m sd rt ps kw kb (x3.toInt * 64) → f_X7_checkSign_53 n x0 x3 S = some o → BX o.2 x0 tb ab m sd rt ps kw kb ∧ SB S0 o.2 tb ∧ ((ANY m sd rt ps kw kb ∧ o.1.toInt = 43) ∨ (¬ ANY m sd rt ps kw kb ∧ o.1.toInt = 35)) := by
  intro n
  induction n with
  | zero => intro x3 S _ _ _ _ hf; cases hf
  | succ n ih =>
    intro x3 S h3 hB hs hN hf
    have hf : f_X7_checkSign_53s (f_X7_checkSign_53 n) x0 x3 S = some o := hf
    have z : (0 : Int32).toInt = 0 := rfl
    unfold f_X7_checkSign_53s at hf
    rcases m_ifE hf with ⟨c1, hf⟩ | ⟨c1, hf⟩
    · skip
      replace c1 := ti_leP (a := (64 : Int32)) (b := x3) c1 (show (64 : Int32).toInt = 64 from rfl) rfl
      obtain ⟨-, hf⟩ := m_chkE hf
      cases hf
      try dsimp only
      exact ⟨hB, hs, Or.inr ⟨nb_any hN (by omega), rfl⟩⟩
    · skip
      replace c1 := ti_leN (a := (64 : Int32)) (b := x3) c1 (show (64 : Int32).toInt = 64 from rfl) rfl
      exact cs_62 (G := fun o => BX o.2 x0 tb ab m sd rt ps kw kb ∧ SB S0 o.2 tb ∧ ((ANY m sd rt ps kw kb ∧ o.1.toInt = 43) ∨ (¬ ANY m sd rt ps kw kb ∧ o.1.toInt = 35))) hM hr ha (by omega) (fun v S ev hB hs hN hf => ih v S (by omega) hB hs (by rw [show v.toInt * 64 = x3.toInt * 64 + 64 by omega]; exact hN) hf) (fun S hB hs hA => ⟨hB, hs, Or.inl ⟨hA, rfl⟩⟩) mFuel 0 S (by omega) hB hs (by rw [show x3.toInt * 64 + (0 : Int32).toInt = x3.toInt * 64 by omega]; exact hN) hf
/-- two boards may have changed -/
def SBt (S S' : ZS) (b c : Nat) : Prop := EqT S S' ∧ zP S' = zP S ∧ (∀ j a, a ≠ b → a ≠ c → zI S' j a = zI S j a) ∧ (∀ a, a ≠ b + 1 → a ≠ c + 1 → zA S' a = zA S a) ∧ zc S' = zc S
theorem sbt_l {S S' : ZS} {b c : Nat} (h : SB S S' b) : SBt S S' b c := ⟨h.1, h.2.1, fun j a h1 _ => h.2.2.1 j a h1, fun a h1 _ => h.2.2.2.1 a h1, h.2.2.2.2⟩
theorem sbt_r {S S' : ZS} {b c : Nat} (h : SB S S' c) : SBt S S' b c := ⟨h.1, h.2.1, fun j a _ h1 => h.2.2.1 j a h1, fun a _ h1 => h.2.2.2.1 a h1, h.2.2.2.2⟩
theorem sbt_t {S S1 S2 : ZS} {b c : Nat} (h : SBt S S1 b c) (h2 : SBt S1 S2 b c) : SBt S S2 b c := ⟨eqt_t h.1 h2.1, h2.2.1.trans h.2.1, fun j a ha hb => (h2.2.2.1 j a ha hb).trans (h.2.2.1 j a ha hb), fun a ha hb => (h2.2.2.2.1 a ha hb).trans (h.2.2.2.1 a ha hb), h2.2.2.2.2.trans h.2.2.2.2⟩
theorem sbt_0 {S : ZS} {b c : Nat} : SBt S S b c := sbt_l sb_0
theorem mB_ot {S S' : ZS} {b c d : Nat} (h : SBt S S' c d) (hp : zP S 0 b = some (b + 1)) (h1 : b ≠ c) (h2 : b ≠ d) : mCb S' b = mCb S b := mB_e (congrFun (congrFun h.2.1 0) b) (fun e he => by
  rw [hp] at he
  cases he
  exact h.2.2.2.1 _ (by omega) (by omega))
/-- a board, with the rules' two boards -/
def CXr (S : ZS) (x0 tb ab bb : Nat) (m : Int → Int) (sd rt ps kw kb : Int) : Prop := BX S x0 tb bb m sd rt ps kw kb ∧ (zP S 1 x0 = some ab ∧ zK S ab = 0 ∧ zP S 0 ab = some (ab + 1)) ∧ (ab ≠ bb ∧ ab ≠ tb) ∧ (zI S 6 bb).toInt ≤ 99999
theorem cx_sb {S S' : ZS} {bb : Nat} (h : CXr S x0 tb ab bb m sd rt ps kw kb) (hT : ZT S') (hs : SBt S S' tb ab) : CXr S' x0 tb ab bb m sd rt ps kw kb := by
  obtain ⟨⟨-, ⟨a1, a2⟩, ⟨b1, b2⟩, ⟨c1, c2⟩, d, e, f, g1, g2, g3, g4, g5⟩, ⟨h1, h2, h3⟩, ⟨n1, n2⟩, l⟩ := h
  have K : zK S' = zK S := hs.1.2.2.1
  have Q : zP S' = zP S := hs.2.1
  have i : ∀ j, zI S' j bb = zI S j bb := fun j => hs.2.2.1 j bb d (fun e => n1 e.symm)
  refine ⟨⟨hT, ⟨by rw [K]; exact a1, by rw [Q]; exact a2⟩, ⟨by rw [K]; exact b1, by rw [Q]; exact b2⟩, ⟨by rw [K]; exact c1, by rw [Q]; exact c2⟩, d, ?_, (mB_ot hs c2 d (fun e => n1 e.symm)).trans f, by rw [i]; exact g1, by rw [i]; exact g2, by rw [i]; exact g3, by rw [i]; exact g4, by rw [i]; exact g5⟩, ⟨by rw [Q]; exact h1, by rw [K]; exact h2, by rw [Q]; exact h3⟩, ⟨n1, n2⟩, by rw [i]; exact l⟩
  unfold BN
  rw [i, i]
  exact e
theorem i32_of {x : Int32} {n : Int} (h : x.toInt = n) : x = Int32.ofInt n := by
  rw [← h, Int32.ofInt_toInt]
/-- a board on which a move is played holds the position behind it -/
theorem p_aft {S S' : ZS} {b : Nat} {x y : Int32} (hT : ZT S) (kb' : zK S b = 0) (hp : zP S 0 b = some (b + 1)) (hn : BN S b) (hl : (zI S 6 b).toInt ≤ 99999) (hm : mCb S b = m) (hM : MBd m) (h3 : (zI S 3 b).toInt = sd) (h4 : (zI S 4 b).toInt = rt) (h5 : (zI S 5 b).toInt = ps) (h1 : (zI S 1 b).toInt = kw) (h2 : (zI S 2 b).toInt = kb) (hx : 0 ≤ x.toInt ∧ x.toInt ≤ 24575) (hf : f_X0_play b x S = some (y, S')) : ZT S' ∧ SB S S' b ∧ BN S' b ∧ mCb S' b = afM m sd ps x.toInt ∧ (zI S' 3 b).toInt = 1 - sd ∧ (zI S' 4 b).toInt = afR rt x.toInt ∧ (zI S' 5 b).toInt = afP m sd ps x.toInt ∧ (zI S' 1 b).toInt = afK m sd ps x.toInt 0 kw ∧ (zI S' 2 b).toInt = afK m sd ps x.toInt 1 kb ∧ (zI S' 6 b).toInt = (zI S 6 b).toInt + sd := by
  have T4 : ZT S' := (ok_of (t_f_X0_play (SZ := S) hT (a7_0 S) kb') hf).1
  obtain ⟨tq, htq, b4, m4, w4, v4, r4, p4, n4, s4⟩ := p_play hT kb' hp hn (by rw [hm]; exact hM) hx hf
  obtain ⟨⟨n1, n2⟩, n3, n5⟩ := hn
  rw [hm, h3, h5] at m4 w4 v4 p4
  rw [h3] at n4 s4
  refine ⟨T4, b4, ⟨⟨by omega, by omega⟩, by omega, by omega⟩, m4, s4, ?_, ?_, ?_, ?_, n4⟩
  · rw [r4, i32_of h4]
    rfl
  · rw [p4]
    rfl
  · rw [w4]
    unfold kq afK kgB
    by_cases c : pv (m2B m ps (x.toInt % 64) (x.toInt / 64 % 64)) sd (x.toInt % 64) (x.toInt / 4096) = 6
    · rw [if_pos c, if_pos (by omega), htq]
    · rw [if_neg c, if_neg (by omega), h1]
  · rw [v4]
    unfold kq afK kgB
    by_cases c : pv (m2B m ps (x.toInt % 64) (x.toInt / 64 % 64)) sd (x.toInt % 64) (x.toInt / 4096) = 14
    · rw [if_pos c, if_pos (by omega), htq]
    · rw [if_neg c, if_neg (by omega), h2]
theorem p_checkSign {S : ZS} {bb : Nat} {x : Int32} (hC : CXr S x0 tb ab bb m sd rt ps kw kb) (hM : MBd m) (hx : 0 ≤ x.toInt ∧ x.toInt ≤ 24575) (hs : sd = 0 ∨ sd = 1) (hr : 0 ≤ afR rt x.toInt ∧ afR rt x.toInt ≤ 15) (hM2 : MBd (afM m sd ps x.toInt)) (hf : f_X7_checkSign x0 bb x S = some o) : CXr o.2 x0 tb ab bb m sd rt ps kw kb ∧ SBt S o.2 tb ab ∧ csP (afM m sd ps x.toInt) (1 - sd) (afR rt x.toInt) (afP m sd ps x.toInt) (afK m sd ps x.toInt 0 kw) (afK m sd ps x.toInt 1 kb) o.1.toInt := by
  have hf : f_X7_checkSign_0 x0 bb x S = some o := hf
  obtain ⟨⟨hT, ⟨a1, a2⟩, ⟨b1, b2⟩, ⟨c1, c2⟩, d, e, f, g1, g2, g3, g4, g5⟩, ⟨q1, q2, q3⟩, ⟨u1, u2⟩, l⟩ := id hC
  have z0 : (0 : Int32).toInt = 0 := rfl
  unfold f_X7_checkSign_0 at hf
  obtain ⟨-, hf⟩ := m_chkE hf
  replace hf := m_calY hf q1
  obtain ⟨-, hf⟩ := m_chkE hf
  obtain ⟨⟨r2, S2c⟩, h_r2, hf⟩ := m_calE hf
  dsimp only at hf
  have T2 : ZT S2c := (ok_of (t_f_X0_copyFrom (SZ := S) hT (a7_0 S) q2 c1) h_r2).1
  obtain ⟨s2, m2, i2⟩ := p_copy q3 c2 h_r2
  have P2 : zP S2c 1 x0 = some ab := by rw [s2.2.1]; exact q1
  have K2 : zK S2c = zK S := s2.1.2.2.1
  obtain ⟨-, hf⟩ := m_chkE hf
  replace hf := m_calY hf P2
  obtain ⟨-, hf⟩ := m_chkE hf
  obtain ⟨⟨r4, S4c⟩, h_r4, hf⟩ := m_calE hf
  dsimp only at hf
  have i6 := i2 6 (by decide) (by decide)
  have i3 := i2 3 (by decide) (by decide)
  obtain ⟨T4, s4, N4, m4, w3, w4, w5, w1, w2, -⟩ := p_aft (m := m) (sd := sd) (rt := rt) (ps := ps) (kw := kw) (kb := kb) T2 (by rw [K2]; exact q2) (by rw [s2.2.1]; exact q3) (by unfold BN; rw [i6, i3]; exact e) (by rw [i6]; exact l) (m2.trans f) hM (by rw [i3]; exact g1) (by rw [i2 4 (by decide) (by decide)]; exact g2) (by rw [i2 5 (by decide) (by decide)]; exact g3) (by rw [i2 1 (by decide) (by decide)]; exact g4) (by rw [i2 2 (by decide) (by decide)]; exact g5) hx h_r4
  have s24 : SB S S4c ab := sb_t s2 s4
  have P4 : zP S4c 1 x0 = some ab := by rw [s24.2.1]; exact q1
  have K4 : zK S4c = zK S := s24.1.2.2.1
  have ka4 : zK S4c ab = 0 := by rw [K4]; exact q2
  have B4 : BX S4c x0 tb ab (afM m sd ps x.toInt) (1 - sd) (afR rt x.toInt) (afP m sd ps x.toInt) (afK m sd ps x.toInt 0 kw) (afK m sd ps x.toInt 1 kb) := ⟨T4, ⟨by rw [K4]; exact a1, by rw [s24.2.1]; exact a2⟩, ⟨by rw [K4]; exact b1, by rw [s24.2.1]; exact b2⟩, ⟨ka4, by rw [s24.2.1]; exact q3⟩, u2, N4, m4, w3, w4, w5, w1, w2⟩
  obtain ⟨-, hf⟩ := m_chkE hf
  replace hf := m_calY hf P4
  obtain ⟨-, hf⟩ := m_chkE hf
  replace hf := m_calY hf P4
  obtain ⟨-, hf⟩ := m_chkE hf
  replace hf := m_calY hf P4
  obtain ⟨-, hf⟩ := m_chkE hf
  obtain ⟨-, hf⟩ := m_chkE hf
  obtain ⟨r8, h_r8, hf⟩ := m_calR hf (fun _ h => ro_X0_kingOf h)
  dsimp only at hf
  obtain ⟨-, b8, q8⟩ := ok_of (x_f_X0_kingOf (x1 := zI S4c 3 ab) T4 ka4) h_r8
  dsimp only at b8 q8
  rw [w3, w1, w2] at q8
  obtain ⟨-, hf⟩ := m_chkE hf
  replace hf := m_calY hf P4
  obtain ⟨-, hf⟩ := m_chkE hf
  obtain ⟨v10, e_v10, hf⟩ := m_bndE hf
  have t_v10 : v10.toInt = 1 - (zI S4c 3 ab).toInt := ti_sub e_v10 (show (1 : Int32).toInt = 1 from rfl) rfl (by omega) (by omega)
  obtain ⟨-, hf⟩ := m_chkE hf
  obtain ⟨r11, h_r11, hf⟩ := m_calR hf (fun _ h => ro_X0_attacked h)
  dsimp only at hf
  obtain ⟨-, b11, q11⟩ := ok_of (y_f_X0_attacked T4 ka4 b8 (by omega) (by rw [m4]; exact hM2)) h_r11
  dsimp only at b11 q11
  rw [m4, t_v10, w3, q8] at q11
  rcases m_ifE hf with ⟨c1, hf⟩ | ⟨c1, hf⟩
  · skip
    replace c1 := ti_eqP (a := r11) (b := (0 : Int32)) c1 rfl (show (0 : Int32).toInt = 0 from rfl)
    obtain ⟨-, hf⟩ := m_chkE hf
    cases hf
    try dsimp only
    refine ⟨cx_sb hC T4 (sbt_r s24), sbt_r s24, Or.inl ⟨fun g => ?_, rfl⟩⟩
    have := q11.2 g
    omega
  · skip
    replace c1 := ti_eqN (a := r11) (b := (0 : Int32)) c1 rfl (show (0 : Int32).toInt = 0 from rfl)
    obtain ⟨B5, s5, r5⟩ := cs_53 hM2 hr P4 mFuel 0 S4c (by decide) B4 sb_0 (by rw [show (0 : Int32).toInt * 64 = 0 from rfl]; exact nb_0) hf
    have s9 : SBt S o.2 tb ab := sbt_t (sbt_r s24) (sbt_l s5)
    have at1 := q11.1 (by omega)
    refine ⟨cx_sb hC B5.1 s9, s9, ?_⟩
    rcases r5 with ⟨h1, h2⟩ | ⟨h1, h2⟩
    · exact Or.inr (Or.inl ⟨at1, h1, h2⟩)
    · exact Or.inr (Or.inr ⟨at1, h1, h2⟩)
end CLS
/-- the reference's men for a moment, when a move is tried -/
theorem on_137 {x2 x3 x4 x5 x6 x7 x8 t0 : Int32} {I : Nat → Int32} {A : Nat → Nat → Int32} {o : Int32 × MS} (h2 : 0 ≤ x2.toInt ∧ x2.toInt < 64) (h3 : 0 ≤ x3.toInt ∧ x3.toInt < 64) (h6 : 0 ≤ x6.toInt ∧ x6.toInt < 64) (hf : f_isSafeOnce_137 x2 x3 x4 x5 x6 x7 x8 t0 I A = some o) : o.1 = t0 ∧ o.2.1 = I ∧ (∀ j, j ≠ 24 → o.2.2 j = A j) ∧ (x7.toInt = 0 → mR o.2.2 = up (up (mR A) x2.toInt x4.toInt) x3.toInt x5.toInt) ∧ (x7.toInt ≠ 0 → mR o.2.2 = up (up (up (mR A) x2.toInt x4.toInt) x3.toInt x5.toInt) x6.toInt x8.toInt) := by
  unfold f_isSafeOnce_137 at hf
  obtain ⟨-, hf⟩ := m_chkE hf
  obtain ⟨A1, e_A1, hf⟩ := m_bndE hf
  have y1 := mR_up e_A1 h2.1 h2.2
  have f1 : ∀ j, j ≠ 24 → A1 j = A j := fun j hj => by rw [e_A1]; exact va_up_ne _ _ hj
  obtain ⟨-, hf⟩ := m_chkE hf
  obtain ⟨A2, e_A2, hf⟩ := m_bndE hf
  have y2 := mR_up e_A2 h3.1 h3.2
  have f2 : ∀ j, j ≠ 24 → A2 j = A j := fun j hj => by rw [e_A2]; exact (va_up_ne _ _ hj).trans (f1 j hj)
  rcases m_ifE hf with ⟨c1, hf⟩ | ⟨c1, hf⟩
  · skip
    replace c1 := ti_eqP (a := x7) (b := (0 : Int32)) c1 rfl (show (0 : Int32).toInt = 0 from rfl)
    unfold f_isSafeOnce_169 at hf
    obtain ⟨-, hf⟩ := m_chkE hf
    cases hf
    try dsimp only
    exact ⟨rfl, rfl, f2, fun _ => by show mR A2 = _; rw [y2, y1], fun h => absurd c1 h⟩
  · skip
    replace c1 := ti_eqN (a := x7) (b := (0 : Int32)) c1 rfl (show (0 : Int32).toInt = 0 from rfl)
    obtain ⟨-, hf⟩ := m_chkE hf
    obtain ⟨A3, e_A3, hf⟩ := m_bndE hf
    have y3 := mR_up e_A3 h6.1 h6.2
    have f3 : ∀ j, j ≠ 24 → A3 j = A j := fun j hj => by rw [e_A3]; exact (va_up_ne _ _ hj).trans (f2 j hj)
    unfold f_isSafeOnce_169 at hf
    obtain ⟨-, hf⟩ := m_chkE hf
    cases hf
    try dsimp only
    exact ⟨rfl, rfl, f3, fun h => absurd h c1, fun _ => by show mR A3 = _; rw [y3, y2, y1]⟩
/-- the men for a moment are those behind the move -/
theorem on_men {a t : Int} (ha : 0 ≤ a ∧ a < 64) (ht : 0 ≤ t ∧ t < 64) (hP : POS m sd rt ps kw kb) (hg : goR m sd rt ps a t) (hc : attd m (if sd = 0 then kw else kb) (1 - sd)) : ((m a % 8 = 1 ∧ m t = 0 ∧ a % 8 ≠ t % 8) → (a / 8 * 8 + t % 8 ≠ a ∧ a / 8 * 8 + t % 8 ≠ t) ∧ mkR m sd a t 0 = up (up (up m a 0) t (m a)) (a / 8 * 8 + t % 8) 0) ∧ (¬ (m a % 8 = 1 ∧ m t = 0 ∧ a % 8 ≠ t % 8) → mkR m sd a t 0 = up (up m a 0) t (m a)) := by
  have hs := hP.1
  have nk : ¬ (m a % 8 = 6 ∧ a % 8 = 4 ∧ (t % 8 = 6 ∨ t % 8 = 2)) := by
    rintro ⟨g1, g2, g3⟩
    obtain ⟨⟨n0, n1⟩, -, h3⟩ := hg
    rcases h3 with h3 | ⟨-, h3⟩
    · omega
    · rcases h3 with h3 | ⟨-, h3⟩
      · rcases h3 with ⟨k, -⟩ | ⟨k, -⟩ | ⟨-, g⟩ | ⟨g, -⟩
        · omega
        · omega
        · unfold kin at g
          omega
        · unfold lin at g
          omega
      · obtain ⟨-, h4, -⟩ := h3
        apply h4
        have hMa := hP.2.1 a
        have ea : a = (if sd = 0 then kw else kb) := by
          rcases hs with e | e
          · subst e
            rw [if_pos rfl]
            exact ku_1 hP.2.2.1 ha (by omega)
          · subst e
            rw [if_neg (by decide)]
            exact ku_1 hP.2.2.2.1 ha (by omega)
        rw [ea]
        exact hc
  have e3 : ∀ f : Int → Int, k3 f sd 0 (m a) a t = up (up f a 0) t (m a) := fun f => by
    unfold k3
    rw [if_neg (by decide)]
  constructor
  · rintro ⟨g1, g2, g3⟩
    have hw : pwn m sd ps a t := hg.2.2.elim (fun z => z.2) (fun z => absurd g1 z.1)
    have hb : t / 8 ≠ a / 8 := by
      rcases pwn_3 hw with w | w | w
      · rcases hs with e | e <;> subst e <;> omega
      · rcases hs with e | e <;> subst e <;> omega
      · rcases hs with e | e <;> subst e <;> omega
    refine ⟨⟨by omega, by omega⟩, ?_⟩
    unfold mkR
    rw [k2_n nk, e3, k1_y ⟨by unfold pwb; rw [if_pos g1], g2, g3⟩]
    rw [up_c (a := a / 8 * 8 + t % 8) (b := a) (by omega), up_c (a := a / 8 * 8 + t % 8) (b := t) (by omega)]
  · intro h
    unfold mkR
    rw [k2_n nk, e3, k1_n (fun g => h ⟨by
      have := g.1
      unfold pwb at this
      by_cases e : m a % 8 = 1
      · exact e
      · rw [if_neg e] at this; omega, g.2⟩)]
/-- what the reference looks at: its men, side, rights, passed square -/
def RJ (m : Int → Int) (sd rt ps : Int) (I : Nat → Int32) (A : Nat → Nat → Int32) : Prop := TJ I ∧ TK A ∧ mR A = m ∧ (I 25).toInt = sd ∧ (I 26).toInt = rt ∧ (I 27).toInt = ps
theorem tk_24 {A A1 : Nat → Nat → Int32} (h : TK A) (hA : TK A1) (hj : ∀ j, j ≠ 24 → A1 j = A j) : TK A1 := hA
theorem on_121 {x2 x3 x4 x5 x6 x7 x8 : Int32} {I : Nat → Int32} {A : Nat → Nat → Int32} {o : Int32 × MS} {B : Int → Int} {k : Int} (hI : TJ I) (hA : TK A) (hB : mR A = B) (hs : (I 25).toInt = sd) (hs2 : sd = 0 ∨ sd = 1) (hk : KU B sd k) (hM : MBd B) (hf : f_isSafeOnce_121 x2 x3 x4 x5 x6 x7 x8 I A = some o) : ∃ y : Int32, (y.toInt = 0 ∨ y.toInt = 1) ∧ (y.toInt = 1 ↔ ¬ attd B k (1 - sd)) ∧ f_isSafeOnce_137 x2 x3 x4 x5 x6 x7 x8 y I A = some o := by
  have z0 : (0 : Int32).toInt = 0 := rfl
  unfold f_isSafeOnce_121 at hf
  obtain ⟨r1, h_r1, hf⟩ := m_clR hf (fun _ h => rro_isInCheck h)
  obtain ⟨-, b1, q1⟩ := ok_of (x_isInCheck (k := k) (x1 := I 25) hI hA (by omega) (by rw [hB, hs]; exact hk) (by rw [hB]; exact hM)) h_r1
  dsimp only at b1 q1
  rw [hB, hs] at q1
  rcases m_ifE hf with ⟨c1, hf⟩ | ⟨c1, hf⟩
  · skip
    replace c1 := ti_eqP (a := r1) (b := (0 : Int32)) c1 rfl (show (0 : Int32).toInt = 0 from rfl)
    exact ⟨1, Or.inr rfl, ⟨fun _ g => by have := q1.2 g; omega, fun _ => rfl⟩, hf⟩
  · skip
    replace c1 := ti_eqN (a := r1) (b := (0 : Int32)) c1 rfl (show (0 : Int32).toInt = 0 from rfl)
    exact ⟨0, Or.inl rfl, ⟨fun h => absurd h (by decide), fun g => absurd (q1.1 (by omega)) g⟩, hf⟩
theorem p_once {x1 : Int32} {I : Nat → Int32} {A : Nat → Nat → Int32} {o : Int32 × MS} {a t : Int} (hJ : RJ m sd rt ps I A) (hP : POS m sd rt ps kw kb) (ha : 0 ≤ a ∧ a < 64) (ht : 0 ≤ t ∧ t < 64) (hg : goR m sd rt ps a t) (hc : attd m (if sd = 0 then kw else kb) (1 - sd)) (hx : x1.toInt = a + 64 * t) (hf : f_isSafeOnce x1 I A = some o) : RJ m sd rt ps o.2.1 o.2.2 ∧ o.2.1 = I ∧ (∀ j, j ≠ 24 → o.2.2 j = A j) ∧ (o.1.toInt = 0 ∨ o.1.toInt = 1) ∧ (o.1.toInt = 1 ↔ safC m sd ps (if sd = 0 then kw else kb) a t 0) := by
  obtain ⟨hI, hA, hm, i25, i26, i27⟩ := id hJ
  have hs := hP.1
  have hM := hP.2.1
  have T9 : TK o.2.2 := (ok_of (t_isSafeOnce hI hA (by omega)) hf).2.1
  have hr := ((go_rch hs).1 hg).1
  have hL := leg_eq (p := 0) hP ha ht (by decide)
  have hmk := mk_pl (p := 0) hs ha ht (by decide) hP.2.2.2.2.1 hr
  have kg : KU (mkR m sd a t 0) sd (kgB m sd ps a t 0 sd (if sd = 0 then kw else kb)) := by
    rw [hmk]
    exact ku_p0 hP ha ht hr rfl
  have hM0 : MBd (mkR m sd a t 0) := by
    rw [hmk]
    exact mbd_pl hM hs (by decide)
  obtain ⟨oy, on⟩ := on_men ha ht hP hg hc
  have hat : a ≠ t := fun e => by rw [e] at hr; exact hr.2.1 hr.1
  have fin : ∀ {v1 v3 v4 v5 v9 t0 : Int32} , v1.toInt = a → v3.toInt = t → v4.toInt = m a → v5.toInt = m t → v9.toInt = a / 8 * 8 + t % 8 → (t0.toInt = 0 ∨ t0.toInt = 1) → (t0.toInt = 1 ↔ (m a % 8 = 1 ∧ m t = 0 ∧ a % 8 ≠ t % 8)) → f_isSafeOnce_73 v1 v3 v4 v5 v9 t0 I A = some o → RJ m sd rt ps o.2.1 o.2.2 ∧ o.2.1 = I ∧ (∀ j, j ≠ 24 → o.2.2 j = A j) ∧ (o.1.toInt = 0 ∨ o.1.toInt = 1) ∧ (o.1.toInt = 1 ↔ safC m sd ps (if sd = 0 then kw else kb) a t 0) := by
    intro v1 v3 v4 v5 v9 t0 w1 w3 w4 w5 w9 b0 q0 hf
    have z0 : (0 : Int32).toInt = 0 := rfl
    -- the end: men as they were
    have last : ∀ (A2 : Nat → Nat → Int32) (x8 : Int32), (∀ j, j ≠ 24 → A2 j = A j) → TK A2 → mR A2 = mkR m sd a t 0 → (t0.toInt = 1 → x8.toInt = m (a / 8 * 8 + t % 8)) → f_isSafeOnce_121 v1 v3 v4 v5 v9 t0 x8 I A2 = some o → RJ m sd rt ps o.2.1 o.2.2 ∧ o.2.1 = I ∧ (∀ j, j ≠ 24 → o.2.2 j = A j) ∧ (o.1.toInt = 0 ∨ o.1.toInt = 1) ∧ (o.1.toInt = 1 ↔ safC m sd ps (if sd = 0 then kw else kb) a t 0) := by
      intro A2 x8 f2 k2 m2 h8 hf
      obtain ⟨y, y1, y2, hf⟩ := on_121 hI k2 m2 i25 hs kg hM0 hf
      obtain ⟨r1, r2, r3, r4, r5⟩ := on_137 (by omega) (by omega) (by omega) hf
      have back : mR o.2.2 = m := by
        by_cases c : t0.toInt = 0
        · rw [r4 c, m2, on (fun g => by have := q0.2 g; omega), w1, w3, w4, w5]
          funext s
          by_cases e1 : s = t
          · rw [e1, up_s]
          · rw [up_n e1]
            by_cases e2 : s = a
            · rw [e2, up_s]
            · rw [up_n e2, up_n e1, up_n e2]
        · have c1 : t0.toInt = 1 := by omega
          obtain ⟨⟨n1, n2⟩, hb⟩ := oy (q0.1 c1)
          rw [r5 c, m2, hb, w1, w3, w4, w5, w9, h8 c1]
          funext s
          by_cases e3 : s = a / 8 * 8 + t % 8
          · rw [e3, up_s]
          · rw [up_n e3]
            by_cases e1 : s = t
            · rw [e1, up_s]
            · rw [up_n e1]
              by_cases e2 : s = a
              · rw [e2, up_s]
              · rw [up_n e2, up_n e3, up_n e1, up_n e2]
      refine ⟨⟨by rw [r2]; exact hI, T9, back, by rw [r2]; exact i25, by rw [r2]; exact i26, by rw [r2]; exact i27⟩, r2, fun j hj => (r3 j hj).trans (f2 j hj), by rw [r1]; exact y1, ?_⟩
      rw [r1, y2]
      exact ⟨fun g => (hL.1 ⟨hg, g⟩).2, fun g => (hL.2 ⟨hr, g⟩).2⟩
    have mid : ∀ x8 : Int32, (t0.toInt = 1 → x8.toInt = m (a / 8 * 8 + t % 8)) → f_isSafeOnce_91 v1 v3 v4 v5 v9 t0 x8 I A = some o → RJ m sd rt ps o.2.1 o.2.2 ∧ o.2.1 = I ∧ (∀ j, j ≠ 24 → o.2.2 j = A j) ∧ (o.1.toInt = 0 ∨ o.1.toInt = 1) ∧ (o.1.toInt = 1 ↔ safC m sd ps (if sd = 0 then kw else kb) a t 0) := by
      intro x8 h8 hf
      unfold f_isSafeOnce_91 at hf
      obtain ⟨-, hf⟩ := m_chkE hf
      obtain ⟨A1, e_A1, hf⟩ := m_bndE hf
      have y1 := mR_up e_A1 (by omega) (by omega)
      have f1 : ∀ j, j ≠ 24 → A1 j = A j := fun j hj => by rw [e_A1]; exact va_up_ne _ _ hj
      have k1 : TK A1 := by
        rw [e_A1]
        exact tk_w hA (j := 24) rfl
      obtain ⟨-, hf⟩ := m_chkE hf
      obtain ⟨A2, e_A2, hf⟩ := m_bndE hf
      have y2 := mR_up e_A2 (by omega) (by omega)
      have f2 : ∀ j, j ≠ 24 → A2 j = A j := fun j hj => by rw [e_A2]; exact (va_up_ne _ _ hj).trans (f1 j hj)
      have k2 : TK A2 := by
        rw [e_A2]
        exact tk_w k1 (j := 24) rfl
      have m2 : mR A2 = up (up m a 0) t (m a) := by rw [y2, y1, hm, w1, w3, w4]; rfl
      rcases m_ifE hf with ⟨c1, hf⟩ | ⟨c1, hf⟩
      · skip
        replace c1 := ti_eqP (a := t0) (b := (0 : Int32)) c1 rfl (show (0 : Int32).toInt = 0 from rfl)
        exact last A2 x8 f2 k2 (by rw [m2, on (fun g => by have := q0.2 g; omega)]) h8 hf
      · skip
        replace c1 := ti_eqN (a := t0) (b := (0 : Int32)) c1 rfl (show (0 : Int32).toInt = 0 from rfl)
        obtain ⟨-, hf⟩ := m_chkE hf
        obtain ⟨A3, e_A3, hf⟩ := m_bndE hf
        have y3 := mR_up e_A3 (by omega) (by omega)
        have f3 : ∀ j, j ≠ 24 → A3 j = A j := fun j hj => by rw [e_A3]; exact (va_up_ne _ _ hj).trans (f2 j hj)
        have k3 : TK A3 := by
          rw [e_A3]
          exact tk_w k2 (j := 24) rfl
        exact last A3 x8 f3 k3 (by rw [y3, m2, w9, (oy (q0.1 (by omega))).2]; rfl) h8 hf
    unfold f_isSafeOnce_73 at hf
    rcases m_ifE hf with ⟨c1, hf⟩ | ⟨c1, hf⟩
    · skip
      replace c1 := ti_eqP (a := t0) (b := (0 : Int32)) c1 rfl (show (0 : Int32).toInt = 0 from rfl)
      exact mid _ (fun h => by omega) hf
    · skip
      replace c1 := ti_eqN (a := t0) (b := (0 : Int32)) c1 rfl (show (0 : Int32).toInt = 0 from rfl)
      obtain ⟨-, hf⟩ := m_chkE hf
      obtain ⟨v901, e_v901, hf⟩ := m_bndE hf
      exact mid _ (fun _ => by rw [mR_at e_v901 (by omega) (by omega), hm, w9]) hf
  have hf : f_isSafeOnce_0 x1 I A = some o := hf
  have z0 : (0 : Int32).toInt = 0 := rfl
  unfold f_isSafeOnce_0 at hf
  obtain ⟨v1, e_v1, hf⟩ := m_bndE hf
  have t_v1 : v1.toInt = x1.toInt % 64 := ti_rem e_v1 rfl (show (64 : Int32).toInt = 64 from rfl) (by omega) (by decide)
  obtain ⟨v2, e_v2, hf⟩ := m_bndE hf
  have t_v2 : v2.toInt = x1.toInt / 64 := ti_div e_v2 rfl (show (64 : Int32).toInt = 64 from rfl) (by omega) (by decide)
  obtain ⟨v3, e_v3, hf⟩ := m_bndE hf
  have t_v3 : v3.toInt = v2.toInt % 64 := ti_rem e_v3 rfl (show (64 : Int32).toInt = 64 from rfl) (by omega) (by decide)
  have u1 : v1.toInt = a := by omega
  have u3 : v3.toInt = t := by omega
  obtain ⟨-, hf⟩ := m_chkE hf
  obtain ⟨v4, e_v4, hf⟩ := m_bndE hf
  have w4 := mR_at e_v4 (by omega) (by omega)
  rw [hm, show v1.toInt = a by omega] at w4
  obtain ⟨-, hf⟩ := m_chkE hf
  obtain ⟨v5, e_v5, hf⟩ := m_bndE hf
  have w5 := mR_at e_v5 (by omega) (by omega)
  rw [hm, show v3.toInt = t by omega] at w5
  have wa := hM a
  obtain ⟨v6, e_v6, hf⟩ := m_bndE hf
  have t_v6 : v6.toInt = v1.toInt / 8 := ti_div e_v6 rfl (show (8 : Int32).toInt = 8 from rfl) (by omega) (by decide)
  obtain ⟨v7, e_v7, hf⟩ := m_bndE hf
  have t_v7 : v7.toInt = v6.toInt * 8 := ti_mul e_v7 rfl (show (8 : Int32).toInt = 8 from rfl) (by omega) (by omega)
  obtain ⟨v8, e_v8, hf⟩ := m_bndE hf
  have t_v8 : v8.toInt = v3.toInt % 8 := ti_rem e_v8 rfl (show (8 : Int32).toInt = 8 from rfl) (by omega) (by decide)
  obtain ⟨v9, e_v9, hf⟩ := m_bndE hf
  have t_v9 : v9.toInt = v7.toInt + v8.toInt := ti_add e_v9 rfl rfl (by omega) (by omega)
  have u9 : v9.toInt = a / 8 * 8 + t % 8 := by omega
  obtain ⟨r10, h_r10, hf⟩ := m_clR hf (fun _ h => rro_kind h)
  have p_r10 := pc_kind h_r10
  dsimp only at p_r10
  have p10 := p_r10 hI hA (by omega)
  rcases m_ifE hf with ⟨c1, hf⟩ | ⟨c1, hf⟩
  · skip
    replace c1 := ti_eqP (a := r10) (b := (1 : Int32)) c1 rfl (show (1 : Int32).toInt = 1 from rfl)
    rcases m_ifE hf with ⟨c2, hf⟩ | ⟨c2, hf⟩
    · skip
      replace c2 := ti_eqP (a := v5) (b := (0 : Int32)) c2 rfl (show (0 : Int32).toInt = 0 from rfl)
      obtain ⟨v11, e_v11, hf⟩ := m_bndE hf
      have t_v11 : v11.toInt = v1.toInt % 8 := ti_rem e_v11 rfl (show (8 : Int32).toInt = 8 from rfl) (by omega) (by decide)
      obtain ⟨v12, e_v12, hf⟩ := m_bndE hf
      have t_v12 : v12.toInt = v3.toInt % 8 := ti_rem e_v12 rfl (show (8 : Int32).toInt = 8 from rfl) (by omega) (by decide)
      rw [u1] at t_v11
      rw [u3] at t_v12
      rcases m_ifE hf with ⟨c3, hf⟩ | ⟨c3, hf⟩
      · skip
        replace c3 := ti_eqP (a := v11) (b := v12) c3 rfl rfl
        unfold f_isSafeOnce_72 at hf
        exact fin u1 u3 w4 w5 u9 (Or.inl rfl) ⟨fun h => absurd h (by decide), fun h => by clear t_v1 t_v2 t_v3 hx; omega⟩ hf
      · skip
        replace c3 := ti_eqN (a := v11) (b := v12) c3 rfl rfl
        exact fin u1 u3 w4 w5 u9 (Or.inr rfl) ⟨fun _ => ⟨by clear t_v1 t_v2 t_v3 hx; omega, by clear t_v1 t_v2 t_v3 hx; omega, by clear t_v1 t_v2 t_v3 hx; omega⟩, fun _ => rfl⟩ hf
    · skip
      replace c2 := ti_eqN (a := v5) (b := (0 : Int32)) c2 rfl (show (0 : Int32).toInt = 0 from rfl)
      unfold f_isSafeOnce_72 at hf
      exact fin u1 u3 w4 w5 u9 (Or.inl rfl) ⟨fun h => absurd h (by decide), fun h => by clear t_v1 t_v2 t_v3 hx; omega⟩ hf
  · skip
    replace c1 := ti_eqN (a := r10) (b := (1 : Int32)) c1 rfl (show (1 : Int32).toInt = 1 from rfl)
    unfold f_isSafeOnce_72 at hf
    exact fin u1 u3 w4 w5 u9 (Or.inl rfl) ⟨fun h => absurd h (by decide), fun h => by clear t_v1 t_v2 t_v3 hx; omega⟩ hf
section BHD
variable {I0 : Nat → Int32} {A0 : Nat → Nat → Int32} {o : Int32 × MS}
/-- while answers to a check are looked for -/
def BJ (m : Int → Int) (sd rt ps : Int) (I0 : Nat → Int32) (A0 : Nat → Nat → Int32) (I : Nat → Int32) (A : Nat → Nat → Int32) : Prop := RJ m sd rt ps I A ∧ I = I0 ∧ ∀ j, j ≠ 24 → A j = A0 j
theorem bh_98 {x2 : Int32} {I : Nat → Int32} {A : Nat → Nat → Int32} (hf : f_behind_98 x2 I A = some o) : o = (x2, (nB I A, va_up A 24 (A 30))) := by
  unfold f_behind_98 at hf
  obtain ⟨o1, h1, hf⟩ := m_clE hf
  have e : f_bringBack I A = some (0, (nB I A, va_up A 24 (A 30))) := rfl
  rw [e] at h1
  have e2 := Option.some.inj h1
  subst e2
  obtain ⟨-, hf⟩ := m_chkE hf
  exact (Option.some.inj hf).symm
theorem bh_27 {I : Nat → Int32} {A : Nat → Nat → Int32} {x2 x3 : Int32} : ∀ n, x2.toInt ≠ 35 → f_behind_27 n x2 x3 I A = some o → o = (x2, (nB I A, va_up A 24 (A 30))) := by
  intro n h hf
  cases n with
  | zero => cases hf
  | succ n =>
    have hf : f_behind_27s (f_behind_27 n) x2 x3 I A = some o := hf
    unfold f_behind_27s at hf
    rcases m_ifE hf with ⟨c1, hf⟩ | ⟨c1, hf⟩
    · skip
      replace c1 := ti_leP (a := (64 : Int32)) (b := x3) c1 (show (64 : Int32).toInt = 64 from rfl) rfl
      exact bh_98 hf
    · skip
      replace c1 := ti_leN (a := (64 : Int32)) (b := x3) c1 (show (64 : Int32).toInt = 64 from rfl) rfl
      rcases m_ifE hf with ⟨c2, hf⟩ | ⟨c2, hf⟩
      · skip
        replace c2 := ti_eqP (a := x2) (b := (35 : Int32)) c2 rfl (show (35 : Int32).toInt = 35 from rfl)
        omega
      · skip
        replace c2 := ti_eqN (a := x2) (b := (35 : Int32)) c2 rfl (show (35 : Int32).toInt = 35 from rfl)
        exact bh_98 hf
theorem bh_42 {G : Int32 × MS → Prop} {x3 : Int32} {self27 : Int32 → Int32 → (Nat → Int32) → (Nat → Nat → Int32) → Option (Int32 × MS)} (hP : POS m sd rt ps kw kb) (hc : attd m (if sd = 0 then kw else kb) (1 - sd)) (h3 : 0 ≤ x3.toInt ∧ x3.toInt < 64) (H : ∀ (v : Int32) (I : Nat → Int32) (A : Nat → Nat → Int32), v.toInt = x3.toInt + 1 → BJ m sd rt ps I0 A0 I A → NBf m sd rt ps kw kb (x3.toInt * 64 + 64) → self27 35 v I A = some o → G o) (H4 : ∀ (v : Int32) (I : Nat → Int32) (A : Nat → Nat → Int32), BJ m sd rt ps I0 A0 I A → ANY m sd rt ps kw kb → self27 43 v I A = some o → G o) : ∀ (n : Nat) (x2 x4 : Int32) (I : Nat → Int32) (A : Nat → Nat → Int32), (x2 = 35 ∨ (x2 = 43 ∧ ANY m sd rt ps kw kb)) → (0 ≤ x4.toInt ∧ x4.toInt ≤ 64) → BJ m sd rt ps I0 A0 I A → (x2 = 35 → NBf m sd rt ps kw kb (x3.toInt * 64 + x4.toInt)) → f_behind_42 self27 n x2 x3 x4 I A = some o → G o := by
  intro n
  induction n with
  | zero => intro x2 x4 I A _ _ _ _ hf; cases hf
  | succ n ih =>
    intro x2 x4 I A h2 h4 hB hN hf
    have hf : f_behind_42s self27 (f_behind_42 self27 n) x2 x3 x4 I A = some o := hf
    have z35 : (35 : Int32).toInt = 35 := rfl
    have z43 : (43 : Int32).toInt = 43 := rfl
    have nx : ∀ Iq Aq, BJ m sd rt ps I0 A0 Iq Aq → x2 = 35 → ¬ LG m sd rt ps kw kb x3.toInt x4.toInt → x4.toInt < 64 → f_behind_84 self27 (f_behind_42 self27 n) x2 x3 x4 Iq Aq = some o → G o := by
      intro Iq Aq hB2 e2 hn hlt hf
      unfold f_behind_84 at hf
      unfold f_behind_85 at hf
      obtain ⟨v1, e_v1, hf⟩ := m_bndE hf
      have t_v1 : v1.toInt = x4.toInt + 1 := ti_add e_v1 rfl (show (1 : Int32).toInt = 1 from rfl) (by omega) (by omega)
      refine ih x2 v1 Iq Aq h2 (by omega) hB2 (fun _ => ?_) hf
      have e : x3.toInt * 64 + v1.toInt = x3.toInt * 64 + x4.toInt + 1 := by omega
      rw [e]
      exact nb_s (hN e2) hn h3 ⟨h4.1, hlt⟩
    obtain ⟨⟨hI, hA, hm, i25, i26, i27⟩, eI, eA⟩ := id hB
    unfold f_behind_42s at hf
    rcases m_ifE hf with ⟨c1, hf⟩ | ⟨c1, hf⟩
    · skip
      replace c1 := ti_leP (a := (64 : Int32)) (b := x4) c1 (show (64 : Int32).toInt = 64 from rfl) rfl
      unfold f_behind_92 at hf
      obtain ⟨v1, e_v1, hf⟩ := m_bndE hf
      have t_v1 : v1.toInt = x3.toInt + 1 := ti_add e_v1 rfl (show (1 : Int32).toInt = 1 from rfl) (by omega) (by omega)
      rcases h2 with h2 | ⟨h2, hA1⟩
      · subst h2
        have e : x4.toInt = 64 := by omega
        have hN2 := hN rfl
        rw [e] at hN2
        exact H v1 I A t_v1 hB hN2 hf
      · subst h2
        exact H4 v1 I A hB hA1 hf
    · skip
      replace c1 := ti_leN (a := (64 : Int32)) (b := x4) c1 (show (64 : Int32).toInt = 64 from rfl) rfl
      rcases m_ifE hf with ⟨c2, hf⟩ | ⟨c2, hf⟩
      · skip
        replace c2 := ti_eqP (a := x2) (b := (35 : Int32)) c2 rfl (show (35 : Int32).toInt = 35 from rfl)
        have e35 : x2 = 35 := Int32.toInt_inj.1 (by omega)
        obtain ⟨r1, h_r1, hf⟩ := m_clR hf (fun _ h => rro_goes h)
        obtain ⟨-, b1, q1⟩ := ok_of (x_goes (P := goR m sd rt ps x3.toInt x4.toInt) hI hA (by omega) (by omega) (by rw [hm, i25, i26, i27]) (by rw [hm]; exact hP.2.1) (by rw [i26]; exact hP.2.2.2.2.2.2.1)) h_r1
        dsimp only at b1 q1
        rcases m_ifE hf with ⟨c3, hf⟩ | ⟨c3, hf⟩
        · skip
          replace c3 := ti_eqP (a := r1) (b := (0 : Int32)) c3 rfl (show (0 : Int32).toInt = 0 from rfl)
          exact nx I A hB e35 (fun h => by
            have := q1.2 ((leg_eq (p := 0) hP h3 ⟨h4.1, by omega⟩ (by decide)).2 h).1
            omega) (by omega) hf
        · skip
          replace c3 := ti_eqN (a := r1) (b := (0 : Int32)) c3 rfl (show (0 : Int32).toInt = 0 from rfl)
          obtain ⟨v2, e_v2, hf⟩ := m_bndE hf
          have t_v2 : v2.toInt = 64 * x4.toInt := ti_mul e_v2 (show (64 : Int32).toInt = 64 from rfl) rfl (by omega) (by omega)
          obtain ⟨v3, e_v3, hf⟩ := m_bndE hf
          have t_v3 : v3.toInt = x3.toInt + v2.toInt := ti_add e_v3 rfl rfl (by omega) (by omega)
          obtain ⟨⟨r4, Ic4, Ac4⟩, h_r4, hf⟩ := m_clE hf
          dsimp only at hf
          obtain ⟨J4, f4, g4, b4, q4⟩ := p_once hB.1 hP h3 ⟨h4.1, by omega⟩ (q1.1 (by omega)) hc (by omega) h_r4
          dsimp only at J4 f4 g4 b4 q4
          have B4 : BJ m sd rt ps I0 A0 Ic4 Ac4 := ⟨J4, f4.trans eI, fun j hj => (g4 j hj).trans (eA j hj)⟩
          rcases m_ifE hf with ⟨c4, hf⟩ | ⟨c4, hf⟩
          · skip
            replace c4 := ti_eqP (a := r4) (b := (0 : Int32)) c4 rfl (show (0 : Int32).toInt = 0 from rfl)
            exact nx Ic4 Ac4 B4 e35 (fun h => by have := q4.2 h.2; omega) (by omega) hf
          · skip
            replace c4 := ti_eqN (a := r4) (b := (0 : Int32)) c4 rfl (show (0 : Int32).toInt = 0 from rfl)
            unfold f_behind_85 at hf
            obtain ⟨v1, e_v1, hf⟩ := m_bndE hf
            have t_v1 : v1.toInt = x4.toInt + 1 := ti_add e_v1 rfl (show (1 : Int32).toInt = 1 from rfl) (by omega) (by omega)
            have hr := ((go_rch hP.1).1 (q1.1 (by omega))).1
            exact ih 43 v1 Ic4 Ac4 (Or.inr ⟨rfl, ⟨x3.toInt, x4.toInt, h3.1, h3.2, h4.1, by omega, hr, q4.1 (by omega)⟩⟩) (by omega) B4 (fun h => absurd h (by decide)) hf
      · skip
        replace c2 := ti_eqN (a := x2) (b := (35 : Int32)) c2 rfl (show (35 : Int32).toInt = 35 from rfl)
        unfold f_behind_92 at hf
        obtain ⟨v1, e_v1, hf⟩ := m_bndE hf
        rcases h2 with h2 | ⟨h2, hA1⟩
        · subst h2
          omega
        · subst h2
          exact H4 v1 I A hB hA1 hf
theorem bh_27c (hP : POS m sd rt ps kw kb) (hc : attd m (if sd = 0 then kw else kb) (1 - sd)) : ∀ (n : Nat) (x3 : Int32) (I : Nat → Int32) (A : Nat → Nat → Int32), (0 ≤ x3.toInt ∧ x3.toInt ≤ 64) → BJ m sd rt ps I0 A0 I A → NBf m sd rt ps kw kb (x3.toInt * 64) → f_behind_27 n 35 x3 I A = some o → ∃ I A, BJ m sd rt ps I0 A0 I A ∧ o.2 = (nB I A, va_up A 24 (A 30)) ∧ ((ANY m sd rt ps kw kb ∧ o.1.toInt = 43) ∨ (¬ ANY m sd rt ps kw kb ∧ o.1.toInt = 35)) := by
  intro n
  induction n with
  | zero => intro x3 I A _ _ _ hf; cases hf
  | succ n ih =>
    intro x3 I A h3 hB hN hf
    have hf : f_behind_27s (f_behind_27 n) 35 x3 I A = some o := hf
    have z0 : (0 : Int32).toInt = 0 := rfl
    unfold f_behind_27s at hf
    rcases m_ifE hf with ⟨c1, hf⟩ | ⟨c1, hf⟩
    · skip
      replace c1 := ti_leP (a := (64 : Int32)) (b := x3) c1 (show (64 : Int32).toInt = 64 from rfl) rfl
      have := bh_98 hf
      subst this
      exact ⟨I, A, hB, rfl, Or.inr ⟨nb_any hN (by omega), rfl⟩⟩
    · skip
      replace c1 := ti_leN (a := (64 : Int32)) (b := x3) c1 (show (64 : Int32).toInt = 64 from rfl) rfl
      rcases m_ifE hf with ⟨c2, hf⟩ | ⟨c2, hf⟩
      · skip
        replace c2 := ti_eqP (a := (35 : Int32)) (b := (35 : Int32)) c2 (show (35 : Int32).toInt = 35 from rfl) (show (35 : Int32).toInt = 35 from rfl)
        refine bh_42 (G := fun o => ∃ I A, BJ m sd rt ps I0 A0 I A ∧ o.2 = (nB I A, va_up A 24 (A 30)) ∧ ((ANY m sd rt ps kw kb ∧ o.1.toInt = 43) ∨ (¬ ANY m sd rt ps kw kb ∧ o.1.toInt = 35))) hP hc (by omega) (fun v I A ev hB hN hf => ih v I A (by omega) hB (by rw [show v.toInt * 64 = x3.toInt * 64 + 64 by omega]; exact hN) hf) (fun v I A hB hA hf => ?_) mFuel 35 0 I A (Or.inl rfl) (by omega) hB (fun _ => by rw [show x3.toInt * 64 + (0 : Int32).toInt = x3.toInt * 64 by omega]; exact hN) hf
        have := bh_27 n (by decide) hf
        subst this
        exact ⟨I, A, hB, rfl, Or.inl ⟨hA, rfl⟩⟩
      · skip
        replace c2 := ti_eqN (a := (35 : Int32)) (b := (35 : Int32)) c2 (show (35 : Int32).toInt = 35 from rfl) (show (35 : Int32).toInt = 35 from rfl)
        exact absurd rfl c2
end BHD
end CSG
