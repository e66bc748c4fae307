section SAF
variable {S S' : ZS} {x0 bb tb : Nat}
theorem mbd_c1 {m : Int → Int} {pw ps a t : Int} (h : MBd m) : MBd (c1 m pw ps a t) := by
  unfold c1
  by_cases c : pw = 1 ∧ t = ps
  · rw [if_pos c]; exact mbd_up h (by decide)
  · rw [if_neg c]; exact h
theorem mbd_c2 {m : Int → Int} {a t : Int} (h : MBd m) : MBd (c2 m a t) := by
  unfold c2
  by_cases c : m a % 8 = 6 ∧ a / 8 = t / 8 ∧ (t = a + 2 ∨ t = a - 2)
  · rw [if_pos c]; exact mbd_up (mbd_up h (h _)) (by decide)
  · rw [if_neg c]; exact h
theorem mbd_c3 {m : Int → Int} {sd a t p : Int} (h : MBd m) (hs : sd = 0 ∨ sd = 1) (hp : 0 ≤ p ∧ p ≤ 5) : MBd (c3 m sd a t p) := by
  unfold c3
  refine mbd_up (mbd_up h ?_) (by decide)
  unfold pv
  by_cases c : p = 0
  · rw [if_pos c]; exact h a
  · rw [if_neg c]; omega
/-- the men behind a move, by the class -/
def plB (m : Int → Int) (sd ps a t p : Int) : Int → Int := c3 (m2B m ps a t) sd a t p
theorem mbd_pl {m : Int → Int} {sd ps a t p : Int} (h : MBd m) (hs : sd = 0 ∨ sd = 1) (hp : 0 ≤ p ∧ p ≤ 5) : MBd (plB m sd ps a t p) := mbd_c3 (mbd_c2 (mbd_c1 h)) hs hp
/-- where the class holds the king of a side, behind a move -/
def kgB (m : Int → Int) (sd ps a t p w old : Int) : Int := if pv (m2B m ps a t) sd a p = 6 + 8 * w then t else old
def safC (m : Int → Int) (sd ps kg a t p : Int) : Prop := ¬ (cas m a t ∧ (attd m a (1 - sd) ∨ attd m ((a + t) / 2) (1 - sd))) ∧ ¬ attd (plB m sd ps a t p) (kgB m sd ps a t p sd kg) (1 - sd)
theorem p_61 {x2 x5 y : Int32} {m : Int → Int} {sd ps kg : Int} (hT : ZT S) (k7 : zK S x0 = 7) (ht : zP S 0 x0 = some tb) (kt : zK S tb = 0) (hpt : zP S 0 tb = some (tb + 1)) (kb : zK S bb = 0) (hpb : zP S 0 bb = some (bb + 1)) (hn : BN S bb) (hm : mCb S bb = m) (hM : MBd m) (hsd : (zI S 3 bb).toInt = sd) (hps : (zI S 5 bb).toInt = ps) (hkg : (if sd = 0 then (zI S 1 bb).toInt else (zI S 2 bb).toInt) = kg) (h5 : x5 = zI S 3 bb) (hx : 0 ≤ x2.toInt ∧ x2.toInt ≤ 24575) (hf : f_X7_isSafe_61 x0 bb x2 x5 S = some (y, S')) : SB S S' tb ∧ (y.toInt = 0 ∨ y.toInt = 1) ∧ (y.toInt = 1 ↔ ¬ attd (plB m sd ps (x2.toInt % 64) (x2.toInt / 64 % 64) (x2.toInt / 4096)) (kgB m sd ps (x2.toInt % 64) (x2.toInt / 64 % 64) (x2.toInt / 4096) sd kg) (1 - sd)) := by
  have hs : sd = 0 ∨ sd = 1 := by have := hn.2; omega
  unfold f_X7_isSafe_61 at hf
  obtain ⟨-, hf⟩ := m_chkE hf
  obtain ⟨d1, hd1, hf⟩ := m_calE hf
  rw [ht] at hd1
  cases hd1
  obtain ⟨-, hf⟩ := m_chkE hf
  obtain ⟨⟨y2, S2⟩, h2, hf⟩ := m_calE hf
  dsimp only at hf
  have T2 : ZT S2 := (ok_of (t_f_X0_copyFrom (SZ := S) hT (a7_0 S) kt kb) h2).1
  obtain ⟨b2, m2, i2⟩ := p_copy hpt hpb h2
  have P2 : zP S2 = zP S := b2.2.1
  have K2 : zK S2 = zK S := b2.1.2.2.1
  obtain ⟨-, hf⟩ := m_chkE hf
  obtain ⟨d3, hd3, hf⟩ := m_calE hf
  rw [P2, ht] at hd3
  cases hd3
  obtain ⟨-, hf⟩ := m_chkE hf
  obtain ⟨⟨y4, S4⟩, h4, hf⟩ := m_calE hf
  dsimp only at hf
  have kt2 : zK S2 tb = 0 := by rw [K2]; exact kt
  have T4 : ZT S4 := (ok_of (t_f_X0_play (SZ := S2) T2 (a7_0 S2) kt2) h4).1
  obtain ⟨tq, htq, b4, m4, w4, v4, -, -, -, -⟩ := p_play T2 kt2 (by rw [P2]; exact hpt) (by unfold BN; rw [i2 6 (by decide) (by decide), i2 3 (by decide) (by decide)]; exact hn) (by rw [m2, hm]; exact hM) hx h4
  have P4 : zP S4 = zP S := b4.2.1.trans P2
  have K4 : zK S4 = zK S := b4.1.2.2.1.trans K2
  rw [m2, hm, i2 3 (by decide) (by decide), hsd, i2 5 (by decide) (by decide), hps] at m4 w4 v4
  rw [i2 1 (by decide) (by decide)] at w4
  rw [i2 2 (by decide) (by decide)] at v4
  obtain ⟨-, hf⟩ := m_chkE hf
  obtain ⟨d5, hd5, hf⟩ := m_calE hf
  rw [P4, ht] at hd5
  cases hd5
  obtain ⟨-, hf⟩ := m_chkE hf
  obtain ⟨d6, hd6, hf⟩ := m_calE hf
  rw [P4, ht] at hd6
  cases hd6
  obtain ⟨-, hf⟩ := m_chkE hf
  obtain ⟨r7, h7, hf⟩ := m_calR hf (fun _ h => ro_X0_kingOf h)
  have kt4 : zK S4 tb = 0 := by rw [K4]; exact kt
  obtain ⟨-, r7b, q7⟩ := ok_of (x_f_X0_kingOf (x1 := x5) T4 kt4) h7
  dsimp only at r7b q7 hf
  obtain ⟨v8, e8, hf⟩ := m_bndE hf
  have t8 : v8.toInt = 1 - sd := ti_sub e8 (show (1 : Int32).toInt = 1 from rfl) (by rw [h5]; exact hsd) (by omega) (by omega)
  obtain ⟨-, hf⟩ := m_chkE hf
  obtain ⟨r9, h9, hf⟩ := m_calR hf (fun _ h => ro_X0_attacked h)
  have hM4 : MBd (mCb S4 tb) := by rw [m4]; exact mbd_pl hM hs (by omega)
  obtain ⟨-, r9b, q9⟩ := ok_of (x_f_X0_attacked (P := attd (mCb S4 tb) r7.toInt (1 - sd)) T4 kt4 r7b (by omega) (by rw [t8]) hM4) h9
  dsimp only at r9b q9 hf
  have ek : r7.toInt = kgB m sd ps (x2.toInt % 64) (x2.toInt / 64 % 64) (x2.toInt / 4096) sd kg := by
    rw [q7, h5, hsd, ← hkg]
    unfold kgB
    rcases hs with e | e
    · subst e
      rw [if_pos rfl, if_pos rfl, w4]
      unfold kq
      by_cases c : pv (m2B m ps (x2.toInt % 64) (x2.toInt / 64 % 64)) 0 (x2.toInt % 64) (x2.toInt / 4096) = 6
      · rw [if_pos c, if_pos (by omega), htq]
      · rw [if_neg c, if_neg (by omega)]
    · subst e
      rw [if_neg (show ¬ ((1 : Int) = 0) by decide), if_neg (show ¬ ((1 : Int) = 0) by decide), v4]
      unfold kq
      by_cases c : pv (m2B m ps (x2.toInt % 64) (x2.toInt / 64 % 64)) 1 (x2.toInt % 64) (x2.toInt / 4096) = 14
      · rw [if_pos c, if_pos (by omega), htq]
      · rw [if_neg c, if_neg (by omega)]
  rw [m4, ek] at q9
  have bS : SB S S4 tb := sb_t b2 b4
  have z0 : (0 : Int32).toInt = 0 := rfl
  have z1 : (1 : Int32).toInt = 1 := rfl
  rcases m_ifE hf with ⟨c, hf⟩ | ⟨c, hf⟩
  · unfold f_X7_isSafe_105 at hf
    obtain ⟨-, hf⟩ := m_chkE hf
    cases hf
    refine ⟨bS, Or.inr rfl, fun _ g => ?_, fun _ => rfl⟩
    have := q9.2 g
    rw [c] at this
    omega
  · unfold f_X7_isSafe_105 at hf
    obtain ⟨-, hf⟩ := m_chkE hf
    cases hf
    refine ⟨bS, Or.inl rfl, fun g => by omega, fun g => ?_⟩
    have h1 : r9.toInt ≠ 0 := fun h => c (Int32.toInt_inj.1 h)
    exact absurd (q9.1 (by omega)) g
theorem p_isSafe {x2 y : Int32} {m : Int → Int} {sd ps kg : Int} (hT : ZT S) (k7 : zK S x0 = 7) (ht : zP S 0 x0 = some tb) (kt : zK S tb = 0) (hpt : zP S 0 tb = some (tb + 1)) (kb : zK S bb = 0) (hpb : zP S 0 bb = some (bb + 1)) (hn : BN S bb) (hm : mCb S bb = m) (hM : MBd m) (hsd : (zI S 3 bb).toInt = sd) (hps : (zI S 5 bb).toInt = ps) (hkg : (if sd = 0 then (zI S 1 bb).toInt else (zI S 2 bb).toInt) = kg) (hx : 0 ≤ x2.toInt ∧ x2.toInt ≤ 24575) (hf : f_X7_isSafe x0 bb x2 S = some (y, S')) : SB S S' tb ∧ (y.toInt = 0 ∨ y.toInt = 1) ∧ (y.toInt = 1 ↔ safC m sd ps kg (x2.toInt % 64) (x2.toInt / 64 % 64) (x2.toInt / 4096)) := by
  have hs : sd = 0 ∨ sd = 1 := by have := hn.2; omega
  have hf : f_X7_isSafe_0 x0 bb x2 S = some (y, S') := hf
  unfold f_X7_isSafe_0 at hf
  obtain ⟨v1, e1, hf⟩ := m_bndE hf
  obtain ⟨v2, e2, hf⟩ := m_bndE hf
  obtain ⟨v3, e3, hf⟩ := m_bndE hf
  obtain ⟨t1, t3, -, -⟩ := mv_bits hx e1 e2 e3 rfl rfl
  obtain ⟨-, hf⟩ := m_chkE hf
  obtain ⟨-, hf⟩ := m_chkE hf
  obtain ⟨r4, h4, hf⟩ := m_calR hf (fun _ h => ro_X0_castles h)
  obtain ⟨-, r4b, q4⟩ := ok_of (x_f_X0_castles hT kb (by omega) (by omega) (by rw [hm]; exact hM)) h4
  dsimp only at r4b q4 hf
  rw [hm, t1, t3] at q4
  have z0 : (0 : Int32).toInt = 0 := rfl
  have last : ¬ (cas m (x2.toInt % 64) (x2.toInt / 64 % 64) ∧ (attd m (x2.toInt % 64) (1 - sd) ∨ attd m ((x2.toInt % 64 + x2.toInt / 64 % 64) / 2) (1 - sd))) → f_X7_isSafe_61 x0 bb x2 (zI S 3 bb) S = some (y, S') → SB S S' tb ∧ (y.toInt = 0 ∨ y.toInt = 1) ∧ (y.toInt = 1 ↔ safC m sd ps kg (x2.toInt % 64) (x2.toInt / 64 % 64) (x2.toInt / 4096)) := by
    intro hc hf
    obtain ⟨a1, a2, a3⟩ := p_61 hT k7 ht kt hpt kb hpb hn hm hM hsd hps hkg rfl hx hf
    refine ⟨a1, a2, ?_⟩
    rw [a3]
    unfold safC
    exact ⟨fun g => ⟨hc, g⟩, fun g => g.2⟩
  have no : (cas m (x2.toInt % 64) (x2.toInt / 64 % 64) ∧ (attd m (x2.toInt % 64) (1 - sd) ∨ attd m ((x2.toInt % 64 + x2.toInt / 64 % 64) / 2) (1 - sd))) → f_X7_isSafe_59 S = some (y, S') → SB S S' tb ∧ (y.toInt = 0 ∨ y.toInt = 1) ∧ (y.toInt = 1 ↔ safC m sd ps kg (x2.toInt % 64) (x2.toInt / 64 % 64) (x2.toInt / 4096)) := by
    intro hc hf
    unfold f_X7_isSafe_59 at hf
    obtain ⟨-, hf⟩ := m_chkE hf
    cases hf
    exact ⟨sb_0, Or.inl rfl, fun g => absurd g (by decide), fun g => absurd hc g.1⟩
  rcases m_ifE hf with ⟨c, hf⟩ | ⟨c, hf⟩
  · refine last (fun g => ?_) hf
    have := q4.2 g.1
    rw [c] at this
    omega
  · have h1 : r4.toInt ≠ 0 := fun h => c (Int32.toInt_inj.1 h)
    have hc := q4.1 (by omega)
    obtain ⟨v5, e5, hf⟩ := m_bndE hf
    have t5 : v5.toInt = 1 - sd := ti_sub e5 (show (1 : Int32).toInt = 1 from rfl) hsd (by omega) (by omega)
    obtain ⟨-, hf⟩ := m_chkE hf
    obtain ⟨r6, h6, hf⟩ := m_calR hf (fun _ h => ro_X0_attacked h)
    obtain ⟨-, r6b, q6⟩ := ok_of (x_f_X0_attacked (P := attd m (x2.toInt % 64) (1 - sd)) hT kb (by omega) (by omega) (by rw [hm, t1, t5]) (by rw [hm]; exact hM)) h6
    dsimp only at r6b q6 hf
    rcases m_ifE hf with ⟨d, hf⟩ | ⟨d, hf⟩
    · obtain ⟨v7, e7, hf⟩ := m_bndE hf
      obtain ⟨v8, e8, hf⟩ := m_bndE hf
      obtain ⟨v9, e9, hf⟩ := m_bndE hf
      have t7 : v7.toInt = x2.toInt % 64 + x2.toInt / 64 % 64 := ti_add e7 t1 t3 (by omega) (by omega)
      have t8 : v8.toInt = (x2.toInt % 64 + x2.toInt / 64 % 64) / 2 := ti_div e8 t7 (show (2 : Int32).toInt = 2 from rfl) (by omega) (by decide)
      have t9 : v9.toInt = 1 - sd := ti_sub e9 (show (1 : Int32).toInt = 1 from rfl) hsd (by omega) (by omega)
      obtain ⟨-, hf⟩ := m_chkE hf
      obtain ⟨r10, h10, hf⟩ := m_calR hf (fun _ h => ro_X0_attacked h)
      obtain ⟨-, r10b, q10⟩ := ok_of (x_f_X0_attacked (P := attd m ((x2.toInt % 64 + x2.toInt / 64 % 64) / 2) (1 - sd)) hT kb (by omega) (by omega) (by rw [hm, t8, t9]) (by rw [hm]; exact hM)) h10
      dsimp only at r10b q10 hf
      rcases m_ifE hf with ⟨f, hf⟩ | ⟨f, hf⟩
      · refine last (fun g => ?_) hf
        rcases g.2 with g | g
        · have := q6.2 g
          rw [d] at this
          omega
        · have := q10.2 g
          rw [f] at this
          omega
      · have h2 : r10.toInt ≠ 0 := fun h => f (Int32.toInt_inj.1 h)
        exact no ⟨hc, Or.inr (q10.1 (by omega))⟩ hf
    · have h2 : r6.toInt ≠ 0 := fun h => d (Int32.toInt_inj.1 h)
      exact no ⟨hc, Or.inl (q6.1 (by omega))⟩ hf
end SAF
