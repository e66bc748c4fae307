/-- what reading signs may change: ints of the reader x0, the row rw, the boards tb and ab, the array fa -/
def MTF (S S' : ZS) (x0 rw tb ab fa : Nat) : Prop := (∀ a, zK S a < 18 → zK S' a = zK S a ∧ zN S' a = zN S a) ∧ (∀ a j, zK S a < 18 → a ≠ x0 → a ≠ rw → a ≠ tb → a ≠ ab → zI S' j a = zI S j a) ∧ (∀ a j, zK S a < 18 → (a ≠ rw ∨ j ≠ 0) → zP S' j a = zP S j a) ∧ (∀ a, zK S a < 18 → zK S a ≠ 13 → a ≠ tb + 1 → a ≠ ab + 1 → a ≠ fa → zA S' a = zA S a) ∧ (∀ a, zK S a < 18 → zB S' a = zB S a) ∧ (∀ a c, zK S a = 6 → a ≠ rw → zP S 0 a = some c → zA S' c = zA S c)
section MTS
variable {S S1 S2 S' : ZS} {x0 rw tb ab fa : Nat}
theorem mtf_0 : MTF S S x0 rw tb ab fa := ⟨fun _ _ => ⟨rfl, rfl⟩, fun _ _ _ _ _ _ _ => rfl, fun _ _ _ _ => rfl, fun _ _ _ _ _ _ => rfl, fun _ _ => rfl, fun _ _ _ _ _ => rfl⟩
theorem mtf_t (h : MTF S S1 x0 rw tb ab fa) (g : MTF S1 S2 x0 rw tb ab fa) : MTF S S2 x0 rw tb ab fa := by
  obtain ⟨h1, h2, h3, h4, h5, h6⟩ := h
  obtain ⟨g1, g2, g3, g4, g5, g6⟩ := g
  have k : ∀ a, zK S a < 18 → zK S1 a < 18 := fun a ha => by rw [(h1 a ha).1]; exact ha
  refine ⟨fun a ha => ⟨(g1 a (k a ha)).1.trans (h1 a ha).1, (g1 a (k a ha)).2.trans (h1 a ha).2⟩, fun a j ha b c d e => (g2 a j (k a ha) b c d e).trans (h2 a j ha b c d e), fun a j ha b => (g3 a j (k a ha) b).trans (h3 a j ha b), fun a ha b c d e => (g4 a (k a ha) (by rw [(h1 a ha).1]; exact b) c d e).trans (h4 a ha b c d e), fun a ha => (g5 a (k a ha)).trans (h5 a ha), fun a c ha hb hc => ?_⟩
  have ha2 : zK S a < 18 := by rw [ha]; decide
  exact (g6 a c (by rw [(h1 a ha2).1]; exact ha) hb (by rw [h3 a 0 ha2 (Or.inl hb)]; exact hc)).trans (h6 a c ha hb hc)
theorem mtf_r (h : RWF S S' rw) : MTF S S' x0 rw tb ab fa := by
  obtain ⟨h1, h2, h3, h4, h5, h6, h7⟩ := h
  refine ⟨h1, fun a j ha _ b _ _ => (h2 a j ha b).1, fun a j ha hb => ?_, fun a ha b _ _ _ => h5 a ha b, h6, h7⟩
  by_cases e : a = rw
  · subst e
    exact h4 j (hb.resolve_left (fun g => g rfl))
  · exact (h2 a j ha e).2
theorem mtf_s (h : SBt S S' tb ab) (hT : ZT S) (k1 : zK S (tb + 1) = 14) (k2 : zK S (ab + 1) = 14) : MTF S S' x0 rw tb ab fa := by
  obtain ⟨h1, h2, h3, h4, -⟩ := h
  refine ⟨fun a _ => ⟨by rw [h1.2.2.1], by rw [h1.2.2.2.1]⟩, fun a j _ _ _ b c => h3 j a b c, fun a j _ _ => by rw [h2], fun a _ _ b c _ => h4 a b c, fun a _ => by rw [h1.2.2.2.2], fun a c ha _ hc => ?_⟩
  obtain ⟨b, hb, hb2, -⟩ := hT.2.1 a ha
  rw [hb] at hc
  have e9 : b = c := Option.some.inj hc
  rw [e9] at hb2
  have z0 := hT.2.2.2.2.2.1
  refine h4 c (fun e => ?_) (fun e => ?_)
  · rcases hb2 with g | g
    · rw [g] at e; rw [e, k1] at z0; exact absurd z0 (by decide)
    · rw [e, k1] at g; exact absurd g (by decide)
  · rcases hb2 with g | g
    · rw [g] at e; rw [e, k2] at z0; exact absurd z0 (by decide)
    · rw [e, k2] at g; exact absurd g (by decide)
theorem mtf_x (h : SXf S S' x0) : MTF S S' x0 rw tb ab fa := ⟨fun a _ => ⟨by rw [h.1], by rw [h.2.2.1]⟩, fun a j _ b _ _ _ => h.2.2.2.2.2 j a b, fun a j _ _ => by rw [h.2.1], fun a _ _ _ _ _ => by rw [h.2.2.2.1], fun a _ => by rw [h.2.2.2.2.1], fun a c _ _ _ => by rw [h.2.2.2.1]⟩
theorem mtf_A {i : Nat} {v : Int32} (e : S' = zsA S fa i v) (hT : ZT S) (k1 : zK S fa = 14) : MTF S S' x0 rw tb ab fa := by
  subst e
  refine ⟨fun _ _ => ⟨rfl, rfl⟩, fun _ _ _ _ _ _ _ => rfl, fun _ _ _ _ => rfl, fun a _ _ _ _ b => va_up_ne _ _ b, fun _ _ => rfl, fun a c ha _ hc => va_up_ne _ _ (fun e => ?_)⟩
  obtain ⟨b, hb, hb2, -⟩ := hT.2.1 a ha
  rw [hb] at hc
  cases hc
  have z0 := hT.2.2.2.2.2.1
  rcases hb2 with g | g
  · rw [g] at e; rw [e, k1] at z0; exact absurd z0 (by decide)
  · rw [e, k1] at g; exact absurd g (by decide)
theorem mtf_rw {a : Nat} (h : MTF S S' x0 rw tb ab fa) (ha : zK S a = 6) (hb : a ≠ rw) (h8 : zK S x0 = 8) (ht : zK S tb = 0) (hab : zK S ab = 0) : rwC S' a = rwC S a := by
  obtain ⟨h1, h2, h3, h4, h5, h6⟩ := h
  have ha2 : zK S a < 18 := by rw [ha]; decide
  funext i
  unfold rwC
  rw [h2 a 1 ha2 (fun e => by rw [e, h8] at ha; exact absurd ha (by decide)) hb (fun e => by rw [e, ht] at ha; exact absurd ha (by decide)) (fun e => by rw [e, hab] at ha; exact absurd ha (by decide)), h3 a 0 ha2 (Or.inl hb)]
  cases hc : zP S 0 a with
  | none => rfl
  | some c =>
    have e := h6 a c ha hb hc
    simp only [e]
end MTS
/-- a square that the parts of a word ask for -/
def ftF (m : Int → Int) (sd kd fl rk to bc tk a : Int) : Prop := m a = kd + 8 * sd ∧ ¬ cas m a to ∧ (fl = -1 ∨ fl = a % 8) ∧ (rk = -1 ∨ rk = a / 8) ∧ ¬ (kd = 1 ∧ tkg m a to ∧ fl = -1) ∧ (tk = -1 ∨ (tkg m a to ↔ tk = 1)) ∧ ((m a % 8 = 1 ∧ (to < 8 ∨ 56 ≤ to)) ↔ bc ≠ 0)
def askC (m : Int → Int) (sd cs kd fl rk to bc tk a : Int) : Prop := (cs ≠ 0 ∧ a = 4 + 56 * sd ∧ cas m a to) ∨ (cs = 0 ∧ ftF m sd kd fl rk to bc tk a)
section FFR
variable {m : Int → Int} {sd kd fl rk to bc tk : Int} {S : ZS} {x0 bb : Nat} {x2 : Int32} {o : Int32 × ZS}
theorem ff_129 (hT : ZT S) (kb : zK S bb = 0) (hm : mCb S bb = m) (hM : MBd m) (h2 : 0 ≤ x2.toInt ∧ x2.toInt ≤ 63) (e6 : (zI S 6 x0).toInt = to) (e7 : (zI S 7 x0).toInt = bc) (hf : f_X8_fitsFrom_129 x0 bb x2 S = some o) : (o.1.toInt = 0 ∨ o.1.toInt = 1) ∧ (o.1.toInt = 1 ↔ ((m x2.toInt % 8 = 1 ∧ (to < 8 ∨ 56 ≤ to)) ↔ bc ≠ 0)) := by
  have z0 : (0 : Int32).toInt = 0 := rfl
  have z1 : (1 : Int32).toInt = 1 := rfl
  unfold f_X8_fitsFrom_129 at hf
  obtain ⟨-, hf⟩ := m_chkE hf
  obtain ⟨-, hf⟩ := m_chkE hf
  obtain ⟨r1, h_r1, hf⟩ := m_calR hf (fun _ h => ro_X0_becomesAnother h)
  dsimp only at hf
  obtain ⟨-, b1, q1⟩ := ok_of (x_f_X0_becomesAnother (x2 := zI S 6 x0) hT kb h2 (by rw [hm]; exact hM)) h_r1
  dsimp only at b1 q1
  rw [hm, e6] at q1
  obtain ⟨-, hf⟩ := m_chkE hf
  rcases m_ifE hf with ⟨c1, hf⟩ | ⟨c1, hf⟩
  · skip
    replace c1 := ti_eqP (a := (zI S 7 x0)) (b := (0 : Int32)) c1 rfl (show (0 : Int32).toInt = 0 from rfl)
    unfold f_X8_fitsFrom_150 at hf
    rcases m_ifE hf with ⟨c2, hf⟩ | ⟨c2, hf⟩
    · skip
      replace c2 := ti_eqP (a := r1) (b := (0 : Int32)) c2 rfl (show (0 : Int32).toInt = 0 from rfl)
      unfold f_X8_fitsFrom_158 at hf
      obtain ⟨-, hf⟩ := m_chkE hf
      cases hf
      try dsimp only
      rw [← q1]
      omega
    · skip
      replace c2 := ti_eqN (a := r1) (b := (0 : Int32)) c2 rfl (show (0 : Int32).toInt = 0 from rfl)
      unfold f_X8_fitsFrom_157 at hf
      unfold f_X8_fitsFrom_158 at hf
      obtain ⟨-, hf⟩ := m_chkE hf
      cases hf
      try dsimp only
      rw [← q1]
      omega
  · skip
    replace c1 := ti_eqN (a := (zI S 7 x0)) (b := (0 : Int32)) c1 rfl (show (0 : Int32).toInt = 0 from rfl)
    unfold f_X8_fitsFrom_150 at hf
    rcases m_ifE hf with ⟨c3, hf⟩ | ⟨c3, hf⟩
    · skip
      replace c3 := ti_eqP (a := r1) (b := (1 : Int32)) c3 rfl (show (1 : Int32).toInt = 1 from rfl)
      unfold f_X8_fitsFrom_158 at hf
      obtain ⟨-, hf⟩ := m_chkE hf
      cases hf
      try dsimp only
      rw [← q1]
      omega
    · skip
      replace c3 := ti_eqN (a := r1) (b := (1 : Int32)) c3 rfl (show (1 : Int32).toInt = 1 from rfl)
      unfold f_X8_fitsFrom_157 at hf
      unfold f_X8_fitsFrom_158 at hf
      obtain ⟨-, hf⟩ := m_chkE hf
      cases hf
      try dsimp only
      rw [← q1]
      omega
theorem ff_104 {x3 : Int32} (hT : ZT S) (kb : zK S bb = 0) (hm : mCb S bb = m) (hM : MBd m) (h2 : 0 ≤ x2.toInt ∧ x2.toInt ≤ 63) (e6 : (zI S 6 x0).toInt = to) (e7 : (zI S 7 x0).toInt = bc) (e8 : (zI S 8 x0).toInt = tk) (htk : -1 ≤ tk ∧ tk ≤ 1) (h3 : x3.toInt = 0 ∨ x3.toInt = 1) (q3 : x3.toInt = 1 ↔ tkg m x2.toInt to) (hf : f_X8_fitsFrom_104 x0 bb x2 x3 S = some o) : (o.1.toInt = 0 ∨ o.1.toInt = 1) ∧ (o.1.toInt = 1 ↔ (tk = -1 ∨ (tkg m x2.toInt to ↔ tk = 1)) ∧ ((m x2.toInt % 8 = 1 ∧ (to < 8 ∨ 56 ≤ to)) ↔ bc ≠ 0)) := by
  have z1 : (-1 : Int32).toInt = -1 := rfl
  have z0 : (0 : Int32).toInt = 0 := rfl
  have z2 : (1 : Int32).toInt = 1 := rfl
  unfold f_X8_fitsFrom_104 at hf
  obtain ⟨-, hf⟩ := m_chkE hf
  rcases m_ifE hf with ⟨c1, hf⟩ | ⟨c1, hf⟩
  · skip
    replace c1 := ti_eqP (a := (zI S 8 x0)) (b := (-1 : Int32)) c1 rfl (show (-1 : Int32).toInt = -1 from rfl)
    obtain ⟨g1, g2⟩ := ff_129 hT kb hm hM h2 e6 e7 hf
    exact ⟨g1, g2.trans ⟨fun h => ⟨by rw [← q3]; omega, h⟩, fun h => h.2⟩⟩
  · skip
    replace c1 := ti_eqN (a := (zI S 8 x0)) (b := (-1 : Int32)) c1 rfl (show (-1 : Int32).toInt = -1 from rfl)
    obtain ⟨-, hf⟩ := m_chkE hf
    rcases m_ifE hf with ⟨c2, hf⟩ | ⟨c2, hf⟩
    · skip
      replace c2 := ti_eqP (a := (zI S 8 x0)) (b := (1 : Int32)) c2 rfl (show (1 : Int32).toInt = 1 from rfl)
      unfold f_X8_fitsFrom_126 at hf
      rcases m_ifE hf with ⟨c3, hf⟩ | ⟨c3, hf⟩
      · skip
        replace c3 := ti_eqP (a := x3) (b := (1 : Int32)) c3 rfl (show (1 : Int32).toInt = 1 from rfl)
        obtain ⟨g1, g2⟩ := ff_129 hT kb hm hM h2 e6 e7 hf
        exact ⟨g1, g2.trans ⟨fun h => ⟨by rw [← q3]; omega, h⟩, fun h => h.2⟩⟩
      · skip
        replace c3 := ti_eqN (a := x3) (b := (1 : Int32)) c3 rfl (show (1 : Int32).toInt = 1 from rfl)
        unfold f_X8_fitsFrom_157 at hf
        unfold f_X8_fitsFrom_158 at hf
        obtain ⟨-, hf⟩ := m_chkE hf
        cases hf
        try dsimp only
        refine ⟨Or.inl rfl, fun h => absurd h (by decide), fun h => ?_⟩
        exfalso
        have := h.1
        rw [← q3] at this
        omega
    · skip
      replace c2 := ti_eqN (a := (zI S 8 x0)) (b := (1 : Int32)) c2 rfl (show (1 : Int32).toInt = 1 from rfl)
      unfold f_X8_fitsFrom_126 at hf
      rcases m_ifE hf with ⟨c4, hf⟩ | ⟨c4, hf⟩
      · skip
        replace c4 := ti_eqP (a := x3) (b := (0 : Int32)) c4 rfl (show (0 : Int32).toInt = 0 from rfl)
        obtain ⟨g1, g2⟩ := ff_129 hT kb hm hM h2 e6 e7 hf
        exact ⟨g1, g2.trans ⟨fun h => ⟨by rw [← q3]; omega, h⟩, fun h => h.2⟩⟩
      · skip
        replace c4 := ti_eqN (a := x3) (b := (0 : Int32)) c4 rfl (show (0 : Int32).toInt = 0 from rfl)
        unfold f_X8_fitsFrom_157 at hf
        unfold f_X8_fitsFrom_158 at hf
        obtain ⟨-, hf⟩ := m_chkE hf
        cases hf
        try dsimp only
        refine ⟨Or.inl rfl, fun h => absurd h (by decide), fun h => ?_⟩
        exfalso
        have := h.1
        rw [← q3] at this
        omega
theorem ff_72 (hT : ZT S) (kb : zK S bb = 0) (hm : mCb S bb = m) (hM : MBd m) (h2 : 0 ≤ x2.toInt ∧ x2.toInt ≤ 63) (e3 : (zI S 3 x0).toInt = kd) (e4 : (zI S 4 x0).toInt = fl) (e6 : (zI S 6 x0).toInt = to) (hto : 0 ≤ to ∧ to ≤ 63) (e7 : (zI S 7 x0).toInt = bc) (e8 : (zI S 8 x0).toInt = tk) (htk : -1 ≤ tk ∧ tk ≤ 1) (hf : f_X8_fitsFrom_72 x0 bb x2 S = some o) : (o.1.toInt = 0 ∨ o.1.toInt = 1) ∧ (o.1.toInt = 1 ↔ ¬ (kd = 1 ∧ tkg m x2.toInt to ∧ fl = -1) ∧ (tk = -1 ∨ (tkg m x2.toInt to ↔ tk = 1)) ∧ ((m x2.toInt % 8 = 1 ∧ (to < 8 ∨ 56 ≤ to)) ↔ bc ≠ 0)) := by
  have z1 : (-1 : Int32).toInt = -1 := rfl
  have z0 : (0 : Int32).toInt = 0 := rfl
  unfold f_X8_fitsFrom_72 at hf
  obtain ⟨-, hf⟩ := m_chkE hf
  obtain ⟨-, hf⟩ := m_chkE hf
  obtain ⟨r1, h_r1, hf⟩ := m_calR hf (fun _ h => ro_X0_takes h)
  dsimp only at hf
  obtain ⟨-, b1, q1⟩ := ok_of (x_f_X0_takes (x2 := zI S 6 x0) hT kb h2 (by omega) (by rw [hm]; exact hM)) h_r1
  dsimp only at b1 q1
  rw [hm, e6] at q1
  obtain ⟨-, hf⟩ := m_chkE hf
  rcases m_ifE hf with ⟨c1, hf⟩ | ⟨c1, hf⟩
  · skip
    replace c1 := ti_eqP (a := (zI S 3 x0)) (b := (1 : Int32)) c1 rfl (show (1 : Int32).toInt = 1 from rfl)
    rcases m_ifE hf with ⟨c2, hf⟩ | ⟨c2, hf⟩
    · skip
      replace c2 := ti_eqP (a := r1) (b := (0 : Int32)) c2 rfl (show (0 : Int32).toInt = 0 from rfl)
      obtain ⟨g1, g2⟩ := ff_104 hT kb hm hM h2 e6 e7 e8 htk (by omega) q1 hf
      refine ⟨g1, g2.trans ⟨fun h => ⟨?_, h⟩, fun h => h.2⟩⟩
      rw [← q1]
      omega
    · skip
      replace c2 := ti_eqN (a := r1) (b := (0 : Int32)) c2 rfl (show (0 : Int32).toInt = 0 from rfl)
      obtain ⟨-, hf⟩ := m_chkE hf
      rcases m_ifE hf with ⟨c3, hf⟩ | ⟨c3, hf⟩
      · skip
        replace c3 := ti_eqP (a := (zI S 4 x0)) (b := (-1 : Int32)) c3 rfl (show (-1 : Int32).toInt = -1 from rfl)
        obtain ⟨-, hf⟩ := m_chkE hf
        cases hf
        try dsimp only
        refine ⟨Or.inl rfl, fun h => absurd h (by decide), fun h => ?_⟩
        exfalso
        have := h.1
        rw [← q1] at this
        omega
      · skip
        replace c3 := ti_eqN (a := (zI S 4 x0)) (b := (-1 : Int32)) c3 rfl (show (-1 : Int32).toInt = -1 from rfl)
        obtain ⟨g1, g2⟩ := ff_104 hT kb hm hM h2 e6 e7 e8 htk (by omega) q1 hf
        refine ⟨g1, g2.trans ⟨fun h => ⟨?_, h⟩, fun h => h.2⟩⟩
        rw [← q1]
        omega
  · skip
    replace c1 := ti_eqN (a := (zI S 3 x0)) (b := (1 : Int32)) c1 rfl (show (1 : Int32).toInt = 1 from rfl)
    obtain ⟨g1, g2⟩ := ff_104 hT kb hm hM h2 e6 e7 e8 htk (by omega) q1 hf
    refine ⟨g1, g2.trans ⟨fun h => ⟨?_, h⟩, fun h => h.2⟩⟩
    rw [← q1]
    omega
theorem ff_52 (hT : ZT S) (kb : zK S bb = 0) (hm : mCb S bb = m) (hM : MBd m) (h2 : 0 ≤ x2.toInt ∧ x2.toInt ≤ 63) (e3 : (zI S 3 x0).toInt = kd) (e4 : (zI S 4 x0).toInt = fl) (e5 : (zI S 5 x0).toInt = rk) (e6 : (zI S 6 x0).toInt = to) (hto : 0 ≤ to ∧ to ≤ 63) (e7 : (zI S 7 x0).toInt = bc) (e8 : (zI S 8 x0).toInt = tk) (htk : -1 ≤ tk ∧ tk ≤ 1) (hm2 : m x2.toInt = kd + 8 * sd) (ncs : ¬ cas m x2.toInt to) (hfl : fl = -1 ∨ fl = x2.toInt % 8) (hf : f_X8_fitsFrom_52 x0 bb x2 S = some o) : (o.1.toInt = 0 ∨ o.1.toInt = 1) ∧ (o.1.toInt = 1 ↔ m x2.toInt = kd + 8 * sd ∧ ¬ cas m x2.toInt to ∧ (fl = -1 ∨ fl = x2.toInt % 8) ∧ (rk = -1 ∨ rk = x2.toInt / 8) ∧ ¬ (kd = 1 ∧ tkg m x2.toInt to ∧ fl = -1) ∧ (tk = -1 ∨ (tkg m x2.toInt to ↔ tk = 1)) ∧ ((m x2.toInt % 8 = 1 ∧ (to < 8 ∨ 56 ≤ to)) ↔ bc ≠ 0)) := by
  have z1 : (-1 : Int32).toInt = -1 := rfl
  unfold f_X8_fitsFrom_52 at hf
  obtain ⟨-, hf⟩ := m_chkE hf
  rcases m_ifE hf with ⟨c1, hf⟩ | ⟨c1, hf⟩
  · skip
    replace c1 := ti_eqP (a := (zI S 5 x0)) (b := (-1 : Int32)) c1 rfl (show (-1 : Int32).toInt = -1 from rfl)
    obtain ⟨g1, g2⟩ := ff_72 hT kb hm hM h2 e3 e4 e6 hto e7 e8 htk hf
    exact ⟨g1, g2.trans ⟨fun h => ⟨hm2, ncs, hfl, Or.inl (by omega), h⟩, fun h => h.2.2.2.2⟩⟩
  · skip
    replace c1 := ti_eqN (a := (zI S 5 x0)) (b := (-1 : Int32)) c1 rfl (show (-1 : Int32).toInt = -1 from rfl)
    obtain ⟨-, hf⟩ := m_chkE hf
    obtain ⟨v1, e_v1, hf⟩ := m_bndE hf
    have t9 : v1.toInt = x2.toInt / 8 := b_sh3 e_v1 (by omega)
    rcases m_ifE hf with ⟨c2, hf⟩ | ⟨c2, hf⟩
    · skip
      replace c2 := ti_eqP (a := (zI S 5 x0)) (b := v1) c2 rfl rfl
      obtain ⟨g1, g2⟩ := ff_72 hT kb hm hM h2 e3 e4 e6 hto e7 e8 htk hf
      exact ⟨g1, g2.trans ⟨fun h => ⟨hm2, ncs, hfl, Or.inr (by omega), h⟩, fun h => h.2.2.2.2⟩⟩
    · skip
      replace c2 := ti_eqN (a := (zI S 5 x0)) (b := v1) c2 rfl rfl
      unfold f_X8_fitsFrom_70 at hf
      obtain ⟨-, hf⟩ := m_chkE hf
      cases hf
      try dsimp only
      exact ⟨Or.inl rfl, fun h => absurd h (by decide), fun h => by have := h.2.2.2.1; omega⟩
theorem p_fitsFrom (hT : ZT S) (kb : zK S bb = 0) (hpb : zP S 0 bb = some (bb + 1)) (hm : mCb S bb = m) (hM : MBd m) (hs : (zI S 3 bb).toInt = sd) (hs2 : sd = 0 ∨ sd = 1) (h2 : 0 ≤ x2.toInt ∧ x2.toInt ≤ 63) (e3 : (zI S 3 x0).toInt = kd) (hkd : 0 ≤ kd ∧ kd ≤ 6) (e4 : (zI S 4 x0).toInt = fl) (e5 : (zI S 5 x0).toInt = rk) (e6 : (zI S 6 x0).toInt = to) (hto : 0 ≤ to ∧ to ≤ 63) (e7 : (zI S 7 x0).toInt = bc) (e8 : (zI S 8 x0).toInt = tk) (htk : -1 ≤ tk ∧ tk ≤ 1) (hf : f_X8_fitsFrom x0 bb x2 S = some o) : (o.1.toInt = 0 ∨ o.1.toInt = 1) ∧ (o.1.toInt = 1 ↔ ftF m sd kd fl rk to bc tk x2.toInt) := by
  have hf : f_X8_fitsFrom_0 x0 bb x2 S = some o := hf
  have z1 : (-1 : Int32).toInt = -1 := rfl
  have z0 : (0 : Int32).toInt = 0 := rfl
  unfold ftF
  unfold f_X8_fitsFrom_0 at hf
  obtain ⟨-, hf⟩ := m_chkE hf
  replace hf := m_calY hf hpb
  obtain ⟨-, hf⟩ := m_chkE hf
  obtain ⟨-, hf⟩ := m_chkE hf
  obtain ⟨v2, e_v2, hf⟩ := m_bndE hf
  have q2 := mB_at (b := bb) hpb e_v2 (by omega) (by omega)
  rw [hm] at q2
  obtain ⟨-, hf⟩ := m_chkE hf
  obtain ⟨-, hf⟩ := m_chkE hf
  obtain ⟨v3, e_v3, hf⟩ := m_bndE hf
  have t_v3 : v3.toInt = 8 * (zI S 3 bb).toInt := ti_mul e_v3 (show (8 : Int32).toInt = 8 from rfl) rfl (by omega) (by omega)
  obtain ⟨v4, e_v4, hf⟩ := m_bndE hf
  have t_v4 : v4.toInt = (zI S 3 x0).toInt + v3.toInt := ti_add e_v4 rfl rfl (by omega) (by omega)
  rcases m_ifE hf with ⟨c1, hf⟩ | ⟨c1, hf⟩
  · skip
    replace c1 := ti_eqP (a := v2) (b := v4) c1 rfl rfl
    obtain ⟨-, hf⟩ := m_chkE hf
    obtain ⟨-, hf⟩ := m_chkE hf
    obtain ⟨r5, h_r5, hf⟩ := m_calR hf (fun _ h => ro_X0_castles h)
    dsimp only at hf
    obtain ⟨-, b5, q5⟩ := ok_of (x_f_X0_castles (x2 := zI S 6 x0) hT kb h2 (by omega) (by rw [hm]; exact hM)) h_r5
    dsimp only at b5 q5
    rw [hm, e6] at q5
    rcases m_ifE hf with ⟨c2, hf⟩ | ⟨c2, hf⟩
    · skip
      replace c2 := ti_eqP (a := r5) (b := (0 : Int32)) c2 rfl (show (0 : Int32).toInt = 0 from rfl)
      obtain ⟨-, hf⟩ := m_chkE hf
      rcases m_ifE hf with ⟨c3, hf⟩ | ⟨c3, hf⟩
      · skip
        replace c3 := ti_eqP (a := (zI S 4 x0)) (b := (-1 : Int32)) c3 rfl (show (-1 : Int32).toInt = -1 from rfl)
        exact ff_52 hT kb hm hM h2 e3 e4 e5 e6 hto e7 e8 htk (by omega) (fun h => by have := q5.2 h; omega) (Or.inl (by omega)) hf
      · skip
        replace c3 := ti_eqN (a := (zI S 4 x0)) (b := (-1 : Int32)) c3 rfl (show (-1 : Int32).toInt = -1 from rfl)
        obtain ⟨-, hf⟩ := m_chkE hf
        obtain ⟨v6, e_v6, hf⟩ := m_bndE hf
        have t9 : v6.toInt = x2.toInt % 8 := sq_7 e_v6 (by omega)
        rcases m_ifE hf with ⟨c4, hf⟩ | ⟨c4, hf⟩
        · skip
          replace c4 := ti_eqP (a := (zI S 4 x0)) (b := v6) c4 rfl rfl
          exact ff_52 hT kb hm hM h2 e3 e4 e5 e6 hto e7 e8 htk (by omega) (fun h => by have := q5.2 h; omega) (Or.inr (by omega)) hf
        · skip
          replace c4 := ti_eqN (a := (zI S 4 x0)) (b := v6) c4 rfl rfl
          unfold f_X8_fitsFrom_70 at hf
          obtain ⟨-, hf⟩ := m_chkE hf
          cases hf
          try dsimp only
          exact ⟨Or.inl rfl, fun h => absurd h (by decide), fun h => by have := h.2.2.1; omega⟩
    · skip
      replace c2 := ti_eqN (a := r5) (b := (0 : Int32)) c2 rfl (show (0 : Int32).toInt = 0 from rfl)
      unfold f_X8_fitsFrom_70 at hf
      obtain ⟨-, hf⟩ := m_chkE hf
      cases hf
      try dsimp only
      exact ⟨Or.inl rfl, fun h => absurd h (by decide), fun h => absurd (q5.1 (by omega)) h.2.1⟩
  · skip
    replace c1 := ti_eqN (a := v2) (b := v4) c1 rfl rfl
    unfold f_X8_fitsFrom_70 at hf
    obtain ⟨-, hf⟩ := m_chkE hf
    cases hf
    try dsimp only
    exact ⟨Or.inl rfl, fun h => absurd h (by decide), fun h => by have := h.1; omega⟩
end FFR
/-- the moves that the class gathers, by the square they come from -/
def AQn (m : Int → Int) (sd rt ps ko cs kd fl rk to bc tk : Int) (a : Nat) : Prop := askC m sd cs kd fl rk to bc tk (a : Int) ∧ rch m sd rt ps (a : Int) to ∧ safC m sd ps ko (a : Int) to bc
def mvA (to bc : Int) (a : Nat) : Int := (a : Int) + 64 * to + 4096 * bc
/-- the reader's fields -/
def FLD (S : ZS) (x0 : Nat) (cs kd fl rk to bc tk : Int) : Prop := (zI S 2 x0).toInt = cs ∧ (cs = 0 → (zI S 3 x0).toInt = kd ∧ (zI S 4 x0).toInt = fl ∧ (zI S 5 x0).toInt = rk ∧ (zI S 8 x0).toInt = tk) ∧ (zI S 6 x0).toInt = to ∧ (zI S 7 x0).toInt = bc
/-- a reader of signs with its parts: rules ru (with tb, ab), row rw, array fa -/
def SRr (S : ZS) (x0 ru rw fa tb ab bb : Nat) (m : Int → Int) (sd rt ps kw kb : Int) : Prop := CXr S ru tb ab bb m sd rt ps kw kb ∧ (zK S x0 = 8 ∧ zP S 0 x0 = some ru ∧ zP S 1 x0 = some rw ∧ zP S 10 x0 = some fa) ∧ (zK S rw = 6 ∧ rc rw = 1) ∧ (zK S fa = 14 ∧ zN S fa = 64) ∧ (zK S (tb + 1) = 14 ∧ zK S (ab + 1) = 14 ∧ zK S (bb + 1) = 14) ∧ (fa ≠ tb + 1 ∧ fa ≠ ab + 1 ∧ fa ≠ bb + 1)
section SRS
variable {S S1 S' : ZS} {x0 ru rw fa tb ab bb : Nat} {m : Int → Int} {sd rt ps kw kb : Int}
theorem sr_m (h : SRr S x0 ru rw fa tb ab bb m sd rt ps kw kb) (hT : ZT S') (hF : MTF S S' x0 rw tb ab fa) : SRr S' x0 ru rw fa tb ab bb m sd rt ps kw kb := by
  obtain ⟨⟨⟨-, ⟨a1, a2⟩, ⟨b1, b2⟩, ⟨c1, c2⟩, d, e, f, g1, g2, g3, g4, g5⟩, ⟨q1, q2, q3⟩, ⟨u1, u2⟩, l⟩, ⟨k8, p0, p1, p10⟩, ⟨k6, hr⟩, ⟨k14, n64⟩, ⟨t1, t2, t3⟩, ⟨y1, y2, y3⟩⟩ := h
  obtain ⟨h1, h2, h3, h4, h5, h6⟩ := hF
  have K : ∀ {a k : Nat}, zK S a = k → k < 18 → zK S' a = k := fun {a k} ha hk => by rw [(h1 a (by rw [ha]; exact hk)).1]; exact ha
  have nr : ∀ {a k : Nat}, zK S a = k → k ≠ 6 → a ≠ rw := fun {a k} ha hk e => by rw [e, k6] at ha; exact hk ha.symm
  have bx : bb ≠ x0 := fun e => by rw [e, k8] at c1; exact absurd c1 (by decide)
  have i : ∀ j, zI S' j bb = zI S j bb := fun j => h2 bb j (by rw [c1]; decide) bx (nr c1 (by decide)) d (fun e => u1 e.symm)
  have mb : mCb S' bb = m := (mB_e (h3 bb 0 (by rw [c1]; decide) (Or.inl (nr c1 (by decide)))) (fun c hc => by
    rw [c2] at hc
    cases hc
    exact h4 _ (by rw [t3]; decide) (by rw [t3]; decide) (by omega) (by omega) (fun e => y3 e.symm))).trans f
  refine ⟨⟨⟨hT, ⟨K a1 (by decide), by rw [h3 ru 0 (by rw [a1]; decide) (Or.inl (nr a1 (by decide)))]; exact a2⟩, ⟨K b1 (by decide), by rw [h3 tb 0 (by rw [b1]; decide) (Or.inl (nr b1 (by decide)))]; exact b2⟩, ⟨K c1 (by decide), by rw [h3 bb 0 (by rw [c1]; decide) (Or.inl (nr c1 (by decide)))]; exact c2⟩, d, ?_, mb, by rw [i]; exact g1, by rw [i]; exact g2, by rw [i]; exact g3, by rw [i]; exact g4, by rw [i]; exact g5⟩, ⟨by rw [h3 ru 1 (by rw [a1]; decide) (Or.inl (nr a1 (by decide)))]; exact q1, K q2 (by decide), by rw [h3 ab 0 (by rw [q2]; decide) (Or.inl (nr q2 (by decide)))]; exact q3⟩, ⟨u1, u2⟩, by rw [i]; exact l⟩, ⟨K k8 (by decide), by rw [h3 x0 0 (by rw [k8]; decide) (Or.inl (nr k8 (by decide)))]; exact p0, by rw [h3 x0 1 (by rw [k8]; decide) (Or.inl (nr k8 (by decide)))]; exact p1, by rw [h3 x0 10 (by rw [k8]; decide) (Or.inl (nr k8 (by decide)))]; exact p10⟩, ⟨K k6 (by decide), hr⟩, ⟨K k14 (by decide), by rw [(h1 fa (by rw [k14]; decide)).2]; exact n64⟩, ⟨K t1 (by decide), K t2 (by decide), K t3 (by decide)⟩, ⟨y1, y2, y3⟩⟩
  unfold BN
  rw [i, i]
  exact e
end SRS
section GTH
variable {S0 : ZS} {x0 ru rw fa tb ab bb : Nat} {m : Int → Int} {sd rt ps kw kb ko cs kd fl rk to bc tk : Int} {o : Int32 × ZS} {x2 : Int32}
/-- while the moves are gathered -/
def GTi (S0 S : ZS) (x0 ru rw fa tb ab bb : Nat) (m : Int → Int) (sd rt ps kw kb ko cs kd fl rk to bc tk : Int) (k : Nat) : Prop := SRr S x0 ru rw fa tb ab bb m sd rt ps kw kb ∧ MTF S0 S x0 rw tb ab fa ∧ FLD S x0 cs kd fl rk to bc tk ∧ zI S 9 x0 = zI S0 9 x0 ∧ (zI S 11 x0).toInt = (cnt (AQn m sd rt ps ko cs kd fl rk to bc tk) k : Int) ∧ LST (fun i => (zA S fa i).toInt) (AQn m sd rt ps ko cs kd fl rk to bc tk) (mvA to bc) k
theorem cnt_le {P : Nat → Prop} {n : Nat} : cnt P n ≤ n := by
  induction n with
  | zero => exact Nat.le_refl _
  | succ n ih =>
    by_cases h : P n
    · rw [cnt_y h]; omega
    · rw [cnt_n h]; omega
theorem lst_gap {l : Nat → Int} {P : Nat → Prop} {mv : Nat → Int} {k : Nat} (h : LST l P mv k) (hn : ¬ P k) : LST l P mv (k + 1) := fun key hk hp => by
  by_cases c : key = k
  · rw [c] at hp; exact absurd hp hn
  · exact h key (by omega) hp
theorem gt_155 {S : ZS} {x3 : Int32} {self38 : Nat → Nat → Int32 → Int32 → ZS → Option (Int32 × ZS)} {G : Int32 × ZS → Prop} (h3 : 0 ≤ x3.toInt ∧ x3.toInt < 64) (H : ∀ (v : Int32) (S : ZS), v.toInt = x3.toInt + 1 → GTi S0 S x0 ru rw fa tb ab bb m sd rt ps kw kb ko cs kd fl rk to bc tk (x3.toInt.toNat + 1) → self38 x0 bb x2 v S = some o → G o) (hG : GTi S0 S x0 ru rw fa tb ab bb m sd rt ps kw kb ko cs kd fl rk to bc tk (x3.toInt.toNat + 1)) (hf : f_X8_gather_155 self38 x0 bb x2 x3 S = some o) : G o := by
  unfold f_X8_gather_155 at hf
  obtain ⟨v1, e_v1, hf⟩ := m_bndE hf
  have t_v1 : v1.toInt = x3.toInt + 1 := ti_add e_v1 rfl (show (1 : Int32).toInt = 1 from rfl) (by omega) (by omega)
  exact H v1 S t_v1 hG hf
theorem gt_82 {S : ZS} {x3 t0 : Int32} {self38 : Nat → Nat → Int32 → Int32 → ZS → Option (Int32 × ZS)} {G : Int32 × ZS → Prop} (hko : ko = if sd = 0 then kw else kb) (hM : MBd m) (hr : 0 ≤ rt ∧ rt ≤ 15) (hto : 0 ≤ to ∧ to ≤ 63) (hbc : 0 ≤ bc ∧ bc ≤ 5) (h3 : 0 ≤ x3.toInt ∧ x3.toInt < 64) (H : ∀ (v : Int32) (S : ZS), v.toInt = x3.toInt + 1 → GTi S0 S x0 ru rw fa tb ab bb m sd rt ps kw kb ko cs kd fl rk to bc tk (x3.toInt.toNat + 1) → self38 x0 bb x2 v S = some o → G o) (hG : GTi S0 S x0 ru rw fa tb ab bb m sd rt ps kw kb ko cs kd fl rk to bc tk x3.toInt.toNat) (ht : t0.toInt = 0 ∨ t0.toInt = 1) (qt : t0.toInt = 1 ↔ askC m sd cs kd fl rk to bc tk x3.toInt) (hf : f_X8_gather_82 self38 x0 bb x2 x3 t0 S = some o) : G o := by
  obtain ⟨hS, hF, hL, h9, h11, hlst⟩ := id hG
  obtain ⟨l2, l3, l6, l7⟩ := id hL
  obtain ⟨hC, ⟨k8, p0, p1, p10⟩, ⟨k6, hrc⟩, ⟨k14, n64⟩, ⟨t1, t2, t3⟩, ⟨y1, y2, y3⟩⟩ := id hS
  obtain ⟨hB, -, -, -⟩ := id hC
  have hT := hB.1
  have en : ((x3.toInt.toNat : Nat) : Int) = x3.toInt := by omega
  have skp : ∀ Sq, SRr Sq x0 ru rw fa tb ab bb m sd rt ps kw kb → MTF S0 Sq x0 rw tb ab fa → FLD Sq x0 cs kd fl rk to bc tk → zI Sq 9 x0 = zI S0 9 x0 → zI Sq 11 x0 = zI S 11 x0 → zA Sq fa = zA S fa → ¬ AQn m sd rt ps ko cs kd fl rk to bc tk x3.toInt.toNat → f_X8_gather_155 self38 x0 bb x2 x3 Sq = some o → G o := by
    intro Sq a1 a2 a3 a4 a5 a6 hn hf
    refine gt_155 h3 H ⟨a1, a2, a3, a4, ?_, ?_⟩ hf
    · rw [a5, cnt_n hn]; exact h11
    · have := lst_gap hlst hn
      unfold LST at this ⊢
      rw [a6]
      exact this
  have z0 : (0 : Int32).toInt = 0 := rfl
  unfold f_X8_gather_82 at hf
  obtain ⟨-, hf⟩ := m_chkE hf
  obtain ⟨v1, e_v1, hf⟩ := m_bndE hf
  have t_v1 : v1.toInt = 64 * (zI S 6 x0).toInt := ti_mul e_v1 (show (64 : Int32).toInt = 64 from rfl) rfl (by omega) (by omega)
  obtain ⟨v2, e_v2, hf⟩ := m_bndE hf
  have t_v2 : v2.toInt = x3.toInt + v1.toInt := ti_add e_v2 rfl rfl (by omega) (by omega)
  obtain ⟨-, hf⟩ := m_chkE hf
  obtain ⟨v3, e_v3, hf⟩ := m_bndE hf
  have t_v3 : v3.toInt = 4096 * (zI S 7 x0).toInt := ti_mul e_v3 (show (4096 : Int32).toInt = 4096 from rfl) rfl (by omega) (by omega)
  obtain ⟨v4, e_v4, hf⟩ := m_bndE hf
  have t_v4 : v4.toInt = v2.toInt + v3.toInt := ti_add e_v4 rfl rfl (by omega) (by omega)
  rcases m_ifE hf with ⟨c1, hf⟩ | ⟨c1, hf⟩
  · skip
    replace c1 := ti_eqP (a := t0) (b := (0 : Int32)) c1 rfl (show (0 : Int32).toInt = 0 from rfl)
    exact skp S hS hF hL h9 rfl rfl (fun h => by have := qt.2 (by rw [← en]; exact h.1); omega) hf
  · skip
    replace c1 := ti_eqN (a := t0) (b := (0 : Int32)) c1 rfl (show (0 : Int32).toInt = 0 from rfl)
    obtain ⟨-, hf⟩ := m_chkE hf
    obtain ⟨-, hf⟩ := m_chkE hf
    obtain ⟨r5, h_r5, hf⟩ := m_calR hf (fun _ h => ro_X0_reaches h)
    dsimp only at hf
    obtain ⟨-, b5, q5⟩ := bx_reach hB hM hr (by omega) (by omega) h_r5
    rw [l6] at q5
    rcases m_ifE hf with ⟨c2, hf⟩ | ⟨c2, hf⟩
    · skip
      replace c2 := ti_eqP (a := r5) (b := (0 : Int32)) c2 rfl (show (0 : Int32).toInt = 0 from rfl)
      exact skp S hS hF hL h9 rfl rfl (fun h => by have := q5.2 (by rw [← en]; exact h.2.1); omega) hf
    · skip
      replace c2 := ti_eqN (a := r5) (b := (0 : Int32)) c2 rfl (show (0 : Int32).toInt = 0 from rfl)
      obtain ⟨-, hf⟩ := m_chkE hf
      replace hf := m_calY hf p0
      obtain ⟨-, hf⟩ := m_chkE hf
      obtain ⟨⟨r7, S7c⟩, h_r7, hf⟩ := m_calE hf
      dsimp only at hf
      obtain ⟨B7, s7, b7, q7⟩ := bx_safe hB hM (by omega) h_r7
      have hv4 : v4.toInt = x3.toInt + 64 * to + 4096 * bc := by omega
      rw [← hko, show v4.toInt % 64 = x3.toInt by omega, show v4.toInt / 64 % 64 = to by omega, show v4.toInt / 4096 = bc by omega] at q7
      have m7 : MTF S S7c x0 rw tb ab fa := mtf_s (sbt_l s7) hT t1 t2
      have S7r := sr_m hS B7.1 m7
      have p107 : zP S7c 10 x0 = some fa := S7r.2.1.2.2.2
      have nx0 : x0 ≠ tb := fun e => by have := hB.2.2.1.1; rw [← e, k8] at this; exact absurd this (by decide)
      have i7 : ∀ j, zI S7c j x0 = zI S j x0 := fun j => s7.2.2.1 j x0 nx0
      have L7 : FLD S7c x0 cs kd fl rk to bc tk := by unfold FLD; rw [i7, i7, i7, i7, i7, i7, i7]; exact hL
      have a7 : zA S7c fa = zA S fa := s7.2.2.2.1 fa y1
      rcases m_ifE hf with ⟨c3, hf⟩ | ⟨c3, hf⟩
      · skip
        replace c3 := ti_eqP (a := r7) (b := (0 : Int32)) c3 rfl (show (0 : Int32).toInt = 0 from rfl)
        exact skp S7c S7r (mtf_t hF m7) L7 (by rw [i7]; exact h9) (i7 11) a7 (fun h => by have := q7.2 (by rw [← en]; exact h.2.2); omega) hf
      · skip
        replace c3 := ti_eqN (a := r7) (b := (0 : Int32)) c3 rfl (show (0 : Int32).toInt = 0 from rfl)
        obtain ⟨-, hf⟩ := m_chkE hf
        replace hf := m_calY hf p107
        obtain ⟨-, hf⟩ := m_chkE hf
        obtain ⟨-, hf⟩ := m_chkE hf
        obtain ⟨-, hf⟩ := m_chkE hf
        obtain ⟨S9, e_S9, hf⟩ := m_bndE hf
        have k147 : zK S7c fa = 14 := S7r.2.2.2.1.1
        have T9 : ZT S9 := e_S9.symm ▸ zt_A B7.1 k147
        have m9 : MTF S7c S9 x0 rw tb ab fa := mtf_A e_S9 B7.1 k147
        have S9r := sr_m S7r T9 m9
        have i9 : zI S9 = zI S7c := by rw [e_S9]; rfl
        have hq : AQn m sd rt ps ko cs kd fl rk to bc tk x3.toInt.toNat := by
          unfold AQn
          rw [en]
          exact ⟨qt.1 (by omega), q5.1 (by omega), q7.1 (by omega)⟩
        have hlt : cnt (AQn m sd rt ps ko cs kd fl rk to bc tk) x3.toInt.toNat ≤ x3.toInt.toNat := cnt_le
        obtain ⟨-, hf⟩ := m_chkE hf
        obtain ⟨v10, e_v10, hf⟩ := m_bndE hf
        have t_v10 : v10.toInt = (cnt (AQn m sd rt ps ko cs kd fl rk to bc tk) x3.toInt.toNat : Int) + 1 := by
          have := ti_add (c := v10) (a := zI S9 11 x0) (b := 1) e_v10 rfl (show (1 : Int32).toInt = 1 from rfl) (by rw [i9, i7, h11]; omega) (by rw [i9, i7, h11]; omega)
          rw [this, i9, i7, h11]
        obtain ⟨-, hf⟩ := m_chkE hf
        obtain ⟨S11, e_S11, hf⟩ := m_bndE hf
        have k8' : zK S9 x0 = 8 := S9r.2.1.1
        have T11 : ZT S11 := e_S11.symm ▸ zt_I S9r.1.1.1 k8' (by decide) (show (0 : Int) ≤ v10.toInt ∧ v10.toInt ≤ (64 : Int) by omega)
        have x11 : SXf S9 S11 x0 := sx_I e_S11
        have m11 : MTF S9 S11 x0 rw tb ab fa := mtf_x x11
        have o11 : ∀ j, j ≠ 11 → zI S11 j x0 = zI S7c j x0 := fun j hj => by rw [e_S11, zI_j hj, i9]
        refine gt_155 h3 H ⟨sr_m S9r T11 m11, mtf_t (mtf_t (mtf_t hF m7) m9) m11, ?_, ?_, ?_, ?_⟩ hf
        · unfold FLD
          rw [o11 2 (by decide), o11 3 (by decide), o11 4 (by decide), o11 5 (by decide), o11 8 (by decide), o11 6 (by decide), o11 7 (by decide)]
          exact L7
        · rw [o11 9 (by decide), i7]; exact h9
        · rw [e_S11, zI_self, t_v10, cnt_y hq]
          omega
        · have nn : (zI S7c 11 x0).toNatClampNeg = cnt (AQn m sd rt ps ko cs kd fl rk to bc tk) x3.toInt.toNat := by
            show (zI S7c 11 x0).toInt.toNat = _
            rw [i7, h11]
            exact Int.toNat_natCast _
          have a11 : zA S11 fa = upd (zA S fa) (cnt (AQn m sd rt ps ko cs kd fl rk to bc tk) x3.toInt.toNat) v4 := by
            rw [x11.2.2.2.1, e_S9, ← nn, ← a7]
            exact va_up_self _ _ _
          intro key hk hp
          show (zA S11 fa _).toInt = _
          rw [a11]
          by_cases e : key = x3.toInt.toNat
          · rw [e, upd_self]
            unfold mvA
            rw [en]; exact hv4
          · have hlt2 := cnt_lt hp (show key < x3.toInt.toNat by omega)
            rw [upd_ne (by omega)]
            exact hlst key (by omega) hp
theorem gt_38 (hko : ko = if sd = 0 then kw else kb) (hM : MBd m) (hr : 0 ≤ rt ∧ rt ≤ 15) (hs2 : sd = 0 ∨ sd = 1) (hto : 0 ≤ to ∧ to ≤ 63) (hbc : 0 ≤ bc ∧ bc ≤ 5) (hkd : 0 ≤ kd ∧ kd ≤ 6) (htk : -1 ≤ tk ∧ tk ≤ 1) (hx2 : x2.toInt = 4 + 56 * sd) : ∀ (n : Nat) (x3 : Int32) (S : ZS), (0 ≤ x3.toInt ∧ x3.toInt ≤ 64) → GTi S0 S x0 ru rw fa tb ab bb m sd rt ps kw kb ko cs kd fl rk to bc tk x3.toInt.toNat → f_X8_gather_38 n x0 bb x2 x3 S = some o → GTi S0 o.2 x0 ru rw fa tb ab bb m sd rt ps kw kb ko cs kd fl rk to bc tk 64 := by
  intro n
  induction n with
  | zero => intro x3 S _ _ hf; cases hf
  | succ n ih =>
    intro x3 S h3 hG hf
    have hf : f_X8_gather_38s (f_X8_gather_38 n) x0 bb x2 x3 S = some o := hf
    obtain ⟨hS, hF, hL, h9, h11, hlst⟩ := id hG
    obtain ⟨l2, l3, l6, l7⟩ := id hL
    obtain ⟨hC, -, -, -, -, -⟩ := id hS
    obtain ⟨⟨hT, -, -, ⟨kb0, pb0⟩, -, hn, hm, g1, -⟩, -, -, -⟩ := id hC
    have H : x3.toInt < 64 → ∀ (v : Int32) (S : ZS), v.toInt = x3.toInt + 1 → GTi S0 S x0 ru rw fa tb ab bb m sd rt ps kw kb ko cs kd fl rk to bc tk (x3.toInt.toNat + 1) → f_X8_gather_38 n x0 bb x2 v S = some o → GTi S0 o.2 x0 ru rw fa tb ab bb m sd rt ps kw kb ko cs kd fl rk to bc tk 64 := fun hlt v S ev hG hf => ih v S (by omega) (by rw [show v.toInt.toNat = x3.toInt.toNat + 1 by omega]; exact hG) hf
    have z0 : (0 : Int32).toInt = 0 := rfl
    unfold f_X8_gather_38s at hf
    rcases m_ifE hf with ⟨c1, hf⟩ | ⟨c1, hf⟩
    · skip
      replace c1 := ti_leP (a := (64 : Int32)) (b := x3) c1 (show (64 : Int32).toInt = 64 from rfl) rfl
      cases hf
      try dsimp only
      have e : x3.toInt.toNat = 64 := by omega
      rw [e] at hG
      exact hG
    · skip
      replace c1 := ti_leN (a := (64 : Int32)) (b := x3) c1 (show (64 : Int32).toInt = 64 from rfl) rfl
      obtain ⟨-, hf⟩ := m_chkE hf
      rcases m_ifE hf with ⟨c2, hf⟩ | ⟨c2, hf⟩
      · skip
        replace c2 := ti_eqP (a := (zI S 2 x0)) (b := (0 : Int32)) c2 rfl (show (0 : Int32).toInt = 0 from rfl)
        obtain ⟨-, hf⟩ := m_chkE hf
        obtain ⟨r1, h_r1, hf⟩ := m_calR hf (fun _ h => ro_X8_fitsFrom h)
        dsimp only at hf
        obtain ⟨l30, l4, l5, l8⟩ := l3 (by omega)
        obtain ⟨b1, q1⟩ := p_fitsFrom hT kb0 pb0 hm hM g1 hs2 (by omega) l30 hkd l4 l5 l6 hto l7 l8 htk h_r1
        dsimp only at b1 q1
        refine gt_82 (G := fun o => GTi S0 o.2 x0 ru rw fa tb ab bb m sd rt ps kw kb ko cs kd fl rk to bc tk 64) hko hM hr hto hbc ⟨h3.1, by omega⟩ (H (by omega)) hG b1 ?_ hf
        rw [q1]
        unfold askC
        exact ⟨fun h => Or.inr ⟨by omega, h⟩, fun h => h.elim (fun g => by omega) (fun g => g.2)⟩
      · skip
        replace c2 := ti_eqN (a := (zI S 2 x0)) (b := (0 : Int32)) c2 rfl (show (0 : Int32).toInt = 0 from rfl)
        rcases m_ifE hf with ⟨c3, hf⟩ | ⟨c3, hf⟩
        · skip
          replace c3 := ti_eqP (a := x3) (b := x2) c3 rfl rfl
          obtain ⟨-, hf⟩ := m_chkE hf
          obtain ⟨-, hf⟩ := m_chkE hf
          obtain ⟨r2, h_r2, hf⟩ := m_calR hf (fun _ h => ro_X0_castles h)
          dsimp only at hf
          obtain ⟨-, b2, q2⟩ := ok_of (x_f_X0_castles (x2 := zI S 6 x0) hT kb0 (by omega) (by omega) (by rw [hm]; exact hM)) h_r2
          dsimp only at b2 q2
          rw [hm, l6] at q2
          rcases m_ifE hf with ⟨c4, hf⟩ | ⟨c4, hf⟩
          · skip
            replace c4 := ti_eqP (a := r2) (b := (0 : Int32)) c4 rfl (show (0 : Int32).toInt = 0 from rfl)
            unfold f_X8_gather_72 at hf
            refine gt_82 (G := fun o => GTi S0 o.2 x0 ru rw fa tb ab bb m sd rt ps kw kb ko cs kd fl rk to bc tk 64) hko hM hr hto hbc ⟨h3.1, by omega⟩ (H (by omega)) hG (Or.inl rfl) ⟨fun h => absurd h (by decide), fun h => ?_⟩ hf
            rcases h with ⟨-, -, g⟩ | ⟨g, -⟩
            · have := q2.2 g
              omega
            · omega
          · skip
            replace c4 := ti_eqN (a := r2) (b := (0 : Int32)) c4 rfl (show (0 : Int32).toInt = 0 from rfl)
            exact gt_82 (G := fun o => GTi S0 o.2 x0 ru rw fa tb ab bb m sd rt ps kw kb ko cs kd fl rk to bc tk 64) hko hM hr hto hbc ⟨h3.1, by omega⟩ (H (by omega)) hG (Or.inr rfl) ⟨fun _ => Or.inl ⟨by omega, by omega, q2.1 (by omega)⟩, fun _ => rfl⟩ hf
        · skip
          replace c3 := ti_eqN (a := x3) (b := x2) c3 rfl rfl
          unfold f_X8_gather_72 at hf
          refine gt_82 (G := fun o => GTi S0 o.2 x0 ru rw fa tb ab bb m sd rt ps kw kb ko cs kd fl rk to bc tk 64) hko hM hr hto hbc ⟨h3.1, by omega⟩ (H (by omega)) hG (Or.inl rfl) ⟨fun h => absurd h (by decide), fun h => ?_⟩ hf
          rcases h with ⟨-, g, -⟩ | ⟨g, -⟩ <;> omega
end GTH
