section RSF
variable {I : Nat → Int32} {A : Nat → Nat → Int32}
theorem mR_nA : mR (nA I A) = mR A := mR_fr (nA_o (by decide) (by decide))
/-- the reference's isSafe -/
theorem p_rSafe {x1 : Int32} {o : Int32 × MS} {sd k : Int} (hI : TJ I) (hA : TK A) (hx : 0 ≤ x1.toInt ∧ x1.toInt ≤ 24575) (hM : MBd (mR A)) (hn : (I 29).toInt ≤ 1999) (hs : (I 25).toInt = sd) (hs2 : sd = 0 ∨ sd = 1) (hk : KU (mkR (mR A) sd (x1.toInt % 64) (x1.toInt / 64 % 64) (x1.toInt / 4096)) sd k) (hM2 : MBd (mkR (mR A) sd (x1.toInt % 64) (x1.toInt / 64 % 64) (x1.toInt / 4096))) (hf : f_isSafe x1 I A = some o) : o.2 = (I, nA I A) ∧ (o.1.toInt = 0 ∨ o.1.toInt = 1) ∧ (o.1.toInt = 1 ↔ ¬ attd (mkR (mR A) sd (x1.toInt % 64) (x1.toInt / 64 % 64) (x1.toInt / 4096)) k (1 - sd)) := by
  unfold f_isSafe at hf
  obtain ⟨o1, h1, hf⟩ := m_clE hf
  cases hf
  refine ⟨rfl, ?_⟩
  show (o1.1.toInt = 0 ∨ o1.1.toInt = 1) ∧ (o1.1.toInt = 1 ↔ _)
  have h1 : f_isSafe_0 x1 I A = some o1 := h1
  unfold f_isSafe_0 at h1
  obtain ⟨ok, hk1, h1⟩ := m_clE h1
  have ek : ok = (0, (I, nA I A)) := by
    have : f_keep I A = some (0, (I, nA I A)) := rfl
    rw [this] at hk1
    exact (Option.some.inj hk1).symm
  subst ek
  have hA2 : TK (nA I A) := tk_nA hI hA
  obtain ⟨o2, h2, h1⟩ := m_clE h1
  obtain ⟨I2, A2, m2, -, -, -, s2⟩ := ok_of (x_make (nn := (I 29).toInt) (sd := sd) (TM := mkR (mR A) sd (x1.toInt % 64) (x1.toInt / 64 % 64) (x1.toInt / 4096)) hI hA2 hx (by rw [mR_nA]; exact hM) rfl rfl rfl (by rw [mR_nA]) ⟨rfl, hn, hs⟩) h2
  obtain ⟨v3, e3, h1⟩ := m_bndE h1
  have t3 : v3.toInt = sd := by
    have := ti_sub (c := v3) (a := 1) (b := o2.2.1 25) e3 (show (1 : Int32).toInt = 1 from rfl) s2 (by omega) (by omega)
    omega
  obtain ⟨o4, h4, h1⟩ := m_clE h1
  obtain ⟨s4, r4b, q4⟩ := ok_of (x_isInCheck (k := k) (x1 := v3) I2 A2 (by omega) (by rw [m2, t3]; exact hk) (by rw [m2]; exact hM2)) h4
  rw [m2, t3] at q4
  have z0 : (0 : Int32).toInt = 0 := rfl
  rcases m_ifE h1 with ⟨c, h1⟩ | ⟨c, h1⟩
  · unfold f_isSafe_27 at h1
    obtain ⟨ob, hb, h1⟩ := m_clE h1
    obtain ⟨-, h1⟩ := m_chkE h1
    cases h1
    refine ⟨Or.inr rfl, fun _ g => ?_, fun _ => rfl⟩
    have := q4.2 g
    rw [c] at this
    omega
  · unfold f_isSafe_27 at h1
    obtain ⟨ob, hb, h1⟩ := m_clE h1
    obtain ⟨-, h1⟩ := m_chkE h1
    cases h1
    refine ⟨Or.inl rfl, fun g => absurd (show (0 : Int32).toInt = 1 from g) (by decide), fun g => ?_⟩
    have h9 : o4.1.toInt ≠ 0 := fun h => c (Int32.toInt_inj.1 h)
    exact absurd (q4.1 (by omega)) g
end RSF
/-- the foe's attacks don't hang on which man of one's own stands on a square -/
theorem attd_own {m n : Int → Int} {t q w : Int} (he : ∀ s, s ≠ t → m s = n s) (h1 : m t ≠ 0 ∧ m t / 8 ≠ w) (h2 : n t ≠ 0 ∧ n t / 8 ≠ w) (h : attd m q w) : attd n q w := by
  obtain ⟨a, a1, a2, a3, a4, a5⟩ := h
  have hat : a ≠ t := fun e => by rw [e] at a4; exact h1.2 a4
  have ea := he a hat
  refine ⟨a, a1, a2, by rw [← ea]; exact a3, by rw [← ea]; exact a4, ?_⟩
  unfold attk at a5 ⊢
  rw [← ea]
  rcases a5 with g | g | g | ⟨g1, g2⟩
  · exact Or.inl g
  · exact Or.inr (Or.inl g)
  · exact Or.inr (Or.inr (Or.inl g))
  · refine Or.inr (Or.inr (Or.inr ⟨g1, fun j j1 j2 => ?_⟩))
    have g3 := g2 j j1 j2
    have hne : a + j * (sg (q % 8 - a % 8) + 8 * sg (q / 8 - a / 8)) ≠ t := fun e => by
      rw [e] at g3
      exact h1.1 g3
    rw [← he _ hne]
    exact g3
