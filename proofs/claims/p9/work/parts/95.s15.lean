theorem sr12 (x : Int32) : (x >>> ((12 : Int32) &&& 31)).toInt = x.toInt / 4096 := by
  show (x.toBitVec.sshiftRight 12).toInt = x.toBitVec.toInt / 4096
  rw [BitVec.toInt_sshiftRight, Int.shiftRight_eq_div_pow]
  rfl
/-- the key of a move -/
def kOf (x : Int) : Nat := ((x % 64).toNat * 64 + (x / 64 % 64).toNat) * 8 + (x / 4096).toNat
theorem kOf_e {x : Int} (h : 0 ≤ x ∧ x ≤ 24575) : kOf x < 32768 ∧ ((kOf x / 512 : Nat) : Int) = x % 64 ∧ ((kOf x / 8 % 64 : Nat) : Int) = x / 64 % 64 ∧ ((kOf x % 8 : Nat) : Int) = x / 4096 ∧ mvk (kOf x) = x := by
  obtain ⟨a1, a2, a3⟩ := key_e (a := (x % 64).toNat) (t := (x / 64 % 64).toNat) (p := (x / 4096).toNat) (by omega) (by omega)
  unfold mvk
  unfold kOf
  rw [a1, a2, a3]
  omega
theorem mvk_k {key : Nat} {x : Int} (hk : key < 32768) (hp : key % 8 ≤ 5) (e : mvk key = x) : (0 ≤ x ∧ x ≤ 24575) ∧ key = kOf x := by
  unfold mvk at e
  have h1 : x % 64 = ((key / 512 : Nat) : Int) := by omega
  have h2 : x / 64 % 64 = ((key / 8 % 64 : Nat) : Int) := by omega
  have h3 : x / 4096 = ((key % 8 : Nat) : Int) := by omega
  refine ⟨by omega, ?_⟩
  unfold kOf
  rw [h1, h2, h3, Int.toNat_natCast, Int.toNat_natCast, Int.toNat_natCast]
  omega
section ILG
variable {S S' : ZS} {x0 tb bb : Nat} {m : Int → Int} {sd rt ps kw kb ko : Int}
theorem lr_p5 {key : Nat} (h : LR m sd rt ps ko key) : key % 8 = 0 ∨ (2 ≤ key % 8 ∧ key % 8 ≤ 5) := by
  have := h.2.2
  unfold PRo at this
  omega
theorem p_isLegal {x2 y : Int32} (hB : BX S x0 tb bb m sd rt ps kw kb) (hP : POS m sd rt ps kw kb) (hko : ko = if sd = 0 then kw else kb) (hf : f_X7_isLegal x0 bb x2 S = some (y, S')) : BX S' x0 tb bb m sd rt ps kw kb ∧ SB S S' tb ∧ (y.toInt = 0 ∨ y.toInt = 1) ∧ (y.toInt = 1 ↔ ∃ key, key < 32768 ∧ LR m sd rt ps ko key ∧ mvk key = x2.toInt) := by
  have hf : f_X7_isLegal_0 x0 bb x2 S = some (y, S') := hf
  have z0 : (0 : Int32).toInt = 0 := rfl
  have z1 : (1 : Int32).toInt = 1 := rfl
  have z5 : (5 : Int32).toInt = 5 := rfl
  unfold f_X7_isLegal_0 at hf
  obtain ⟨v1, e1, hf⟩ := m_bndE hf
  obtain ⟨v2, e2, hf⟩ := m_bndE hf
  obtain ⟨v3, e3, hf⟩ := m_bndE hf
  obtain ⟨v4, e4, hf⟩ := m_bndE hf
  have s4 : v4.toInt = x2.toInt / 4096 := by rw [e4]; exact sr12 x2
  have no : (¬ ∃ key, key < 32768 ∧ LR m sd rt ps ko key ∧ mvk key = x2.toInt) → f_X7_isLegal_47 S = some (y, S') → BX S' x0 tb bb m sd rt ps kw kb ∧ SB S S' tb ∧ (y.toInt = 0 ∨ y.toInt = 1) ∧ (y.toInt = 1 ↔ ∃ key, key < 32768 ∧ LR m sd rt ps ko key ∧ mvk key = x2.toInt) := by
    intro hn hf
    unfold f_X7_isLegal_47 at hf
    obtain ⟨-, hf⟩ := m_chkE hf
    cases hf
    exact ⟨hB, sb_0, Or.inl rfl, fun h => absurd h (by decide), fun h => absurd h hn⟩
  have out : (v4.toInt < 0 ∨ v4.toInt = 1 ∨ 5 < v4.toInt) → ¬ ∃ key, key < 32768 ∧ LR m sd rt ps ko key ∧ mvk key = x2.toInt := by
    rintro hv ⟨key, k1, k2, k3⟩
    have k4 := lr_p5 k2
    obtain ⟨k5, k6⟩ := mvk_k k1 (by omega) k3
    obtain ⟨-, -, -, k7, -⟩ := kOf_e k5
    rw [← k6] at k7
    omega
  rcases m_ifE hf with ⟨c, hf⟩ | ⟨c, hf⟩
  · exact no (out (Or.inl (by have := ti_ltP (a := v4) (b := 0) c rfl rfl; omega))) hf
  · have c1 := ti_ltN (a := v4) (b := 0) c rfl rfl
    rcases m_ifE hf with ⟨d, hf⟩ | ⟨d, hf⟩
    · exact no (out (Or.inr (Or.inl (by rw [d]; rfl)))) hf
    · have d1 : v4.toInt ≠ 1 := fun h => d (Int32.toInt_inj.1 h)
      rcases m_ifE hf with ⟨f, hf⟩ | ⟨f, hf⟩
      · exact no (out (Or.inr (Or.inr (by have := ti_ltP (a := (5 : Int32)) (b := v4) f rfl rfl; omega)))) hf
      · have f1 := ti_ltN (a := (5 : Int32)) (b := v4) f rfl rfl
        have hx : 0 ≤ x2.toInt ∧ x2.toInt ≤ 24575 := by omega
        obtain ⟨t1, t3, -, t4⟩ := mv_bits hx e1 e2 e3 e4 rfl
        obtain ⟨k1, k2, k3, k4, k5⟩ := kOf_e hx
        -- the key of this move alone counts
        have one : (∃ key, key < 32768 ∧ LR m sd rt ps ko key ∧ mvk key = x2.toInt) ↔ (rch m sd rt ps v1.toInt v3.toInt ∧ safC m sd ps ko v1.toInt v3.toInt 0 ∧ PRo m v1.toInt v3.toInt v4.toInt) := by
          rw [t1, t3, t4, ← k2, ← k3, ← k4]
          constructor
          · rintro ⟨key, g1, g2, g3⟩
            have g4 := lr_p5 g2
            have g5 := (mvk_k g1 (by omega) g3).2
            rw [← g5]
            exact (lr_lc hP hko g1).1 g2
          · intro g
            exact ⟨kOf x2.toInt, k1, (lr_lc hP hko k1).2 g, k5⟩
        have hM := hP.2.1
        obtain ⟨-, hf⟩ := m_chkE hf
        obtain ⟨r5, h5, hf⟩ := m_calR hf (fun _ h => ro_X0_reaches h)
        obtain ⟨-, r5b, q5⟩ := bx_reach hB hM hP.2.2.2.2.2.2.1 (by omega) (by omega) h5
        dsimp only at r5b q5 hf
        rcases m_ifE hf with ⟨g, hf⟩ | ⟨g, hf⟩
        · refine no (fun h => ?_) hf
          have := q5.2 (one.1 h).1
          rw [g] at this
          omega
        · have hr := q5.1 (by have h9 : r5.toInt ≠ 0 := fun h => g (Int32.toInt_inj.1 h); omega)
          obtain ⟨-, hf⟩ := m_chkE hf
          obtain ⟨r6, h6, hf⟩ := m_calR hf (fun _ h => ro_X0_becomesAnother h)
          obtain ⟨-, r6b, q6⟩ := bx_another hB hM (by omega) h6
          dsimp only at r6b q6 hf
          have fin : ∀ {t0 : Int32}, (t0.toInt = 0 ∨ t0.toInt = 1) → (t0.toInt = 1 ↔ v4.toInt ≠ 0) → f_X7_isLegal_66 x0 bb x2 t0 r6 S = some (y, S') → BX S' x0 tb bb m sd rt ps kw kb ∧ SB S S' tb ∧ (y.toInt = 0 ∨ y.toInt = 1) ∧ (y.toInt = 1 ↔ ∃ key, key < 32768 ∧ LR m sd rt ps ko key ∧ mvk key = x2.toInt) := by
            intro t0 b0 ht0 hf
            unfold f_X7_isLegal_66 at hf
            rcases m_ifE hf with ⟨k, hf⟩ | ⟨k, hf⟩
            · have hpr : PRo m v1.toInt v3.toInt v4.toInt := by
                rw [k] at q6
                unfold PRo
                by_cases e0 : v4.toInt = 0
                · left
                  refine ⟨e0, fun h => ?_⟩
                  have := ht0.1 (q6.2 h)
                  exact this e0
                · right
                  have h9 := q6.1 (ht0.2 e0)
                  exact ⟨by clear one out no; omega, by clear one out no; omega, h9.1, h9.2⟩
              obtain ⟨-, hf⟩ := m_chkE hf
              obtain ⟨⟨r7, Sz⟩, h7, hf⟩ := m_calE hf
              obtain ⟨b7, sb7, r7b, q7⟩ := bx_safe hB hM hx h7
              dsimp only at hf
              rw [← hko, ← t1, ← t3, ← t4, saf_p hP (by omega) (by omega) hr hpr] at q7
              rcases m_ifE hf with ⟨l, hf⟩ | ⟨l, hf⟩
              · unfold f_X7_isLegal_82 f_X7_isLegal_83 at hf
                obtain ⟨-, hf⟩ := m_chkE hf
                cases hf
                refine ⟨b7, sb7, Or.inl rfl, fun h => absurd h (by decide), fun h => ?_⟩
                have := q7.2 (one.1 h).2.1
                rw [l] at this
                omega
              · unfold f_X7_isLegal_83 at hf
                obtain ⟨-, hf⟩ := m_chkE hf
                cases hf
                refine ⟨b7, sb7, Or.inr rfl, fun _ => one.2 ⟨hr, q7.1 (by have h9 : r7.toInt ≠ 0 := fun h => l (Int32.toInt_inj.1 h); clear one out no; omega), hpr⟩, fun _ => rfl⟩
            · unfold f_X7_isLegal_82 f_X7_isLegal_83 at hf
              obtain ⟨-, hf⟩ := m_chkE hf
              cases hf
              refine ⟨hB, sb_0, Or.inl rfl, fun h => absurd h (by decide), fun h => ?_⟩
              exfalso
              apply k
              apply Int32.toInt_inj.1
              have hpr := (one.1 h).2.2
              rcases hpr with ⟨e0, g0⟩ | ⟨e0, e1', g0, g1⟩
              · have a1 : r6.toInt ≠ 1 := fun h => g0 (q6.1 h)
                have a2 : t0.toInt ≠ 1 := fun h => ht0.1 h e0
                omega
              · have a1 := q6.2 ⟨g0, g1⟩
                have a2 := ht0.2 (by omega)
                omega
          rcases m_ifE hf with ⟨k, hf⟩ | ⟨k, hf⟩
          · have k0 : v4.toInt = 0 := by rw [k]; rfl
            exact fin (Or.inl rfl) ⟨fun h => absurd h (by decide), fun h => absurd k0 h⟩ hf
          · have k0 : v4.toInt ≠ 0 := fun h => k (Int32.toInt_inj.1 h)
            exact fin (Or.inr rfl) ⟨fun _ => k0, fun _ => rfl⟩ hf
end ILG
