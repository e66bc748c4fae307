/-- what the reference finds of other men -/
noncomputable def APo (I : Nat → Int32) (A : Nat → Nat → Int32) (P : PO) (a t : Int) (o2 : Int32 × MS) : Prop := ∃ y4 y5 y6 : Int32, (y4.toInt = 0 ∨ y4.toInt = 1) ∧ (y5.toInt = 0 ∨ y5.toInt = 1) ∧ (y6.toInt = 0 ∨ y6.toInt = 1) ∧ (y4.toInt = 1 ↔ ∃ i : Nat, (i : Int) < (I 33).toInt ∧ (fun y : Int => y % 64 ≠ a ∧ y / 64 % 64 = t ∧ om P (y % 64) % 8 = om P a % 8 ∧ True) (A 32 i).toInt) ∧ (y5.toInt = 1 ↔ ∃ i : Nat, (i : Int) < (I 33).toInt ∧ (fun y : Int => y % 64 ≠ a ∧ y / 64 % 64 = t ∧ om P (y % 64) % 8 = om P a % 8 ∧ y % 64 % 8 = a % 8) (A 32 i).toInt) ∧ (y6.toInt = 1 ↔ ∃ i : Nat, (i : Int) < (I 33).toInt ∧ (fun y : Int => y % 64 ≠ a ∧ y / 64 % 64 = t ∧ om P (y % 64) % 8 = om P a % 8 ∧ y % 64 / 8 = a / 8) (A 32 i).toInt) ∧ o2.1.toInt = (if y4.toInt = 0 then 0 else if y5.toInt = 0 then 1 else if y6.toInt = 0 then 2 else 3)
section VAP
variable {S S0 S' : ZS} {P : PO} {w : List Int} {x1 x2 x3 x4 x5 x6 x7 : Int32} {a t : Int} {I : Nat → Int32} {A : Nat → Nat → Int32} {o2 : Int32 × MS}
theorem ls_ex (hm : MVs I A P) {Q : Int → Prop} : (∃ i : Nat, (i : Int) < (I 33).toInt ∧ Q (A 32 i).toInt) ↔ ∃ key, key < 32768 ∧ LR (om P) (osd P) (ort P) (ops P) (oko P) key ∧ Q (mvk key) := by
  constructor
  · rintro ⟨k, k1, k2⟩
    obtain ⟨key, q1, q2, q3⟩ := cnt_sur (P := LR (om P) (osd P) (ort P) (ops P) (oko P)) (k := k) (N := 32768) (by have := hm.1; omega)
    refine ⟨key, q1, q2, ?_⟩
    have := hm.2 key q1 q2
    rw [q3] at this
    rw [← this]
    exact k2
  · rintro ⟨key, k1, k2, k3⟩
    refine ⟨cnt (LR (om P) (osd P) (ort P) (ops P) (oko P)) key, ?_, ?_⟩
    · have := cnt_lt k2 k1
      have := hm.1
      omega
    · have := hm.2 key k1 k2
      have this : (A 32 (cnt (LR (om P) (osd P) (ort P) (ops P) (oko P)) key)).toInt = mvk key := this
      rw [this]
      exact k3
theorem lm_key_of {b : Int} (pg : PGd P) (b0 : 0 ≤ b) (b1 : b < 64) (ht : 0 ≤ t ∧ t ≤ 63) (h3 : rch (om P) (osd P) (ort P) (ops P) b t) (h4 : safC (om P) (osd P) (ops P) (oko P) b t 0) (hk : om P b % 8 ≠ 1) : ∃ key, key < 32768 ∧ LR (om P) (osd P) (ort P) (ops P) (oko P) key ∧ mvk key = b + 64 * t := by
  obtain ⟨bn, rfl⟩ : ∃ bn : Nat, b = (bn : Int) := ⟨b.toNat, by omega⟩
  obtain ⟨tm, rfl⟩ : ∃ tm : Nat, t = (tm : Int) := ⟨t.toNat, by omega⟩
  have q := (lgm_k (a := bn) (t := tm) (p := 0) pg rfl (by omega) (by omega) (by decide)).2 ⟨h3, h4, Or.inl ⟨rfl, fun e => hk e.1⟩⟩
  have e := mvk_e (a := bn) (t := tm) (p := 0) (by omega) (by omega) (by decide)
  exact ⟨_, by omega, q, by rw [e]; omega⟩
/-- the other men, out of the list of moves -/
theorem ap_key (pg : PGd P) (hk : om P a % 8 ≠ 1) (ha : 0 ≤ a ∧ a ≤ 63) (ht : 0 ≤ t ∧ t ≤ 63) (hme : om P a ≠ 0 ∧ om P a / 8 = osd P) {G : Int → Prop} : (∃ key, key < 32768 ∧ LR (om P) (osd P) (ort P) (ops P) (oko P) key ∧ (mvk key % 64 ≠ a ∧ mvk key / 64 % 64 = t ∧ om P (mvk key % 64) % 8 = om P a % 8 ∧ G (mvk key % 64))) ↔ ∃ b, 0 ≤ b ∧ b < 64 ∧ OTh P a t b ∧ G b := by
  constructor
  · rintro ⟨key, k1, k2, k3, k4, k5, k6⟩
    obtain ⟨⟨g0, g1, g2, g3⟩, e1, e2, e3⟩ := lg_key pg rfl k1 k2
    have hp0 : mvk key / 4096 = 0 := by
      unfold PRo at g2
      rw [k5] at g2
      rcases g2 with ⟨h, -⟩ | ⟨-, -, h, -⟩
      · exact h
      · exact absurd h hk
    rw [hp0, k4] at g3
    rw [k4] at g1
    refine ⟨mvk key % 64, by omega, by omega, ⟨k3, ?_, g1, g3⟩, k6⟩
    have := g1.1.2
    omega
  · rintro ⟨b, b0, b1, ⟨h1, h2, h3, h4⟩, h5⟩
    have ek := lm_key_of pg b0 b1 ht h3 h4 (by rw [h2]; exact hk)
    obtain ⟨key, q1, q2, q3⟩ := ek
    refine ⟨key, q1, q2, ?_⟩
    have e1 : mvk key % 64 = b := by omega
    have e2 : mvk key / 64 % 64 = t := by omega
    rw [e1, e2]
    exact ⟨h1, rfl, by rw [h2], h5⟩
/-- how the reference tells men apart -/
theorem va_46 (hI : TJ I) (hA : TK A) (hm : mR A = om P) (hM : MBd (om P)) (h1 : 0 ≤ x1.toInt ∧ x1.toInt ≤ 24575) (h2 : x2.toInt = a) (ha : 0 ≤ a ∧ a ≤ 63) (ht : x1.toInt / 64 % 64 = t) (h3 : x3.toInt = om P a % 8) : ∀ (n : Nat) (x4 x5 x6 x7 : Int32), (0 ≤ x7.toInt ∧ x7.toInt ≤ (I 33).toInt) → (x4.toInt = 0 ∨ x4.toInt = 1) → (x5.toInt = 0 ∨ x5.toInt = 1) → (x6.toInt = 0 ∨ x6.toInt = 1) → (x4.toInt = 1 ↔ ∃ i : Nat, (i : Int) < x7.toInt ∧ (fun y : Int => y % 64 ≠ a ∧ y / 64 % 64 = t ∧ om P (y % 64) % 8 = om P a % 8 ∧ True) (A 32 i).toInt) → (x5.toInt = 1 ↔ ∃ i : Nat, (i : Int) < x7.toInt ∧ (fun y : Int => y % 64 ≠ a ∧ y / 64 % 64 = t ∧ om P (y % 64) % 8 = om P a % 8 ∧ y % 64 % 8 = a % 8) (A 32 i).toInt) → (x6.toInt = 1 ↔ ∃ i : Nat, (i : Int) < x7.toInt ∧ (fun y : Int => y % 64 ≠ a ∧ y / 64 % 64 = t ∧ om P (y % 64) % 8 = om P a % 8 ∧ y % 64 / 8 = a / 8) (A 32 i).toInt) → f_apartOf_46 n x1 x2 x3 x4 x5 x6 x7 I A = some o2 → APo I A P a t o2 := by
  have b33 : 0 ≤ (I 33).toInt ∧ (I 33).toInt ≤ 2048 := hI 33
  have z0 : (0 : Int32).toInt = 0 := rfl
  have z1 : (1 : Int32).toInt = 1 := rfl
  have z8 : (8 : Int32).toInt = 8 := rfl
  have z64 : (64 : Int32).toInt = 64 := rfl
  have exs : ∀ {Q : Int → Prop} {k : Int}, 0 ≤ k → ((∃ i : Nat, (i : Int) < k + 1 ∧ Q (A 32 i).toInt) ↔ ((∃ i : Nat, (i : Int) < k ∧ Q (A 32 i).toInt) ∨ Q (A 32 k.toNat).toInt)) := fun {Q k} hk => by
    constructor
    · rintro ⟨i, i1, hi⟩
      by_cases e : (i : Int) < k
      · exact Or.inl ⟨i, e, hi⟩
      · have : i = k.toNat := by omega
        rw [this] at hi
        exact Or.inr hi
    · rintro (⟨i, i1, hi⟩ | h)
      · exact ⟨i, by omega, hi⟩
      · exact ⟨k.toNat, by omega, h⟩
  intro n
  induction n with
  | zero => intro x4 x5 x6 x7 _ _ _ _ _ _ _ hf; cases hf
  | succ n ih =>
    intro x4 x5 x6 x7 hx b4 b5 b6 q4 q5 q6 hf
    have hf : f_apartOf_46s (f_apartOf_46 n) x1 x2 x3 x4 x5 x6 x7 I A = some o2 := hf
    unfold f_apartOf_46s at hf
    rcases m_ifE hf with ⟨d, hf⟩ | ⟨d, hf⟩
    · replace d := ti_leP (a := I 33) (b := x7) d rfl rfl
      have e7 : x7.toInt = (I 33).toInt := by omega
      rw [e7] at q4 q5 q6
      refine ⟨x4, x5, x6, b4, b5, b6, q4, q5, q6, ?_⟩
      have r195 : ∀ {t0 : Int32}, f_apartOf_195 t0 I A = some o2 → o2.1 = t0 := fun hh => by
        unfold f_apartOf_195 at hh
        cases hh
        rfl
      rcases m_ifE hf with ⟨d4, hf⟩ | ⟨d4, hf⟩
      · rw [if_pos (by rw [d4]; rfl), r195 hf]; rfl
      · rw [if_neg (fun e => d4 (i32_of e))]
        rcases m_ifE hf with ⟨d5, hf⟩ | ⟨d5, hf⟩
        · rw [if_pos (by rw [d5]; rfl), r195 hf]; rfl
        · rw [if_neg (fun e => d5 (i32_of e))]
          rcases m_ifE hf with ⟨d6, hf⟩ | ⟨d6, hf⟩
          · rw [if_pos (by rw [d6]; rfl), r195 hf]; rfl
          · rw [if_neg (fun e => d6 (i32_of e)), r195 hf]; rfl
    · replace d := ti_leN (a := I 33) (b := x7) d rfl rfl
      obtain ⟨-, hf⟩ := m_chkE hf
      obtain ⟨v1, g1, hf⟩ := m_bndE hf
      rw [cl_n (n := x7.toInt.toNat) (by omega)] at g1
      have bv : 0 ≤ v1.toInt ∧ v1.toInt ≤ 24575 := by rw [g1]; exact hA 32 _
      have s4 := exs (Q := fun y : Int => y % 64 ≠ a ∧ y / 64 % 64 = t ∧ om P (y % 64) % 8 = om P a % 8 ∧ True) hx.1
      have s5 := exs (Q := fun y : Int => y % 64 ≠ a ∧ y / 64 % 64 = t ∧ om P (y % 64) % 8 = om P a % 8 ∧ y % 64 % 8 = a % 8) hx.1
      have s6 := exs (Q := fun y : Int => y % 64 ≠ a ∧ y / 64 % 64 = t ∧ om P (y % 64) % 8 = om P a % 8 ∧ y % 64 / 8 = a / 8) hx.1
      rw [← g1] at s4 s5 s6
      have nxt : ∀ {x4 x5 x6 : Int32}, (x4.toInt = 0 ∨ x4.toInt = 1) → (x5.toInt = 0 ∨ x5.toInt = 1) → (x6.toInt = 0 ∨ x6.toInt = 1) → (x4.toInt = 1 ↔ ∃ i : Nat, (i : Int) < x7.toInt + 1 ∧ (fun y : Int => y % 64 ≠ a ∧ y / 64 % 64 = t ∧ om P (y % 64) % 8 = om P a % 8 ∧ True) (A 32 i).toInt) → (x5.toInt = 1 ↔ ∃ i : Nat, (i : Int) < x7.toInt + 1 ∧ (fun y : Int => y % 64 ≠ a ∧ y / 64 % 64 = t ∧ om P (y % 64) % 8 = om P a % 8 ∧ y % 64 % 8 = a % 8) (A 32 i).toInt) → (x6.toInt = 1 ↔ ∃ i : Nat, (i : Int) < x7.toInt + 1 ∧ (fun y : Int => y % 64 ≠ a ∧ y / 64 % 64 = t ∧ om P (y % 64) % 8 = om P a % 8 ∧ y % 64 / 8 = a / 8) (A 32 i).toInt) → f_apartOf_161 (f_apartOf_46 n) x1 x2 x3 x4 x5 x6 x7 I A = some o2 → APo I A P a t o2 := fun {x4 x5 x6} b4 b5 b6 q4 q5 q6 hh => by
        unfold f_apartOf_161 at hh
        obtain ⟨w1, k1, hh⟩ := m_bndE hh
        have u1 : w1.toInt = x7.toInt + 1 := ti_add k1 rfl z1 (by omega) (by omega)
        exact ih x4 x5 x6 w1 (by omega) b4 b5 b6 (by rw [u1]; exact q4) (by rw [u1]; exact q5) (by rw [u1]; exact q6) hh
      have no : ¬ (v1.toInt % 64 ≠ a ∧ v1.toInt / 64 % 64 = t ∧ om P (v1.toInt % 64) % 8 = om P a % 8) → f_apartOf_161 (f_apartOf_46 n) x1 x2 x3 x4 x5 x6 x7 I A = some o2 → APo I A P a t o2 := fun hno hh =>
        nxt b4 b5 b6 (q4.trans ⟨fun e => s4.2 (Or.inl e), fun e => (s4.1 e).resolve_right (fun g => hno ⟨g.1, g.2.1, g.2.2.1⟩)⟩) (q5.trans ⟨fun e => s5.2 (Or.inl e), fun e => (s5.1 e).resolve_right (fun g => hno ⟨g.1, g.2.1, g.2.2.1⟩)⟩) (q6.trans ⟨fun e => s6.2 (Or.inl e), fun e => (s6.1 e).resolve_right (fun g => hno ⟨g.1, g.2.1, g.2.2.1⟩)⟩) hh
      obtain ⟨v2, g2, hf⟩ := m_bndE hf
      have u2 : v2.toInt = v1.toInt % 64 := ti_rem g2 rfl z64 (by omega) (by decide)
      rcases m_ifE hf with ⟨d2, hf⟩ | ⟨d2, hf⟩
      · replace d2 := ti_eqP (a := v2) (b := x2) d2 rfl rfl
        exact no (fun e => e.1 (by omega)) hf
      · replace d2 := ti_eqN (a := v2) (b := x2) d2 rfl rfl
        obtain ⟨-, hf⟩ := m_chkE hf
        obtain ⟨v3, g3, hf⟩ := m_bndE hf
        rw [cl_n (n := x7.toInt.toNat) (by omega), ← g1] at g3
        obtain ⟨v4, g4, hf⟩ := m_bndE hf
        obtain ⟨v5, g5, hf⟩ := m_bndE hf
        obtain ⟨v6, g6, hf⟩ := m_bndE hf
        obtain ⟨v7, g7, hf⟩ := m_bndE hf
        have u4 : v4.toInt = v3.toInt / 64 := ti_div g4 rfl z64 (by rw [g3]; omega) (by decide)
        rw [g3] at u4
        have u5 : v5.toInt = v4.toInt % 64 := ti_rem g5 rfl z64 (by omega) (by decide)
        have u6 : v6.toInt = x1.toInt / 64 := ti_div g6 rfl z64 (by omega) (by decide)
        have u7 : v7.toInt = v6.toInt % 64 := ti_rem g7 rfl z64 (by omega) (by decide)
        rcases m_ifE hf with ⟨d3, hf⟩ | ⟨d3, hf⟩
        · replace d3 := ti_eqP (a := v5) (b := v7) d3 rfl rfl
          obtain ⟨-, hf⟩ := m_chkE hf
          obtain ⟨v8, g8, hf⟩ := m_bndE hf
          have u8 := mR_at g8 (by omega) (by omega)
          rw [hm, u2] at u8
          have b8 := hM (v1.toInt % 64)
          obtain ⟨⟨r9, Ic9, Ac9⟩, h_9, hf⟩ := m_clE hf
          have e9 := rro_kind h_9
          have i9 : Ic9 = I := congrArg Prod.fst e9
          have a9 : Ac9 = A := congrArg Prod.snd e9
          have u9 := pc_kind h_9 hI hA (by omega)
          dsimp only at u9 hf
          rw [i9, a9] at hf
          rcases m_ifE hf with ⟨d9, hf⟩ | ⟨d9, hf⟩
          · replace d9 := ti_eqP (a := r9) (b := x3) d9 rfl rfl
            have yes : v1.toInt % 64 ≠ a ∧ v1.toInt / 64 % 64 = t ∧ om P (v1.toInt % 64) % 8 = om P a % 8 := ⟨by omega, by omega, by omega⟩
            have o4 : ((1 : Int32).toInt = 1 ↔ ∃ i : Nat, (i : Int) < x7.toInt + 1 ∧ (fun y : Int => y % 64 ≠ a ∧ y / 64 % 64 = t ∧ om P (y % 64) % 8 = om P a % 8 ∧ True) (A 32 i).toInt) := ⟨fun _ => s4.2 (Or.inr ⟨yes.1, yes.2.1, yes.2.2, trivial⟩), fun _ => rfl⟩
            have rk : ∀ t0 : Int32, (t0.toInt = 0 ∨ t0.toInt = 1) → (t0.toInt = 1 ↔ ∃ i : Nat, (i : Int) < x7.toInt + 1 ∧ (fun y : Int => y % 64 ≠ a ∧ y / 64 % 64 = t ∧ om P (y % 64) % 8 = om P a % 8 ∧ y % 64 % 8 = a % 8) (A 32 i).toInt) → f_apartOf_135 (f_apartOf_46 n) x1 x2 x3 1 x6 x7 v2 t0 I A = some o2 → APo I A P a t o2 := fun t0 b0 l0 hh => by
              unfold f_apartOf_135 at hh
              rcases m_ifE hh with ⟨dc, hh⟩ | ⟨dc, hh⟩
              · have dc' : x6.toInt = 0 := by rw [dc]; rfl
                obtain ⟨w1, k1, hh⟩ := m_bndE hh
                obtain ⟨w2, k2, hh⟩ := m_bndE hh
                have y1 : w1.toInt = v2.toInt / 8 := ti_div k1 rfl z8 (by omega) (by decide)
                have y2 : w2.toInt = x2.toInt / 8 := ti_div k2 rfl z8 (by omega) (by decide)
                rcases m_ifE hh with ⟨dd, hh⟩ | ⟨dd, hh⟩
                · replace dd := ti_eqP (a := w1) (b := w2) dd rfl rfl
                  unfold f_apartOf_154 f_apartOf_159 at hh
                  exact nxt (Or.inr rfl) b0 (Or.inr rfl) o4 l0 ⟨fun _ => s6.2 (Or.inr ⟨yes.1, yes.2.1, yes.2.2, by omega⟩), fun _ => rfl⟩ hh
                · replace dd := ti_eqN (a := w1) (b := w2) dd rfl rfl
                  unfold f_apartOf_159 at hh
                  refine nxt (Or.inr rfl) b0 (Or.inl rfl) o4 l0 ⟨fun e => absurd e (by decide), fun e => ?_⟩ hh
                  rcases s6.1 e with e | e
                  · have := q6.2 e
                    omega
                  · have := e.2.2.2
                    omega
              · have dc' : x6.toInt = 1 := by
                  rcases b6 with b | b
                  · exact absurd (i32_of b) dc
                  · exact b
                unfold f_apartOf_154 f_apartOf_159 at hh
                exact nxt (Or.inr rfl) b0 (Or.inr rfl) o4 l0 ⟨fun _ => s6.2 (Or.inl (q6.1 dc')), fun _ => rfl⟩ hh
            rcases m_ifE hf with ⟨dc, hf⟩ | ⟨dc, hf⟩
            · have dc' : x5.toInt = 0 := by rw [dc]; rfl
              obtain ⟨w1, k1, hf⟩ := m_bndE hf
              obtain ⟨w2, k2, hf⟩ := m_bndE hf
              have y1 : w1.toInt = v2.toInt % 8 := ti_rem k1 rfl z8 (by omega) (by decide)
              have y2 : w2.toInt = x2.toInt % 8 := ti_rem k2 rfl z8 (by omega) (by decide)
              rcases m_ifE hf with ⟨dd, hf⟩ | ⟨dd, hf⟩
              · replace dd := ti_eqP (a := w1) (b := w2) dd rfl rfl
                unfold f_apartOf_130 at hf
                exact rk 1 (Or.inr rfl) ⟨fun _ => s5.2 (Or.inr ⟨yes.1, yes.2.1, yes.2.2, by omega⟩), fun _ => rfl⟩ hf
              · replace dd := ti_eqN (a := w1) (b := w2) dd rfl rfl
                refine rk 0 (Or.inl rfl) ⟨fun e => absurd e (by decide), fun e => ?_⟩ hf
                rcases s5.1 e with e | e
                · have := q5.2 e
                  omega
                · have := e.2.2.2
                  omega
            · have dc' : x5.toInt = 1 := by
                rcases b5 with b | b
                · exact absurd (i32_of b) dc
                · exact b
              unfold f_apartOf_130 at hf
              exact rk 1 (Or.inr rfl) ⟨fun _ => s5.2 (Or.inl (q5.1 dc')), fun _ => rfl⟩ hf
          · replace d9 := ti_eqN (a := r9) (b := x3) d9 rfl rfl
            exact no (fun e => by have := e.2.2; omega) hf
        · replace d3 := ti_eqN (a := v5) (b := v7) d3 rfl rfl
          exact no (fun e => by have := e.2.1; omega) hf
theorem v_apartOf (hR : RIt I A) (qs : QS I A P) (pg : PGd P) (LG : LGo P x1.toInt) (hf : f_apartOf x1 I A = some o2) : o2.1.toInt = apW P x1.toInt := by
  have hI := hR.1
  have hA := hR.2.1
  have hm := qs.1.1
  have hM := pg.2.1
  have hxb := LG.1
  have hme := LG.2.1.1
  have z0 : (0 : Int32).toInt = 0 := rfl
  have z64 : (64 : Int32).toInt = 64 := rfl
  have hf : f_apartOf_0 x1 I A = some o2 := hf
  unfold f_apartOf_0 at hf
  obtain ⟨v1, g1, hf⟩ := m_bndE hf
  have u1 : v1.toInt = x1.toInt % 64 := ti_rem g1 rfl z64 (by omega) (by decide)
  obtain ⟨-, hf⟩ := m_chkE hf
  obtain ⟨v2, g2, hf⟩ := m_bndE hf
  have u2 := mR_at g2 (by omega) (by omega)
  rw [hm, u1] at u2
  have b2 := hM (x1.toInt % 64)
  obtain ⟨⟨r3, Ic3, Ac3⟩, h_3, hf⟩ := m_clE hf
  have e3 := rro_kind h_3
  have i3 : Ic3 = I := congrArg Prod.fst e3
  have a3 : Ac3 = A := congrArg Prod.snd e3
  have u3 := pc_kind h_3 hI hA (by omega)
  dsimp only at u3 hf
  rw [i3, a3] at hf
  rw [u2] at u3
  unfold apW
  rcases m_ifE hf with ⟨d, hf⟩ | ⟨d, hf⟩
  · replace d := ti_eqP (a := r3) (b := (1 : Int32)) d rfl (show (1 : Int32).toInt = 1 from rfl)
    rw [if_pos (by omega)]
    obtain ⟨⟨r4, Ic4, Ac4⟩, h_4, hf⟩ := m_clE hf
    obtain ⟨-, b4, q4⟩ := ok_of (x_isTaking hI hA hxb (by rw [hm]; exact hM)) h_4
    dsimp only at b4 q4 hf
    rw [hm] at q4
    have tk : r4.toInt = tkV P (x1.toInt % 64) (x1.toInt / 64 % 64) := by
      unfold tkV
      by_cases e : tkg (om P) (x1.toInt % 64) (x1.toInt / 64 % 64)
      · rw [if_pos e]; exact q4.2 e
      · rw [if_neg e]
        have : r4.toInt ≠ 1 := fun h => e (q4.1 h)
        omega
    rcases m_ifE hf with ⟨d4, hf⟩ | ⟨d4, hf⟩
    · unfold f_apartOf_33 at hf
      cases hf
      rw [← tk, d4]
    · unfold f_apartOf_33 at hf
      cases hf
      rw [← tk]
      have : r4.toInt ≠ 0 := fun e => d4 (i32_of e)
      show (1 : Int32).toInt = r4.toInt
      have z1 : (1 : Int32).toInt = 1 := rfl
      omega
  · replace d := ti_eqN (a := r3) (b := (1 : Int32)) d rfl (show (1 : Int32).toInt = 1 from rfl)
    rw [if_neg (by omega)]
    have b33 : 0 ≤ (I 33).toInt ∧ (I 33).toInt ≤ 2048 := hI 33
    have hk : om P (x1.toInt % 64) % 8 ≠ 1 := by omega
    have ra : 0 ≤ x1.toInt % 64 ∧ x1.toInt % 64 ≤ 63 := by omega
    have rt : 0 ≤ x1.toInt / 64 % 64 ∧ x1.toInt / 64 % 64 ≤ 63 := by omega
    have K4 := (ls_ex (Q := fun y : Int => y % 64 ≠ x1.toInt % 64 ∧ y / 64 % 64 = x1.toInt / 64 % 64 ∧ om P (y % 64) % 8 = om P (x1.toInt % 64) % 8 ∧ True) qs.2).trans (ap_key pg hk ra rt hme (G := fun _ => True))
    have K5 := (ls_ex (Q := fun y : Int => y % 64 ≠ x1.toInt % 64 ∧ y / 64 % 64 = x1.toInt / 64 % 64 ∧ om P (y % 64) % 8 = om P (x1.toInt % 64) % 8 ∧ y % 64 % 8 = x1.toInt % 64 % 8) qs.2).trans (ap_key pg hk ra rt hme (G := fun b => b % 8 = x1.toInt % 64 % 8))
    have K6 := (ls_ex (Q := fun y : Int => y % 64 ≠ x1.toInt % 64 ∧ y / 64 % 64 = x1.toInt / 64 % 64 ∧ om P (y % 64) % 8 = om P (x1.toInt % 64) % 8 ∧ y % 64 / 8 = x1.toInt % 64 / 8) qs.2).trans (ap_key pg hk ra rt hme (G := fun b => b / 8 = x1.toInt % 64 / 8))
    obtain ⟨y4, y5, y6, c4, c5, c6, l4, l5, l6, ev⟩ := va_46 (P := P) (a := x1.toInt % 64) (t := x1.toInt / 64 % 64) hI hA hm hM hxb u1 ra rfl u3 mFuel 0 0 0 0 ⟨by decide, by rw [z0]; omega⟩ (Or.inl rfl) (Or.inl rfl) (Or.inl rfl) ⟨fun e => absurd e (by decide), fun ⟨i, i1, _⟩ => by rw [z0] at i1; omega⟩ ⟨fun e => absurd e (by decide), fun ⟨i, i1, _⟩ => by rw [z0] at i1; omega⟩ ⟨fun e => absurd e (by decide), fun ⟨i, i1, _⟩ => by rw [z0] at i1; omega⟩ hf
    have k4' : y4.toInt = 1 ↔ exO P (x1.toInt % 64) (x1.toInt / 64 % 64) 64 := (l4.trans K4).trans ⟨fun ⟨b, b0, b1, h, _⟩ => ⟨b, b0, b1, h⟩, fun ⟨b, b0, b1, h⟩ => ⟨b, b0, b1, h, trivial⟩⟩
    obtain ⟨w0, w1, w2, w3⟩ := apP_v (P := P) (a := x1.toInt % 64) (t := x1.toInt / 64 % 64) k4' (l5.trans K5) (l6.trans K6)
    clear k4' K4 K5 K6 l4 l5 l6
    rw [ev]
    rcases c4 with e4 | e4
    · rw [if_pos e4, w0 (by omega)]
    · rw [if_neg (by omega)]
      rcases c5 with e5 | e5
      · rw [if_pos e5, w1 e4 (by omega)]
      · rw [if_neg (by omega)]
        rcases c6 with e6 | e6
        · rw [if_pos e6, w2 e4 e5 (by omega)]
        · rw [if_neg (by omega), w3 e4 e5 e6]
/-- the reference spells a move whole -/
theorem v_spellWhole (hR : RIt I A) (qs : QS I A P) (pg : PGd P) (LG : LGo P x1.toInt) (hf : f_spellWhole x1 I A = some o2) : ∃ ck, csF (om P) (osd P) (ort P) (ops P) (okw P) (okb P) x1.toInt ck ∧ SPL o2.2.1 o2.2.2 (sgW P x1.toInt ck) := by
  have hf : f_spellWhole_0 x1 I A = some o2 := hf
  unfold f_spellWhole_0 at hf
  obtain ⟨⟨r3, Ic3, Ac3⟩, h_3, hf⟩ := m_clE hf
  have e3 := rro_apartOf h_3
  obtain ⟨-, p3⟩ := ok_of (t_apartOf hR.1 hR.2.1 LG.1) h_3
  have q3 := v_apartOf hR qs pg LG h_3
  have i3 : Ic3 = I := congrArg Prod.fst e3
  have a3 : Ac3 = A := congrArg Prod.snd e3
  dsimp only at hf p3 q3
  rw [i3, a3] at hf
  obtain ⟨⟨r4, Ic4, Ac4⟩, h_4, hf⟩ := m_clE hf
  have e4 := rro_isTaking h_4
  have i4 : Ic4 = I := congrArg Prod.fst e4
  have a4 : Ac4 = A := congrArg Prod.snd e4
  obtain ⟨-, b4, q4⟩ := ok_of (x_isTaking hR.1 hR.2.1 LG.1 (by rw [qs.1.1]; exact pg.2.1)) h_4
  dsimp only at hf b4 q4
  rw [qs.1.1] at q4
  rw [i4, a4] at hf
  have tk : r4.toInt = tkV P (x1.toInt % 64) (x1.toInt / 64 % 64) := by
    unfold tkV
    by_cases e : tkg (om P) (x1.toInt % 64) (x1.toInt / 64 % 64)
    · rw [if_pos e]; exact q4.2 e
    · rw [if_neg e]
      have : r4.toInt ≠ 1 := fun h => e (q4.1 h)
      omega
  obtain ⟨⟨r5, Ic5, Ac5⟩, h_5, hf⟩ := m_clE hf
  have J5 := fj_sp (fj_q hR qs) LG.1 p3 (by omega) h_5
  have hpr : x1.toInt / 4096 = 0 ∨ (2 ≤ x1.toInt / 4096 ∧ x1.toInt / 4096 ≤ 5) := by
    have := LG.2.2.1
    unfold PRo at this
    omega
  have S5 := p_spellMove hR.1 hR.2.1 qs.1.1 pg.2.1 LG.1 LG.2.1.1.1 hpr p3 (by omega) h_5
  dsimp only at hf S5
  rw [q3, tk] at S5
  obtain ⟨⟨r6, Ic6, Ac6⟩, h_6, hf⟩ := m_clE hf
  obtain ⟨j1, j2, j3, j4, j5, j6, j7, -⟩ := J5
  obtain ⟨e6, c6⟩ := p_behind (ko := oko P) j1 j2 j3 j4 j5 j6 j7 pg rfl LG h_6
  have i6 : Ic6 = Ic5 := congrArg Prod.fst e6
  have a6 : Ac6 = nA Ic5 Ac5 := congrArg Prod.snd e6
  dsimp only at hf c6
  rw [i6, a6] at hf
  have S6 : SPL Ic5 (nA Ic5 Ac5) (spW (om P) x1.toInt (apW P x1.toInt) (tkV P (x1.toInt % 64) (x1.toInt / 64 % 64))) := ⟨S5.1, fun i i0 i1 => by rw [nA_o (by decide) (by decide)]; exact S5.2 i i0 i1⟩
  have cb := csF_b c6
  refine ⟨r6.toInt, c6, ?_⟩
  unfold sgW
  rcases m_ifE hf with ⟨d, hf⟩ | ⟨d, hf⟩
  · unfold f_spellWhole_30 at hf
    have eo := (Option.some.inj hf).symm
    have e0 : ckL r6.toInt = [] := by rw [d]; rfl
    rw [eo, e0, List.append_nil]
    exact S6
  · obtain ⟨⟨r7, Ic7, Ac7⟩, h_7, hf⟩ := m_clE hf
    have S7 := p_spell S6 (by have := spW_l (m := om P) (x := x1.toInt) (ap := apW P x1.toInt) (tk := tkV P (x1.toInt % 64) (x1.toInt / 64 % 64)); omega) (by omega) h_7
    unfold f_spellWhole_30 at hf
    have eo := (Option.some.inj hf).symm
    have e0 : ckL r6.toInt = [r6.toInt] := if_neg (fun e => d (i32_of e))
    rw [eo, e0]
    exact S7
/-- what the reference tells -/
noncomputable def OUr (I : Nat → Int32) (A : Nat → Nat → Int32) (w : List Int) : Prop := (I 3).toInt = (w.length : Int) ∧ ∀ i : Nat, i < w.length → (A 4 i).toInt = wA w (i : Int)
theorem vs_out {w : List Int} (hw : w.length ≤ 16) (hA0 : ∀ i : Nat, i < w.length → 0 ≤ wA w (i : Int) ∧ wA w (i : Int) ≤ 65535) : ∀ (n : Nat) (x2 : Int32) (A : Nat → Nat → Int32) (j : Nat), x2.toInt = (j : Int) → j ≤ w.length → SPL I A w → (∀ i : Nat, i < j → (A 4 i).toInt = wA w (i : Int)) → f_signs_33 n x2 I A = some o2 → o2.1.toInt = (w.length : Int) ∧ OUr o2.2.1 o2.2.2 w := by
  intro n
  induction n with
  | zero => intro x2 A j _ _ _ _ hf; cases hf
  | succ n ih =>
    intro x2 A j hx hj hS hp hf
    have hf : f_signs_33s (f_signs_33 n) x2 I A = some o2 := hf
    unfold f_signs_33s at hf
    have h36 := hS.1
    rcases m_ifE hf with ⟨d, hf⟩ | ⟨d, hf⟩
    · replace d := ti_leP (a := I 36) (b := x2) d rfl rfl
      obtain ⟨I1, e1, hf⟩ := m_bndE hf
      have eo := (Option.some.inj hf).symm
      have j3 : I1 3 = I 36 := by rw [e1, upd_self]
      rw [eo]
      refine ⟨by show (I1 3).toInt = _; rw [j3]; exact h36, by show (I1 3).toInt = _; rw [j3]; exact h36, fun i hi => hp i (by omega)⟩
    · replace d := ti_leN (a := I 36) (b := x2) d rfl rfl
      have jl : j < w.length := by omega
      obtain ⟨-, hf⟩ := m_chkE hf
      obtain ⟨v2, e2, hf⟩ := m_bndE hf
      rw [cl_n (n := j) hx] at e2
      have t2 : v2.toInt = wA w (j : Int) := by
        have := hS.2 (j : Int) (by omega) (by omega)
        rw [Int.toNat_natCast] at this
        rw [e2]; exact this
      have b2 := hA0 j jl
      obtain ⟨-, hf⟩ := m_chkE hf
      obtain ⟨A3, e3, hf⟩ := m_bndE hf
      rw [cl_n (n := j) hx] at e3
      have u3 : ∀ k, k ≠ 4 → A3 k = A k := fun k hk => by rw [e3]; exact va_up_ne _ _ hk
      have u4 : A3 4 = upd (A 4) j (vp_nar .char v2) := by rw [e3]; exact va_up_self _ _ _
      obtain ⟨v4, e4, hf⟩ := m_bndE hf
      have t4 : v4.toInt = x2.toInt + 1 := ti_add e4 rfl (show (1 : Int32).toInt = 1 from rfl) (by omega) (by omega)
      refine ih v4 A3 (j + 1) (by omega) (by omega) ⟨h36, fun i i0 i1 => by rw [u3 35 (by decide)]; exact hS.2 i i0 i1⟩ (fun i hi => ?_) hf
      rw [u4]
      by_cases e : i = j
      · rw [e, upd_self, nar_ci rfl (by omega) (by omega), t2]
      · rw [upd_ne e]
        exact hp i (by omega)
/-- signs on both sides: what is answered and what is told -/
theorem an_signs {o : (Nat × Int32) × ZS} (hC : CG S) (hR : RIt I A) (h : FM I A S) (h2 : f_signs x1 I A = some o2) (ho : d_X11_signs 1 x1 S = some o) : ((o.1.1 = 0 ∧ o2.2.1 0 = 0 ∧ o.1.2 = o2.1) ∧ ∃ w, w.length ≤ 16 ∧ RWL o.2 3 w ∧ OUr o2.2.1 o2.2.2 w) ∨ ((o.1.1 = 1 ∧ o2.2.1 0 = 1) ∧ o2.2.2 = A ∧ (∀ j, j ≠ 0 → o2.2.1 j = I j) ∧ ∃ S1, o.2 = zsQ S1 ∧ FR (fun a => a = 5 ∨ a = 6) S S1) := by
  obtain ⟨hm, g, L, st, T, r, c, w⟩ := h
  obtain ⟨⟨p7, gc⟩, gr, ⟨c1, c2, c3⟩, bo, qs⟩ := id w
  obtain ⟨pg, pn1, pn2⟩ := fw_pg w
  have hI := hR.1
  have hf : d_X11_signs_0 1 x1 S = some o := ho
  have hr : f_signs_0 x1 I A = some o2 := h2
  unfold d_X11_signs_0 at hf
  obtain ⟨-, hf⟩ := m_chkE hf
  replace hf := m_calY hf (show zP S 2 1 = some 4 from fx_p hC.2.2.1 (by decide))
  obtain ⟨-, hf⟩ := m_chkE hf
  replace hf := m_calY hf (show zP S 9 1 = some 107 from fx_p hC.2.2.1 (by decide))
  obtain ⟨-, hf⟩ := m_chkE hf
  obtain ⟨⟨y3, S3⟩, h_3, hf⟩ := m_calE hf
  obtain ⟨-, hf⟩ := m_chkE hf
  obtain ⟨F3, C3, q3, l3⟩ := k_isLegal hC bo pg ⟨by omega, by omega⟩ h_3
  dsimp only at F3 C3 q3 l3 hf
  unfold f_signs_0 at hr
  obtain ⟨⟨r1, Ic1, Ac1⟩, h_r1, hr⟩ := m_clE hr
  obtain ⟨e1, q1, l1⟩ := v_isLegal hI qs.2 h_r1
  have i1 : Ic1 = I := congrArg Prod.fst e1
  have a1 : Ac1 = A := congrArg Prod.snd e1
  dsimp only at q1 l1 hr
  rw [i1, a1] at hr
  rcases m_ifE hf with ⟨d, hf⟩ | ⟨d, hf⟩
  · have eo : o = ((1, 0), zsQ S3) := (Option.some.inj hf).symm
    have nl : ¬ ∃ key, key < 32768 ∧ LR (om (posT st T c)) (osd (posT st T c)) (ort (posT st T c)) (ops (posT st T c)) (oko (posT st T c)) key ∧ mvk key = x1.toInt := fun hh => by
      have := l3.2 hh
      rw [d] at this
      exact absurd this (by decide)
    rcases m_ifE hr with ⟨d2, hr⟩ | ⟨d2, hr⟩
    · unfold f_signs_14 at hr
      obtain ⟨I1, f1, hr⟩ := m_bndE hr
      rcases m_ifE hr with ⟨d3, hr⟩ | ⟨-, hr⟩
      · rw [f1, upd_self] at d3
        exact absurd d3 (by decide)
      · have e2 : o2 = (0, (I1, A)) := (Option.some.inj hr).symm
        refine Or.inr ⟨⟨by rw [eo], by rw [e2]; show I1 0 = 1; rw [f1, upd_self]⟩, by rw [e2], fun j hj => by rw [e2]; show I1 j = I j; rw [f1, upd_ne hj], S3, by rw [eo], F3⟩
    · rcases q1 with q | q
      · exact absurd (i32_of q) d2
      · exact absurd (l1.1 q) nl
  · have hlk : ∃ key, key < 32768 ∧ LR (om (posT st T c)) (osd (posT st T c)) (ort (posT st T c)) (ops (posT st T c)) (oko (posT st T c)) key ∧ mvk key = x1.toInt := by
      rcases q3 with q | q
      · exact absurd (i32_of q) d
      · exact l3.1 q
    have LG : LGo (posT st T c) x1.toInt := by
      obtain ⟨key, k1, k2, k3⟩ := hlk
      rw [← k3]
      exact (lg_key pg rfl k1 k2).1
    rcases m_ifE hr with ⟨d2, hr⟩ | ⟨d2, hr⟩
    · have := l1.2 hlk
      rw [d2] at this
      exact absurd this (by decide)
    · -- the reference
      unfold f_signs_14 at hr
      obtain ⟨I1, f1, hr⟩ := m_bndE hr
      have j0 : I1 0 = 0 := by rw [f1, upd_self]
      have jj : ∀ j, j ≠ 0 → I1 j = I j := fun j hj => by rw [f1, upd_ne hj]
      have R1 : RIt I1 A := by rw [f1]; exact rit_0 hR (by decide)
      have qs1 : QS I1 A (posT st T c) := qs_e qs rfl rfl (fun j hj => jj j (by omega))
      rcases m_ifE hr with ⟨-, hr⟩ | ⟨d3, hr⟩
      · obtain ⟨⟨r2, Ic2, Ac2⟩, h_2, hr⟩ := m_clE hr
        obtain ⟨ck, ck1, SP⟩ := v_spellWhole R1 qs1 pg LG h_2
        have f2 := fw_spellWhole h_2
        dsimp only at SP hr f2
        have i0 : Ic2 0 = 0 := (f2.1 0 (by decide)).trans j0
        have wl : (sgW (posT st T c) x1.toInt ck).length ≤ 9 := by
          unfold sgW ckL
          rw [List.length_append]
          have := spW_l (m := om (posT st T c)) (x := x1.toInt) (ap := apW (posT st T c) x1.toInt) (tk := tkV (posT st T c) (x1.toInt % 64) (x1.toInt / 64 % 64))
          split
          · show _ + 0 ≤ 9; omega
          · show _ + 1 ≤ 9; omega
        obtain ⟨-, tk2, -⟩ := ok_of (t_spellWhole R1.1 R1.2.1 LG.1 R1.2.2.2.2) h_2
        dsimp only at tk2
        obtain ⟨o1, o3⟩ := vs_out (w := sgW (posT st T c) x1.toInt ck) (by omega) (fun i hi => by
          have := SP.2 (i : Int) (by omega) (by omega)
          rw [← this]
          exact tk2 35 _) mFuel 0 Ac2 0 rfl (Nat.zero_le _) SP (fun i hi => absurd hi (Nat.not_lt_zero _)) hr
        obtain ⟨s1, -⟩ := vs_33 _ _ _ _ hr
        -- the class
        have k1 : zK S3 1 = 11 := fx_k C3.2.2.1 (by decide) (by decide)
        obtain ⟨-, hf⟩ := m_chkE hf
        replace hf := m_calY hf (show zP S3 1 1 = some 3 from fx_p C3.2.2.1 (by decide))
        obtain ⟨k3, hf⟩ := m_chkE hf
        obtain ⟨⟨y5, S5⟩, h_5, hf⟩ := m_calE hf
        obtain ⟨w0, hw0⟩ := rwl_ex C3.1 k3
        obtain ⟨a5, b5, c5⟩ := p_keep hw0 (show (0 : Int) ≤ (0 : Int32).toInt by decide) h_5
        rw [show (0 : Int32).toInt.toNat = 0 from rfl, List.take_zero] at a5
        have T5 : ZT S5 := by
          rcases c5 with c5 | c5
          · rw [c5]; exact C3.1
          · rw [c5]
            exact zt_I0 C3.1 k3 (fun _ => ⟨show (0 : Int) ≤ (0 : Int32).toInt by decide, show (0 : Int32).toInt ≤ _ by rw [hw0.1]; exact Int.natCast_nonneg _⟩) (fun e => absurd e.1 (by decide)) (tf_b _)
        have F5 : FR (fun a => a = 3) S3 S5 := fr_r b5 k3
        have X5 : FIX S5 := fix_fr C3.2.2.1 F5
        have bo3 : BO S3 107 (posT st T c) := bo_fr bo F3 (by decide) (by decide)
        have bo5 : BO S5 107 (posT st T c) := bo_fr bo3 F5 (by decide) (by decide)
        obtain ⟨-, hf⟩ := m_chkE hf
        obtain ⟨-, hf⟩ := m_chkE hf
        dsimp only at hf
        replace hf := m_calY hf (show zP S5 4 1 = some 17 from fx_p X5 (by decide))
        obtain ⟨-, hf⟩ := m_chkE hf
        replace hf := m_calY hf (show zP S5 9 1 = some 107 from fx_p X5 (by decide))
        obtain ⟨-, hf⟩ := m_chkE hf
        replace hf := m_calY hf (show zP S5 1 1 = some 3 from fx_p X5 (by decide))
        obtain ⟨-, hf⟩ := m_chkE hf
        obtain ⟨⟨r10, S11⟩, h_10, hf⟩ := m_cal2E hf
        obtain ⟨ck2, ck3, P11⟩ := c_putSigns (S0 := S5) (w := []) (Or.inl rfl) (by decide) pg ⟨by omega, by omega⟩ (by decide) LG ⟨T5, X5, bo5, a5, fr_0⟩ h_10
        dsimp only at P11
        rw [csF_u ck3 ck1, List.nil_append] at P11
        obtain ⟨T11, X11, -, W11, -⟩ := P11
        obtain ⟨-, hf⟩ := m_chkE hf
        replace hf := m_calY hf (show zP S11 1 1 = some 3 from fx_p X11 (by decide))
        obtain ⟨-, hf⟩ := m_chkE hf
        obtain ⟨⟨y15, S15⟩, h_15, hf⟩ := m_calE hf
        have q15 := pc_X6_size h_15
        have e15 : S15 = S11 := ro_X6_size h_15
        obtain ⟨-, hf⟩ := m_chkE hf
        dsimp only at q15 hf
        have eo : o = ((0, y15), S15) := (Option.some.inj hf).symm
        refine Or.inl ⟨⟨by rw [eo], (s1 0 (by decide)).trans i0, ?_⟩, sgW (posT st T c) x1.toInt ck, by omega, by rw [eo, e15]; exact W11, o3⟩
        rw [eo]
        exact Int32.toInt_inj.1 (by show y15.toInt = o2.1.toInt; rw [q15, W11.1, o1])
      · exact absurd (show I1 0 ≤ 0 by rw [j0]; decide) d3
end VAP
