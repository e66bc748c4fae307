section
section RSF
variable {I : Nat → Int32} {A : Nat → Nat → Int32}
theorem mR_nA : mR (nA I A) = mR A := mR_fr (nA_o (by decide) (by decide))
/-- the reference's isSafe -/
theorem p_rSafe {x1 : Int32} {o : Int32 × MS} {sd k : Int} (hI : TJ I) (hA : TK A) (hx : 0 ≤ x1.toInt ∧ x1.toInt ≤ 24575) (hM : MBd (mR A)) (hn : (I 29).toInt ≤ 1999) (hs : (I 25).toInt = sd) (hs2 : sd = 0 ∨ sd = 1) (hk : KU (mkR (mR A) sd (x1.toInt % 64) (x1.toInt / 64 % 64) (x1.toInt / 4096)) sd k) (hM2 : MBd (mkR (mR A) sd (x1.toInt % 64) (x1.toInt / 64 % 64) (x1.toInt / 4096))) (hf : f_isSafe x1 I A = some o) : o.2 = (I, nA I A) ∧ (o.1.toInt = 0 ∨ o.1.toInt = 1) ∧ (o.1.toInt = 1 ↔ ¬ attd (mkR (mR A) sd (x1.toInt % 64) (x1.toInt / 64 % 64) (x1.toInt / 4096)) k (1 - sd)) := by
  unfold f_isSafe at hf
  obtain ⟨o1, h1, hf⟩ := m_clE hf
  cases hf
  refine ⟨rfl, ?_⟩
  show (o1.1.toInt = 0 ∨ o1.1.toInt = 1) ∧ (o1.1.toInt = 1 ↔ _)
  have h1 : f_isSafe_0 x1 I A = some o1 := h1
  unfold f_isSafe_0 at h1
  obtain ⟨ok, hk1, h1⟩ := m_clE h1
  have ek : ok = (0, (I, nA I A)) := by
    have : f_keep I A = some (0, (I, nA I A)) := rfl
    rw [this] at hk1
    exact (Option.some.inj hk1).symm
  subst ek
  have hA2 : TK (nA I A) := tk_nA hI hA
  obtain ⟨o2, h2, h1⟩ := m_clE h1
  obtain ⟨I2, A2, m2, -, -, -, s2⟩ := ok_of (x_make (nn := (I 29).toInt) (sd := sd) (TM := mkR (mR A) sd (x1.toInt % 64) (x1.toInt / 64 % 64) (x1.toInt / 4096)) hI hA2 hx (by rw [mR_nA]; exact hM) rfl rfl rfl (by rw [mR_nA]) ⟨rfl, hn, hs⟩) h2
  obtain ⟨v3, e3, h1⟩ := m_bndE h1
  have t3 : v3.toInt = sd := by
    have := ti_sub (c := v3) (a := 1) (b := o2.2.1 25) e3 (show (1 : Int32).toInt = 1 from rfl) s2 (by omega) (by omega)
    omega
  obtain ⟨o4, h4, h1⟩ := m_clE h1
  obtain ⟨s4, r4b, q4⟩ := ok_of (x_isInCheck (k := k) (x1 := v3) I2 A2 (by omega) (by rw [m2, t3]; exact hk) (by rw [m2]; exact hM2)) h4
  rw [m2, t3] at q4
  have z0 : (0 : Int32).toInt = 0 := rfl
  rcases m_ifE h1 with ⟨c, h1⟩ | ⟨c, h1⟩
  · unfold f_isSafe_27 at h1
    obtain ⟨ob, hb, h1⟩ := m_clE h1
    obtain ⟨-, h1⟩ := m_chkE h1
    cases h1
    refine ⟨Or.inr rfl, fun _ g => ?_, fun _ => rfl⟩
    have := q4.2 g
    rw [c] at this
    omega
  · unfold f_isSafe_27 at h1
    obtain ⟨ob, hb, h1⟩ := m_clE h1
    obtain ⟨-, h1⟩ := m_chkE h1
    cases h1
    refine ⟨Or.inl rfl, fun g => absurd (show (0 : Int32).toInt = 1 from g) (by decide), fun g => ?_⟩
    have h9 : o4.1.toInt ≠ 0 := fun h => c (Int32.toInt_inj.1 h)
    exact absurd (q4.1 (by omega)) g
end RSF
/-- the foe's attacks don't hang on which man of one's own stands on a square -/
theorem attd_own {m n : Int → Int} {t q w : Int} (he : ∀ s, s ≠ t → m s = n s) (h1 : m t ≠ 0 ∧ m t / 8 ≠ w) (h2 : n t ≠ 0 ∧ n t / 8 ≠ w) (h : attd m q w) : attd n q w := by
  obtain ⟨a, a1, a2, a3, a4, a5⟩ := h
  have hat : a ≠ t := fun e => by rw [e] at a4; exact h1.2 a4
  have ea := he a hat
  refine ⟨a, a1, a2, by rw [← ea]; exact a3, by rw [← ea]; exact a4, ?_⟩
  unfold attk at a5 ⊢
  rw [← ea]
  rcases a5 with g | g | g | ⟨g1, g2⟩
  · exact Or.inl g
  · exact Or.inr (Or.inl g)
  · exact Or.inr (Or.inr (Or.inl g))
  · refine Or.inr (Or.inr (Or.inr ⟨g1, fun j j1 j2 => ?_⟩))
    have g3 := g2 j j1 j2
    have hne : a + j * (sg (q % 8 - a % 8) + 8 * sg (q / 8 - a / 8)) ≠ t := fun e => by
      rw [e] at g3
      exact h1.1 g3
    rw [← he _ hne]
    exact g3
end
section
/-- a move's place in the order: from, to, what it becomes -/
noncomputable def mvk (key : Nat) : Int := ((key / 512 : Nat) : Int) + 64 * ((key / 8 % 64 : Nat) : Int) + 4096 * ((key % 8 : Nat) : Int)
/-- legal by the reference -/
noncomputable def LR (m : Int → Int) (sd rt ps ko : Int) (key : Nat) : Prop := goR m sd rt ps ((key / 512 : Nat) : Int) ((key / 8 % 64 : Nat) : Int) ∧ ¬ attd (mkR m sd ((key / 512 : Nat) : Int) ((key / 8 % 64 : Nat) : Int) 0) (kgB m sd ps ((key / 512 : Nat) : Int) ((key / 8 % 64 : Nat) : Int) 0 sd ko) (1 - sd) ∧ PRo m ((key / 512 : Nat) : Int) ((key / 8 % 64 : Nat) : Int) ((key % 8 : Nat) : Int)
/-- while the moves are found -/
noncomputable def FMi (m : Int → Int) (sd rt ps ko : Int) (K : Nat) (I : Nat → Int32) (A : Nat → Nat → Int32) : Prop := TJ I ∧ TK A ∧ mR A = m ∧ (I 25).toInt = sd ∧ (I 26).toInt = rt ∧ (I 27).toInt = ps ∧ (I 29).toInt ≤ 1999 ∧ (I 33).toInt = ((cnt (LR m sd rt ps ko) K : Nat) : Int) ∧ LST (fun k => (A 32 k).toInt) (LR m sd rt ps ko) mvk K
section FMS
variable {m : Int → Int} {sd rt ps kw kb ko : Int}
theorem key_e {a t p : Nat} (ht : t < 64) (hp : p < 8) : ((a * 64 + t) * 8 + p) / 512 = a ∧ ((a * 64 + t) * 8 + p) / 8 % 64 = t ∧ ((a * 64 + t) * 8 + p) % 8 = p := by omega
theorem fm_gap {K L : Nat} {I : Nat → Int32} {A : Nat → Nat → Int32} (h : FMi m sd rt ps ko K I A) (hKL : K ≤ L) (hg : ∀ j, K ≤ j → j < L → ¬ LR m sd rt ps ko j) : FMi m sd rt ps ko L I A := by
  obtain ⟨h1, h2, h3, h4, h5, h6, h7, h8, h9⟩ := h
  refine ⟨h1, h2, h3, h4, h5, h6, h7, by rw [cnt_gap hKL hg]; exact h8, fun key hk hp => ?_⟩
  by_cases c : key < K
  · exact h9 key c hp
  · exact absurd hp (hg key (by omega) hk)
theorem fm_nA {K : Nat} {I : Nat → Int32} {A : Nat → Nat → Int32} (h : FMi m sd rt ps ko K I A) : FMi m sd rt ps ko K I (nA I A) := by
  obtain ⟨h1, h2, h3, h4, h5, h6, h7, h8, h9⟩ := h
  refine ⟨h1, tk_nA h1 h2, by rw [mR_nA]; exact h3, h4, h5, h6, h7, h8, fun key hk hp => ?_⟩
  have e : nA I A 32 = A 32 := nA_o (by decide) (by decide)
  show (nA I A 32 _).toInt = _
  rw [e]
  exact h9 key hk hp
theorem fm_add {K : Nat} {I I7 : Nat → Int32} {A A5 : Nat → Nat → Int32} {v4 v6 : Int32} (h : FMi m sd rt ps ko K I A) (hK : K < 32768) (hp : LR m sd rt ps ko K) (h0 : 0 ≤ (I 33).toInt ∧ (I 33).toInt < 2048) (e4 : v4.toInt = mvk K) (e5 : A5 = va_up A 32 (upd (A 32) (I 33).toNatClampNeg v4)) (e6 : v6 = I 33 + 1) (e7 : I7 = upd I 33 v6) : FMi m sd rt ps ko (K + 1) I7 A5 := by
  obtain ⟨h1, h2, h3, h4, h5, h6, h7, h8, h9⟩ := h
  have t6 : v6.toInt = (I 33).toInt + 1 := ti_add e6 rfl (show (1 : Int32).toInt = 1 from rfl) (by omega) (by omega)
  have o : ∀ j, j ≠ 33 → I7 j = I j := fun j hj => by rw [e7]; exact upd_ne hj
  have hn : (I 33).toNatClampNeg = cnt (LR m sd rt ps ko) K := by
    have : (I 33).toNatClampNeg = (I 33).toInt.toNat := rfl
    omega
  have hm : 0 ≤ mvk K ∧ mvk K ≤ 24575 := by
    have hq := hp.2.2
    unfold PRo at hq
    unfold mvk
    have a1 : K / 512 < 64 := by omega
    have a2 : K / 8 % 64 < 64 := Nat.mod_lt _ (by decide)
    omega
  refine ⟨?_, ?_, ?_, by rw [o 25 (by decide)]; exact h4, by rw [o 26 (by decide)]; exact h5, by rw [o 27 (by decide)]; exact h6, by rw [o 29 (by decide)]; exact h7, ?_, fun key hk hpk => ?_⟩
  · rw [e7]
    exact tj_u h1 (k := 33) (show (0 : Int) ≤ v6.toInt by omega) (show v6.toInt ≤ (2048 : Int) by omega)
  · rw [e5]
    exact tk_u h2 (j := 32) (show (0 : Int) ≤ v4.toInt by omega) (show v4.toInt ≤ (24575 : Int) by omega)
  · rw [← h3]
    exact mR_fr (by rw [e5]; exact va_up_ne _ _ (by decide))
  · rw [e7, upd_self, t6, cnt_y hp]
    omega
  · show (A5 32 _).toInt = _
    have e : A5 32 = upd (A 32) (I 33).toNatClampNeg v4 := by rw [e5]; exact va_up_self _ _ _
    rw [e]
    by_cases c : key = K
    · rw [c, hn, upd_self]; exact e4
    · have hlt : cnt (LR m sd rt ps ko) key < cnt (LR m sd rt ps ko) K := cnt_lt hpk (by omega)
      rw [upd_ne (by omega)]
      exact h9 key (by omega) hpk
/-- the key of a way, before what it becomes -/
noncomputable def kyb (x1 x2 : Int32) : Nat := (x1.toInt.toNat * 64 + x2.toInt.toNat) * 8
theorem kyb_e {x1 x2 : Int32} {p : Nat} (h1 : 0 ≤ x1.toInt ∧ x1.toInt < 64) (h2 : 0 ≤ x2.toInt ∧ x2.toInt < 64) (hp : p < 8) : (((kyb x1 x2 + p) / 512 : Nat) : Int) = x1.toInt ∧ (((kyb x1 x2 + p) / 8 % 64 : Nat) : Int) = x2.toInt ∧ (((kyb x1 x2 + p) % 8 : Nat) : Int) = (p : Int) ∧ kyb x1 x2 + p < 32768 := by
  unfold kyb
  obtain ⟨a1, a2, a3⟩ := key_e (a := x1.toInt.toNat) (t := x2.toInt.toNat) (p := p) (by omega) hp
  rw [a1, a2, a3]
  omega
theorem lr_k {x1 x2 : Int32} {p : Nat} (h1 : 0 ≤ x1.toInt ∧ x1.toInt < 64) (h2 : 0 ≤ x2.toInt ∧ x2.toInt < 64) (hp : p < 8) : LR m sd rt ps ko (kyb x1 x2 + p) ↔ goR m sd rt ps x1.toInt x2.toInt ∧ ¬ attd (mkR m sd x1.toInt x2.toInt 0) (kgB m sd ps x1.toInt x2.toInt 0 sd ko) (1 - sd) ∧ PRo m x1.toInt x2.toInt (p : Int) := by
  obtain ⟨a1, a2, a3, -⟩ := kyb_e h1 h2 hp
  unfold LR
  rw [a1, a2, a3]
theorem fm_157 {x1 x2 : Int32} {o : Int32 × MS} {I : Nat → Int32} {A : Nat → Nat → Int32} {self7 : Int32 → (Nat → Int32) → (Nat → Nat → Int32) → Option (Int32 × MS)} {self15 : Int32 → Int32 → (Nat → Int32) → (Nat → Nat → Int32) → Option (Int32 × MS)} {G : Int32 × MS → Prop} (h1 : 0 ≤ x1.toInt ∧ x1.toInt < 64) (h2 : 0 ≤ x2.toInt ∧ x2.toInt < 64) (H : ∀ (v : Int32) (I : Nat → Int32) (A : Nat → Nat → Int32), v.toInt = x2.toInt + 1 → FMi m sd rt ps ko (kyb x1 x2 + 8) I A → self15 x1 v I A = some o → G o) {q : Nat} (hq : q ≤ 8) (hF : FMi m sd rt ps ko (kyb x1 x2 + q) I A) (hg : ∀ p, q ≤ p → p < 8 → ¬ LR m sd rt ps ko (kyb x1 x2 + p)) (hf : f_findMoves_157 self7 self15 x1 x2 I A = some o) : G o := by
  unfold f_findMoves_157 at hf
  obtain ⟨v1, e1, hf⟩ := m_bndE hf
  refine H v1 I A (ti_add e1 rfl (show (1 : Int32).toInt = 1 from rfl) (by omega) (by omega)) (fm_gap hF (by omega) (fun j j1 j2 hj => ?_)) hf
  have e : j = kyb x1 x2 + (j - kyb x1 x2) := by omega
  rw [e] at hj
  exact hg (j - kyb x1 x2) (by omega) (by omega) hj
theorem fm_100 {x1 x2 x3 x4 : Int32} {o : Int32 × MS} {self7 : Int32 → (Nat → Int32) → (Nat → Nat → Int32) → Option (Int32 × MS)} {self15 : Int32 → Int32 → (Nat → Int32) → (Nat → Nat → Int32) → Option (Int32 × MS)} {G : Int32 × MS → Prop} (h1 : 0 ≤ x1.toInt ∧ x1.toInt < 64) (h2 : 0 ≤ x2.toInt ∧ x2.toInt < 64) (h3 : x3.toInt = 0 ∨ x3.toInt = 1) (h3l : x3.toInt = 1 ↔ m x1.toInt % 8 = 1 ∧ (x2.toInt < 8 ∨ 56 ≤ x2.toInt)) (h4 : x4.toInt = 0 ∨ x4.toInt = 1) (hgo : goR m sd rt ps x1.toInt x2.toInt) (h4s : x4.toInt = 1 ↔ ¬ attd (mkR m sd x1.toInt x2.toInt 0) (kgB m sd ps x1.toInt x2.toInt 0 sd ko) (1 - sd)) (H : ∀ (v : Int32) (I : Nat → Int32) (A : Nat → Nat → Int32), v.toInt = x2.toInt + 1 → FMi m sd rt ps ko (kyb x1 x2 + 8) I A → self15 x1 v I A = some o → G o) : ∀ (n : Nat) (x5 : Int32) (I : Nat → Int32) (A : Nat → Nat → Int32), (0 ≤ x5.toInt ∧ x5.toInt ≤ 6) → (x3.toInt = 0 → x5.toInt ≤ 1) → (x3.toInt = 1 → 2 ≤ x5.toInt) → FMi m sd rt ps ko (kyb x1 x2 + x5.toInt.toNat) I A → f_findMoves_100 self7 self15 n x1 x2 x3 x4 x5 I A = some o → G o := by
  intro n
  have z0 : (0 : Int32).toInt = 0 := rfl
  have z5 : (5 : Int32).toInt = 5 := rfl
  induction n with
  | zero => intro x5 I A _ _ _ _ hf; cases hf
  | succ n ih =>
    intro x5 I A b5 c0 c1 hF hf
    have hf : f_findMoves_100s self7 self15 (f_findMoves_100 self7 self15 n) x1 x2 x3 x4 x5 I A = some o := hf
    unfold f_findMoves_100s at hf
    rcases m_ifE hf with ⟨c, hf⟩ | ⟨c, hf⟩
    · refine fm_157 h1 h2 H (q := x5.toInt.toNat) (by omega) hF (fun p _ p8 hp => ?_) hf
      have := h4s.2 ((lr_k h1 h2 p8).1 hp).2.1
      rw [c] at this
      omega
    · have hx4 : x4.toInt = 1 := h4.resolve_left (fun h => c (Int32.toInt_inj.1 h))
      have hsf := h4s.1 hx4
      -- one more
      have add : ∀ {t0 : Int32}, (∀ p : Nat, x5.toInt.toNat ≤ p → p < 8 → t0.toInt < x5.toInt → ¬ PRo m x1.toInt x2.toInt (p : Int)) → (¬ t0.toInt < x5.toInt → PRo m x1.toInt x2.toInt x5.toInt ∧ x5.toInt ≤ 5 ∧ (x3.toInt = 0 → x5.toInt = 0)) → f_findMoves_116 self7 self15 (f_findMoves_100 self7 self15 n) x1 x2 x3 x4 x5 t0 x5 I A = some o → G o := by
        intro t0 g1 g2 hf
        unfold f_findMoves_116 at hf
        rcases m_ifE hf with ⟨d, hf⟩ | ⟨d, hf⟩
        · have d1 := ti_ltP (a := t0) (b := x5) d rfl rfl
          exact fm_157 h1 h2 H (q := x5.toInt.toNat) (by omega) hF (fun p p1 p8 hp => g1 p p1 p8 d1 ((lr_k h1 h2 p8).1 hp).2.2) hf
        · have d1 := ti_ltN (a := t0) (b := x5) d rfl rfl
          obtain ⟨k1, k2, k3⟩ := g2 (by omega)
          obtain ⟨v1, e1, hf⟩ := m_bndE hf
          obtain ⟨v2, e2, hf⟩ := m_bndE hf
          obtain ⟨v3, e3, hf⟩ := m_bndE hf
          obtain ⟨v4, e4, hf⟩ := m_bndE hf
          obtain ⟨hi, hf⟩ := m_chkE hf
          obtain ⟨A5, e5, hf⟩ := m_bndE hf
          obtain ⟨v6, e6, hf⟩ := m_bndE hf
          obtain ⟨I7, e7, hf⟩ := m_bndE hf
          obtain ⟨v8, e8, hf⟩ := m_bndE hf
          have t1 : v1.toInt = 64 * x2.toInt := ti_mul e1 (show (64 : Int32).toInt = 64 from rfl) rfl (by omega) (by omega)
          have t2 : v2.toInt = x1.toInt + 64 * x2.toInt := ti_add e2 rfl t1 (by omega) (by omega)
          have t3 : v3.toInt = 4096 * x5.toInt := ti_mul e3 (show (4096 : Int32).toInt = 4096 from rfl) rfl (by omega) (by omega)
          have t4 : v4.toInt = x1.toInt + 64 * x2.toInt + 4096 * x5.toInt := ti_add e4 t2 t3 (by omega) (by omega)
          have t8 : v8.toInt = x5.toInt + 1 := ti_add e8 rfl (show (1 : Int32).toInt = 1 from rfl) (by omega) (by omega)
          obtain ⟨a1, a2, a3, a4⟩ := kyb_e (p := x5.toInt.toNat) h1 h2 (by omega)
          have ep : ((x5.toInt.toNat : Nat) : Int) = x5.toInt := by omega
          have hL : LR m sd rt ps ko (kyb x1 x2 + x5.toInt.toNat) := (lr_k h1 h2 (by omega)).2 ⟨hgo, hsf, by rw [ep]; exact k1⟩
          have hmv : v4.toInt = mvk (kyb x1 x2 + x5.toInt.toNat) := by
            unfold mvk
            rw [a1, a2, a3, ep]; exact t4
          have hc : (I 33).toNatClampNeg = (I 33).toInt.toNat := rfl
          have g0 : 0 ≤ (I 33).toInt := by rw [hF.2.2.2.2.2.2.2.1]; omega
          have g2k : (I 33).toInt < 2048 := by
            apply Classical.byContradiction
            intro h
            exact hi (Or.inr (by omega))
          have hF2 := fm_add hF a4 hL ⟨g0, g2k⟩ hmv e5 e6 e7
          refine ih v8 I7 A5 (by omega) (fun h => by have := k3 h; omega) (fun h => by have := c1 h; omega) ?_ hf
          have e : kyb x1 x2 + v8.toInt.toNat = kyb x1 x2 + x5.toInt.toNat + 1 := by omega
          rw [e]
          exact hF2
      rcases m_ifE hf with ⟨d, hf⟩ | ⟨d, hf⟩
      · have d0 : x3.toInt = 0 := by rw [d]; rfl
        have nl : ¬ (m x1.toInt % 8 = 1 ∧ (x2.toInt < 8 ∨ 56 ≤ x2.toInt)) := fun g => by have := h3l.2 g; omega
        refine add (fun p p1 p8 pl g => ?_) (fun g => ?_) hf
        · rw [z0] at pl
          rcases g with ⟨g, -⟩ | ⟨-, -, g1, g2⟩
          · omega
          · exact nl ⟨g1, g2⟩
        · have e : x5.toInt = 0 := by omega
          exact ⟨Or.inl ⟨e, nl⟩, by omega, fun _ => e⟩
      · have d1 : x3.toInt = 1 := h3.resolve_left (fun h => d (Int32.toInt_inj.1 h))
        have ly := h3l.1 d1
        have c2 := c1 d1
        refine add (fun p p1 p8 pl g => ?_) (fun g => ?_) hf
        · rw [z5] at pl
          rcases g with ⟨-, g⟩ | ⟨g1, g2, -⟩
          · exact g ly
          · omega
        · exact ⟨Or.inr ⟨c2, by omega, ly.1, ly.2⟩, by omega, fun h => by omega⟩
/-- the position, for the reference's side -/
theorem rs_v {x1 x2 v2 : Int32} {o : Int32 × MS} {I : Nat → Int32} {A : Nat → Nat → Int32} {K : Nat} (hP : POS m sd rt ps kw kb) (hko : ko = if sd = 0 then kw else kb) (h1 : 0 ≤ x1.toInt ∧ x1.toInt < 64) (h2 : 0 ≤ x2.toInt ∧ x2.toInt < 64) (hgo : goR m sd rt ps x1.toInt x2.toInt) (hF : FMi m sd rt ps ko K I A) (e2 : v2.toInt = x1.toInt + 64 * x2.toInt) (hf : f_isSafe v2 I A = some o) : o.2 = (I, nA I A) ∧ (o.1.toInt = 0 ∨ o.1.toInt = 1) ∧ (o.1.toInt = 1 ↔ ¬ attd (mkR m sd x1.toInt x2.toInt 0) (kgB m sd ps x1.toInt x2.toInt 0 sd ko) (1 - sd)) := by
  obtain ⟨f1, f2, f3, f4, f5, f6, f7, -, -⟩ := hF
  have hs := hP.1
  have hr := ((go_rch hs).1 hgo).1
  have a1 : v2.toInt % 64 = x1.toInt := by omega
  have a2 : v2.toInt / 64 % 64 = x2.toInt := by omega
  have a3 : v2.toInt / 4096 = 0 := by omega
  have ek := mk_pl (p := 0) hs h1 h2 (by decide) hP.2.2.2.2.1 hr
  -- what a pawn becomes does not matter here: the man itself comes
  have hM2 : MBd (mkR m sd x1.toInt x2.toInt 0) := by rw [ek]; exact mbd_pl hP.2.1 hs (by decide)
  have hK : KU (mkR m sd x1.toInt x2.toInt 0) sd (kgB m sd ps x1.toInt x2.toInt 0 sd ko) := by
    rw [ek]
    exact ku_p0 hP h1 h2 hr hko
  have q := p_rSafe (k := kgB m sd ps x1.toInt x2.toInt 0 sd ko) (sd := sd) f1 f2 (by omega) (by rw [f3]; exact hP.2.1) f7 f4 hs (by rw [f3, a1, a2, a3]; exact hK) (by rw [f3, a1, a2, a3]; exact hM2) hf
  rw [f3, a1, a2, a3] at q
  exact q
theorem fm_76 {x1 x2 t0 : Int32} {o : Int32 × MS} {I : Nat → Int32} {A : Nat → Nat → Int32} {self7 : Int32 → (Nat → Int32) → (Nat → Nat → Int32) → Option (Int32 × MS)} {self15 : Int32 → Int32 → (Nat → Int32) → (Nat → Nat → Int32) → Option (Int32 × MS)} {G : Int32 × MS → Prop} (hP : POS m sd rt ps kw kb) (hko : ko = if sd = 0 then kw else kb) (h1 : 0 ≤ x1.toInt ∧ x1.toInt < 64) (h2 : 0 ≤ x2.toInt ∧ x2.toInt < 64) (h3 : t0.toInt = 0 ∨ t0.toInt = 1) (h3l : t0.toInt = 1 ↔ m x1.toInt % 8 = 1 ∧ (x2.toInt < 8 ∨ 56 ≤ x2.toInt)) (hgo : goR m sd rt ps x1.toInt x2.toInt) (H : ∀ (v : Int32) (I : Nat → Int32) (A : Nat → Nat → Int32), v.toInt = x2.toInt + 1 → FMi m sd rt ps ko (kyb x1 x2 + 8) I A → self15 x1 v I A = some o → G o) (hF : FMi m sd rt ps ko (kyb x1 x2) I A) (hf : f_findMoves_76 self7 self15 x1 x2 t0 I A = some o) : G o := by
  unfold f_findMoves_76 at hf
  obtain ⟨v1, e1, hf⟩ := m_bndE hf
  obtain ⟨v2, e2, hf⟩ := m_bndE hf
  have t1 : v1.toInt = 64 * x2.toInt := ti_mul e1 (show (64 : Int32).toInt = 64 from rfl) rfl (by omega) (by omega)
  have t2 : v2.toInt = x1.toInt + 64 * x2.toInt := ti_add e2 rfl t1 (by omega) (by omega)
  obtain ⟨o3, ho3, hf⟩ := m_clE hf
  obtain ⟨s3, r3, q3⟩ := rs_v hP hko h1 h2 hgo hF t2 ho3
  rw [s3] at hf
  have hF2 := fm_nA hF
  have z0 : (0 : Int32).toInt = 0 := rfl
  have z2 : (2 : Int32).toInt = 2 := rfl
  rcases m_ifE hf with ⟨c, hf⟩ | ⟨c, hf⟩
  · have c0 : t0.toInt = 0 := by rw [c]; rfl
    unfold f_findMoves_98 at hf
    exact fm_100 h1 h2 h3 h3l r3 hgo q3 H mFuel 0 _ _ (by omega) (fun _ => by omega) (fun h => by omega) hF2 hf
  · have c1 : t0.toInt = 1 := h3.resolve_left (fun h => c (Int32.toInt_inj.1 h))
    have ly := h3l.1 c1
    unfold f_findMoves_98 at hf
    refine fm_100 h1 h2 h3 h3l r3 hgo q3 H mFuel 2 _ _ (by omega) (fun h => by omega) (fun _ => by omega) ?_ hf
    refine fm_gap hF2 (by omega) (fun j j1 j2 hj => ?_)
    have e : j = kyb x1 x2 + (j - kyb x1 x2) := by omega
    have hj2 : j < kyb x1 x2 + 2 := j2
    rw [e] at hj
    have hq := ((lr_k h1 h2 (by omega)).1 hj).2.2
    rcases hq with ⟨-, g⟩ | ⟨g, -⟩
    · exact g ly
    · omega
theorem fm_15 {x1 : Int32} {o : Int32 × MS} {self7 : Int32 → (Nat → Int32) → (Nat → Nat → Int32) → Option (Int32 × MS)} {G : Int32 × MS → Prop} (hP : POS m sd rt ps kw kb) (hko : ko = if sd = 0 then kw else kb) (h1 : 0 ≤ x1.toInt ∧ x1.toInt < 64) (H7 : ∀ (v : Int32) (I : Nat → Int32) (A : Nat → Nat → Int32), v.toInt = x1.toInt + 1 → FMi m sd rt ps ko (v.toInt.toNat * 512) I A → self7 v I A = some o → G o) : ∀ (n : Nat) (x2 : Int32) (I : Nat → Int32) (A : Nat → Nat → Int32), (0 ≤ x2.toInt ∧ x2.toInt ≤ 64) → FMi m sd rt ps ko (kyb x1 x2) I A → f_findMoves_15 self7 n x1 x2 I A = some o → G o := by
  intro n
  have hs := hP.1
  induction n with
  | zero => intro x2 I A _ _ hf; cases hf
  | succ n ih =>
    intro x2 I A b2 hF hf
    have hf : f_findMoves_15s self7 (f_findMoves_15 self7 n) x1 x2 I A = some o := hf
    -- on to the next square from which one goes
    have nxt : ∀ {I : Nat → Int32} {A : Nat → Nat → Int32}, FMi m sd rt ps ko (kyb x1 x2) I A → (∀ j, kyb x1 x2 ≤ j → j < (x1.toInt.toNat + 1) * 512 → ¬ LR m sd rt ps ko j) → f_findMoves_163 self7 x1 I A = some o → G o := by
      intro I A hF hg hf
      unfold f_findMoves_163 at hf
      obtain ⟨v1, e1, hf⟩ := m_bndE hf
      have t1 : v1.toInt = x1.toInt + 1 := ti_add e1 rfl (show (1 : Int32).toInt = 1 from rfl) (by omega) (by omega)
      refine H7 v1 I A t1 ?_ hf
      have e : v1.toInt.toNat = x1.toInt.toNat + 1 := by omega
      rw [e]
      exact fm_gap hF (by unfold kyb; omega) hg
    unfold f_findMoves_15s at hf
    rcases m_ifE hf with ⟨c, hf⟩ | ⟨c, hf⟩
    · have c1 := ti_leP (a := (64 : Int32)) (b := x2) c (show (64 : Int32).toInt = 64 from rfl) rfl
      exact nxt hF (fun j j1 j2 => by unfold kyb at j1; omega) hf
    · have c1 := ti_leN (a := (64 : Int32)) (b := x2) c (show (64 : Int32).toInt = 64 from rfl) rfl
      have h2 : 0 ≤ x2.toInt ∧ x2.toInt < 64 := ⟨b2.1, c1⟩
      obtain ⟨-, hf⟩ := m_chkE hf
      obtain ⟨v1, e1, hf⟩ := m_bndE hf
      obtain ⟨f1, f2, f3, f4, f5, f6, f7, -, -⟩ := id hF
      have hv : v1.toInt = m x1.toInt := by
        rw [← f3]
        unfold mR
        rw [if_pos h1, e1]
        rfl
      have hMv := hP.2.1 x1.toInt
      obtain ⟨o2, ho2, hf⟩ := m_clE hf
      obtain ⟨s2, -, q2⟩ := ok_of (x_sideOf (x0 := v1) f1 f2 (by omega)) ho2
      rw [s2] at hf
      have H15 : ∀ (v : Int32) (I : Nat → Int32) (A : Nat → Nat → Int32), v.toInt = x2.toInt + 1 → FMi m sd rt ps ko (kyb x1 x2 + 8) I A → f_findMoves_15 self7 n x1 v I A = some o → G o := by
        intro v I A ev hF hf
        refine ih v I A (by omega) ?_ hf
        have e : kyb x1 v = kyb x1 x2 + 8 := by unfold kyb; omega
        rw [e]; exact hF
      rcases m_ifE hf with ⟨d, hf⟩ | ⟨d, hf⟩
      · obtain ⟨o3, ho3, hf⟩ := m_clE hf
        obtain ⟨s3, r3, q3⟩ := ok_of (x_goes (P := goR m sd rt ps x1.toInt x2.toInt) (x1 := x1) (x2 := x2) f1 f2 (by omega) (by omega) (by show goR m sd rt ps x1.toInt x2.toInt ↔ goR (mR A) (I 25).toInt (I 26).toInt (I 27).toInt x1.toInt x2.toInt; rw [f3, f4, f5, f6]) (by show MBd (mR A); rw [f3]; exact hP.2.1) (by show 0 ≤ (I 26).toInt ∧ (I 26).toInt ≤ 15; rw [f5]; exact hP.2.2.2.2.2.2.1)) ho3
        rw [s3] at hf
        rcases m_ifE hf with ⟨e, hf⟩ | ⟨e, hf⟩
        · refine fm_157 h1 h2 H15 (q := 0) (by omega) hF (fun p _ p8 hp => ?_) hf
          have := q3.2 ((lr_k h1 h2 p8).1 hp).1
          rw [e] at this
          exact absurd this (by decide)
        · have hgo := q3.1 (by have h9 : o3.1.toInt ≠ 0 := fun h => e (Int32.toInt_inj.1 h); omega)
          obtain ⟨-, hf⟩ := m_chkE hf
          obtain ⟨v4, e4, hf⟩ := m_bndE hf
          have hv4 : v4.toInt = m x1.toInt := by
            rw [← f3]
            unfold mR
            rw [if_pos h1, e4]
            rfl
          obtain ⟨o5, ho5, hf⟩ := m_clE hf
          obtain ⟨s5, -, q5⟩ := ok_of (x_kind (x0 := v4) f1 f2 (by omega)) ho5
          rw [s5] at hf
          rw [hv4] at q5
          have z1 : (1 : Int32).toInt = 1 := rfl
          have z0 : (0 : Int32).toInt = 0 := rfl
          have z8 : (8 : Int32).toInt = 8 := rfl
          have z55 : (55 : Int32).toInt = 55 := rfl
          have yes : m x1.toInt % 8 = 1 → (x2.toInt < 8 ∨ 56 ≤ x2.toInt) → f_findMoves_71 self7 (f_findMoves_15 self7 n) x1 x2 I A = some o → G o := by
            intro g1 g2 hf
            unfold f_findMoves_71 at hf
            exact fm_76 hP hko h1 h2 (Or.inr rfl) ⟨fun _ => ⟨g1, g2⟩, fun _ => rfl⟩ hgo H15 hF hf
          have no : ¬ (m x1.toInt % 8 = 1 ∧ (x2.toInt < 8 ∨ 56 ≤ x2.toInt)) → f_findMoves_75 self7 (f_findMoves_15 self7 n) x1 x2 I A = some o → G o := by
            intro g hf
            unfold f_findMoves_75 at hf
            exact fm_76 hP hko h1 h2 (Or.inl rfl) ⟨fun h => absurd h (by decide), fun h => absurd h g⟩ hgo H15 hF hf
          rcases m_ifE hf with ⟨k, hf⟩ | ⟨k, hf⟩
          · have k1 : m x1.toInt % 8 = 1 := by rw [← q5, k]; rfl
            rcases m_ifE hf with ⟨l, hf⟩ | ⟨l, hf⟩
            · have l1 := ti_ltP (a := x2) (b := (8 : Int32)) l rfl z8
              exact yes k1 (Or.inl l1) hf
            · have l1 := ti_ltN (a := x2) (b := (8 : Int32)) l rfl z8
              rcases m_ifE hf with ⟨r, hf⟩ | ⟨r, hf⟩
              · have r1 := ti_leP (a := x2) (b := (55 : Int32)) r rfl z55
                exact no (fun g => by omega) hf
              · have r1 := ti_leN (a := x2) (b := (55 : Int32)) r rfl z55
                exact yes k1 (Or.inr (by omega)) hf
          · have k1 : ¬ m x1.toInt % 8 = 1 := fun h => k (Int32.toInt_inj.1 (by rw [q5, h]; rfl))
            exact no (fun g => k1 g.1) hf
      · refine nxt hF (fun j j1 j2 hj => ?_) hf
        apply d
        have hm1 := hj.1.1
        have ej : ((j / 512 : Nat) : Int) = x1.toInt := by
          unfold kyb at j1
          omega
        rw [ej] at hm1
        apply Int32.toInt_inj.1
        show o2.1.toInt = (I 25).toInt
        rw [q2, f4, hv, if_neg hm1.1]
        exact hm1.2
theorem fm_7 {o : Int32 × MS} (hP : POS m sd rt ps kw kb) (hko : ko = if sd = 0 then kw else kb) : ∀ (n : Nat) (x1 : Int32) (I : Nat → Int32) (A : Nat → Nat → Int32), (0 ≤ x1.toInt ∧ x1.toInt ≤ 64) → FMi m sd rt ps ko (x1.toInt.toNat * 512) I A → f_findMoves_7 n x1 I A = some o → FMi m sd rt ps ko 32768 o.2.1 o.2.2 := by
  intro n
  induction n with
  | zero => intro x1 I A _ _ hf; cases hf
  | succ n ih =>
    intro x1 I A b1 hF hf
    have hf : f_findMoves_7s (f_findMoves_7 n) x1 I A = some o := hf
    unfold f_findMoves_7s at hf
    rcases m_ifE hf with ⟨c, hf⟩ | ⟨c, hf⟩
    · have c1 := ti_leP (a := (64 : Int32)) (b := x1) c (show (64 : Int32).toInt = 64 from rfl) rfl
      cases hf
      have e : x1.toInt.toNat * 512 = 32768 := by omega
      rw [e] at hF
      exact hF
    · have c1 := ti_leN (a := (64 : Int32)) (b := x1) c (show (64 : Int32).toInt = 64 from rfl) rfl
      refine fm_15 (G := fun o => FMi m sd rt ps ko 32768 o.2.1 o.2.2) hP hko ⟨b1.1, c1⟩ (fun v I A ev hF hf => ih v I A (by omega) hF hf) mFuel 0 I A (by decide) ?_ hf
      have e : kyb x1 0 = x1.toInt.toNat * 512 := by
        unfold kyb
        have z0 : (0 : Int32).toInt = 0 := rfl
        rw [z0]
        omega
      rw [e]; exact hF
/-- the reference's list of moves -/
theorem p_find {o : Int32 × MS} {I : Nat → Int32} {A : Nat → Nat → Int32} (hP : POS m sd rt ps kw kb) (hko : ko = if sd = 0 then kw else kb) (hI : TJ I) (hA : TK A) (hm : mR A = m) (h25 : (I 25).toInt = sd) (h26 : (I 26).toInt = rt) (h27 : (I 27).toInt = ps) (h29 : (I 29).toInt ≤ 1999) (hf : f_findMoves I A = some o) : FMi m sd rt ps ko 32768 o.2.1 o.2.2 := by
  have hf : f_findMoves_0 I A = some o := hf
  unfold f_findMoves_0 at hf
  obtain ⟨I1, e1, hf⟩ := m_bndE hf
  have oo : ∀ j, j ≠ 33 → I1 j = I j := fun j hj => by rw [e1]; exact upd_ne hj
  refine fm_7 hP hko mFuel 0 I1 A (by decide) ?_ hf
  refine ⟨by rw [e1]; exact tj_u hI (k := 33) (by decide) (by decide), hA, hm, by rw [oo 25 (by decide)]; exact h25, by rw [oo 26 (by decide)]; exact h26, by rw [oo 27 (by decide)]; exact h27, by rw [oo 29 (by decide)]; exact h29, ?_, fun key hk => absurd hk (Nat.not_lt_zero _)⟩
  rw [e1, upd_self]
  rfl
end FMS
end
section
section LGC
variable {m : Int → Int} {sd rt ps kw kb ko a t p : Int}
theorem m2_own (hP : POS m sd rt ps kw kb) (ha : 0 ≤ a ∧ a < 64) (ht : 0 ≤ t ∧ t < 64) (hr : rch m sd rt ps a t) (hp : PRo m a t p) : pv (m2B m ps a t) sd a p ≠ 0 ∧ pv (m2B m ps a t) sd a p / 8 = sd := by
  have hv := pv_v (p := p) hP ha ht hr
  obtain ⟨⟨n0, n1⟩, -, -⟩ := hr
  have hs := hP.1
  rw [hv]
  rcases hp with ⟨e, -⟩ | ⟨e1, e2, -, -⟩
  · rw [if_pos e]; exact ⟨n0, n1⟩
  · rw [if_neg (by omega)]
    omega
/-- whether a move is safe does not hang on what a pawn becomes -/
theorem saf_p (hP : POS m sd rt ps kw kb) (ha : 0 ≤ a ∧ a < 64) (ht : 0 ≤ t ∧ t < 64) (hr : rch m sd rt ps a t) (hp : PRo m a t p) : safC m sd ps ko a t p ↔ safC m sd ps ko a t 0 := by
  have hs := hP.1
  have hv := pv_v (p := p) hP ha ht hr
  have hv0 := pv_v (p := 0) hP ha ht hr
  rw [if_pos rfl] at hv0
  by_cases c : p = 0
  · rw [c]
  · have hp2 : 2 ≤ p ∧ p ≤ 5 ∧ m a % 8 = 1 := by
      rcases hp with ⟨e, -⟩ | ⟨e1, e2, e3, -⟩
      · exact absurd e c
      · exact ⟨e1, e2, e3⟩
    rw [if_neg c] at hv
    have ek : kgB m sd ps a t p sd ko = kgB m sd ps a t 0 sd ko := by
      unfold kgB
      rw [hv, hv0, if_neg (by omega), if_neg (by omega)]
    have n0 := hr.1
    have o1 : plB m sd ps a t p t ≠ 0 ∧ plB m sd ps a t p t / 8 ≠ 1 - sd := by
      have hat : t ≠ a := fun e => by rw [e] at hr; exact hr.2.1 hr.1
      rw [plB_at, if_neg hat, if_pos rfl, hv]
      omega
    have o2 : plB m sd ps a t 0 t ≠ 0 ∧ plB m sd ps a t 0 t / 8 ≠ 1 - sd := by
      have hat : t ≠ a := fun e => by rw [e] at hr; exact hr.2.1 hr.1
      rw [plB_at, if_neg hat, if_pos rfl, hv0]
      exact ⟨n0.1, by omega⟩
    have he : ∀ s, s ≠ t → plB m sd ps a t p s = plB m sd ps a t 0 s := fun s h => by
      rw [plB_at, plB_at]
      by_cases e : s = a
      · rw [if_pos e, if_pos e]
      · rw [if_neg e, if_neg e, if_neg h, if_neg h]
    unfold safC
    rw [ek]
    constructor
    · rintro ⟨g1, g2⟩
      exact ⟨g1, fun g => g2 (attd_own (fun s h => (he s h).symm) o2 o1 g)⟩
    · rintro ⟨g1, g2⟩
      exact ⟨g1, fun g => g2 (attd_own he o1 o2 g)⟩
/-- legal by the class is legal by the reference -/
theorem lr_lc {key : Nat} (hP : POS m sd rt ps kw kb) (hko : ko = if sd = 0 then kw else kb) (hk : key < 32768) : LR m sd rt ps ko key ↔ rch m sd rt ps ((key / 512 : Nat) : Int) ((key / 8 % 64 : Nat) : Int) ∧ safC m sd ps ko ((key / 512 : Nat) : Int) ((key / 8 % 64 : Nat) : Int) 0 ∧ PRo m ((key / 512 : Nat) : Int) ((key / 8 % 64 : Nat) : Int) ((key % 8 : Nat) : Int) := by
  have h := leg_eq (p := 0) (a := ((key / 512 : Nat) : Int)) (t := ((key / 8 % 64 : Nat) : Int)) hP (by omega) (by omega) (by decide)
  rw [← hko] at h
  unfold LR
  constructor
  · rintro ⟨g1, g2, g3⟩
    obtain ⟨q1, q2⟩ := h.1 ⟨g1, g2⟩
    exact ⟨q1, q2, g3⟩
  · rintro ⟨g1, g2, g3⟩
    obtain ⟨q1, q2⟩ := h.2 ⟨g1, g2⟩
    exact ⟨q1, q2, g3⟩
end LGC
/-- a board that rules look at, with their own board for trials -/
noncomputable def BX (S : ZS) (x0 tb bb : Nat) (m : Int → Int) (sd rt ps kw kb : Int) : Prop := ZT S ∧ (zK S x0 = 7 ∧ zP S 0 x0 = some tb) ∧ (zK S tb = 0 ∧ zP S 0 tb = some (tb + 1)) ∧ (zK S bb = 0 ∧ zP S 0 bb = some (bb + 1)) ∧ bb ≠ tb ∧ BN S bb ∧ mCb S bb = m ∧ (zI S 3 bb).toInt = sd ∧ (zI S 4 bb).toInt = rt ∧ (zI S 5 bb).toInt = ps ∧ (zI S 1 bb).toInt = kw ∧ (zI S 2 bb).toInt = kb
section BXS
variable {S S' : ZS} {x0 tb bb : Nat} {m : Int → Int} {sd rt ps kw kb : Int}
theorem bx_sb (h : BX S x0 tb bb m sd rt ps kw kb) (hT : ZT S') (hs : SB S S' tb) : BX S' x0 tb bb m sd rt ps kw kb := by
  obtain ⟨-, ⟨a1, a2⟩, ⟨b1, b2⟩, ⟨c1, c2⟩, d, e, f, g1, g2, g3, g4, g5⟩ := h
  have K : zK S' = zK S := hs.1.2.2.1
  have Q : zP S' = zP S := hs.2.1
  have i : ∀ j, zI S' j bb = zI S j bb := fun j => hs.2.2.1 j bb d
  refine ⟨hT, ⟨by rw [K]; exact a1, by rw [Q]; exact a2⟩, ⟨by rw [K]; exact b1, by rw [Q]; exact b2⟩, ⟨by rw [K]; exact c1, by rw [Q]; exact c2⟩, d, ?_, (mB_o hs c2 d).trans f, by rw [i]; exact g1, by rw [i]; exact g2, by rw [i]; exact g3, by rw [i]; exact g4, by rw [i]; exact g5⟩
  unfold BN
  rw [i, i]
  exact e
theorem bx_safe {x y : Int32} (h : BX S x0 tb bb m sd rt ps kw kb) (hM : MBd m) (hx : 0 ≤ x.toInt ∧ x.toInt ≤ 24575) (hf : f_X7_isSafe x0 bb x S = some (y, S')) : BX S' x0 tb bb m sd rt ps kw kb ∧ SB S S' tb ∧ (y.toInt = 0 ∨ y.toInt = 1) ∧ (y.toInt = 1 ↔ safC m sd ps (if sd = 0 then kw else kb) (x.toInt % 64) (x.toInt / 64 % 64) (x.toInt / 4096)) := by
  obtain ⟨hT, ⟨a1, a2⟩, ⟨b1, b2⟩, ⟨c1, c2⟩, d, e, f, g1, g2, g3, g4, g5⟩ := id h
  have T' : ZT S' := (ok_of (t_f_X7_isSafe (SZ := S) hT (a7_0 S) a1 c1) hf).1
  obtain ⟨q1, q2, q3⟩ := p_isSafe hT a1 a2 b1 b2 c1 c2 e f hM g1 g3 (by rw [g4, g5]) hx hf
  exact ⟨bx_sb h T' q1, q1, q2, q3⟩
theorem bx_reach {x1 x2 y : Int32} (h : BX S x0 tb bb m sd rt ps kw kb) (hM : MBd m) (hr : 0 ≤ rt ∧ rt ≤ 15) (h1 : 0 ≤ x1.toInt ∧ x1.toInt ≤ 63) (h2 : 0 ≤ x2.toInt ∧ x2.toInt ≤ 63) (hf : f_X0_reaches bb x1 x2 S = some (y, S')) : S' = S ∧ (y.toInt = 0 ∨ y.toInt = 1) ∧ (y.toInt = 1 ↔ rch m sd rt ps x1.toInt x2.toInt) := by
  obtain ⟨hT, -, -, ⟨c1, -⟩, -, -, f, g1, g2, g3, -, -⟩ := h
  obtain ⟨s, b, q⟩ := ok_of (x_f_X0_reaches hT c1 h1 h2 (by rw [f]; exact hM) (by rw [g2]; exact hr)) hf
  dsimp only at s b q
  rw [f, g1, g2, g3] at q
  exact ⟨s, by omega, q⟩
theorem bx_another {x1 x2 y : Int32} (h : BX S x0 tb bb m sd rt ps kw kb) (hM : MBd m) (h1 : 0 ≤ x1.toInt ∧ x1.toInt ≤ 63) (hf : f_X0_becomesAnother bb x1 x2 S = some (y, S')) : S' = S ∧ (y.toInt = 0 ∨ y.toInt = 1) ∧ (y.toInt = 1 ↔ m x1.toInt % 8 = 1 ∧ (x2.toInt < 8 ∨ 56 ≤ x2.toInt)) := by
  obtain ⟨hT, -, -, ⟨c1, -⟩, -, -, f, -⟩ := h
  obtain ⟨s, b, q⟩ := ok_of (x_f_X0_becomesAnother hT c1 h1 (by rw [f]; exact hM)) hf
  dsimp only at s b q
  rw [f] at q
  exact ⟨s, by omega, q⟩
end BXS
end
section
theorem sr12 (x : Int32) : (x >>> ((12 : Int32) &&& 31)).toInt = x.toInt / 4096 := by
  show (x.toBitVec.sshiftRight 12).toInt = x.toBitVec.toInt / 4096
  rw [BitVec.toInt_sshiftRight, Int.shiftRight_eq_div_pow]
  rfl
/-- the key of a move -/
noncomputable def kOf (x : Int) : Nat := ((x % 64).toNat * 64 + (x / 64 % 64).toNat) * 8 + (x / 4096).toNat
theorem kOf_e {x : Int} (h : 0 ≤ x ∧ x ≤ 24575) : kOf x < 32768 ∧ ((kOf x / 512 : Nat) : Int) = x % 64 ∧ ((kOf x / 8 % 64 : Nat) : Int) = x / 64 % 64 ∧ ((kOf x % 8 : Nat) : Int) = x / 4096 ∧ mvk (kOf x) = x := by
  obtain ⟨a1, a2, a3⟩ := key_e (a := (x % 64).toNat) (t := (x / 64 % 64).toNat) (p := (x / 4096).toNat) (by omega) (by omega)
  unfold mvk
  unfold kOf
  rw [a1, a2, a3]
  omega
theorem mvk_k {key : Nat} {x : Int} (hk : key < 32768) (hp : key % 8 ≤ 5) (e : mvk key = x) : (0 ≤ x ∧ x ≤ 24575) ∧ key = kOf x := by
  unfold mvk at e
  have h1 : x % 64 = ((key / 512 : Nat) : Int) := by omega
  have h2 : x / 64 % 64 = ((key / 8 % 64 : Nat) : Int) := by omega
  have h3 : x / 4096 = ((key % 8 : Nat) : Int) := by omega
  refine ⟨by omega, ?_⟩
  unfold kOf
  rw [h1, h2, h3, Int.toNat_natCast, Int.toNat_natCast, Int.toNat_natCast]
  omega
section ILG
variable {S S' : ZS} {x0 tb bb : Nat} {m : Int → Int} {sd rt ps kw kb ko : Int}
theorem lr_p5 {key : Nat} (h : LR m sd rt ps ko key) : key % 8 = 0 ∨ (2 ≤ key % 8 ∧ key % 8 ≤ 5) := by
  have := h.2.2
  unfold PRo at this
  omega
theorem p_isLegal {x2 y : Int32} (hB : BX S x0 tb bb m sd rt ps kw kb) (hP : POS m sd rt ps kw kb) (hko : ko = if sd = 0 then kw else kb) (hf : f_X7_isLegal x0 bb x2 S = some (y, S')) : BX S' x0 tb bb m sd rt ps kw kb ∧ SB S S' tb ∧ (y.toInt = 0 ∨ y.toInt = 1) ∧ (y.toInt = 1 ↔ ∃ key, key < 32768 ∧ LR m sd rt ps ko key ∧ mvk key = x2.toInt) := by
  have hf : f_X7_isLegal_0 x0 bb x2 S = some (y, S') := hf
  have z0 : (0 : Int32).toInt = 0 := rfl
  have z1 : (1 : Int32).toInt = 1 := rfl
  have z5 : (5 : Int32).toInt = 5 := rfl
  unfold f_X7_isLegal_0 at hf
  obtain ⟨v1, e1, hf⟩ := m_bndE hf
  obtain ⟨v2, e2, hf⟩ := m_bndE hf
  obtain ⟨v3, e3, hf⟩ := m_bndE hf
  obtain ⟨v4, e4, hf⟩ := m_bndE hf
  have s4 : v4.toInt = x2.toInt / 4096 := by rw [e4]; exact sr12 x2
  have no : (¬ ∃ key, key < 32768 ∧ LR m sd rt ps ko key ∧ mvk key = x2.toInt) → f_X7_isLegal_47 S = some (y, S') → BX S' x0 tb bb m sd rt ps kw kb ∧ SB S S' tb ∧ (y.toInt = 0 ∨ y.toInt = 1) ∧ (y.toInt = 1 ↔ ∃ key, key < 32768 ∧ LR m sd rt ps ko key ∧ mvk key = x2.toInt) := by
    intro hn hf
    unfold f_X7_isLegal_47 at hf
    obtain ⟨-, hf⟩ := m_chkE hf
    cases hf
    exact ⟨hB, sb_0, Or.inl rfl, fun h => absurd h (by decide), fun h => absurd h hn⟩
  have out : (v4.toInt < 0 ∨ v4.toInt = 1 ∨ 5 < v4.toInt) → ¬ ∃ key, key < 32768 ∧ LR m sd rt ps ko key ∧ mvk key = x2.toInt := by
    rintro hv ⟨key, k1, k2, k3⟩
    have k4 := lr_p5 k2
    obtain ⟨k5, k6⟩ := mvk_k k1 (by omega) k3
    obtain ⟨-, -, -, k7, -⟩ := kOf_e k5
    rw [← k6] at k7
    omega
  rcases m_ifE hf with ⟨c, hf⟩ | ⟨c, hf⟩
  · exact no (out (Or.inl (by have := ti_ltP (a := v4) (b := 0) c rfl rfl; omega))) hf
  · have c1 := ti_ltN (a := v4) (b := 0) c rfl rfl
    rcases m_ifE hf with ⟨d, hf⟩ | ⟨d, hf⟩
    · exact no (out (Or.inr (Or.inl (by rw [d]; rfl)))) hf
    · have d1 : v4.toInt ≠ 1 := fun h => d (Int32.toInt_inj.1 h)
      rcases m_ifE hf with ⟨f, hf⟩ | ⟨f, hf⟩
      · exact no (out (Or.inr (Or.inr (by have := ti_ltP (a := (5 : Int32)) (b := v4) f rfl rfl; omega)))) hf
      · have f1 := ti_ltN (a := (5 : Int32)) (b := v4) f rfl rfl
        have hx : 0 ≤ x2.toInt ∧ x2.toInt ≤ 24575 := by omega
        obtain ⟨t1, t3, -, t4⟩ := mv_bits hx e1 e2 e3 e4 rfl
        obtain ⟨k1, k2, k3, k4, k5⟩ := kOf_e hx
        -- the key of this move alone counts
        have one : (∃ key, key < 32768 ∧ LR m sd rt ps ko key ∧ mvk key = x2.toInt) ↔ (rch m sd rt ps v1.toInt v3.toInt ∧ safC m sd ps ko v1.toInt v3.toInt 0 ∧ PRo m v1.toInt v3.toInt v4.toInt) := by
          rw [t1, t3, t4, ← k2, ← k3, ← k4]
          constructor
          · rintro ⟨key, g1, g2, g3⟩
            have g4 := lr_p5 g2
            have g5 := (mvk_k g1 (by omega) g3).2
            rw [← g5]
            exact (lr_lc hP hko g1).1 g2
          · intro g
            exact ⟨kOf x2.toInt, k1, (lr_lc hP hko k1).2 g, k5⟩
        have hM := hP.2.1
        obtain ⟨-, hf⟩ := m_chkE hf
        obtain ⟨r5, h5, hf⟩ := m_calR hf (fun _ h => ro_X0_reaches h)
        obtain ⟨-, r5b, q5⟩ := bx_reach hB hM hP.2.2.2.2.2.2.1 (by omega) (by omega) h5
        dsimp only at r5b q5 hf
        rcases m_ifE hf with ⟨g, hf⟩ | ⟨g, hf⟩
        · refine no (fun h => ?_) hf
          have := q5.2 (one.1 h).1
          rw [g] at this
          omega
        · have hr := q5.1 (by have h9 : r5.toInt ≠ 0 := fun h => g (Int32.toInt_inj.1 h); omega)
          obtain ⟨-, hf⟩ := m_chkE hf
          obtain ⟨r6, h6, hf⟩ := m_calR hf (fun _ h => ro_X0_becomesAnother h)
          obtain ⟨-, r6b, q6⟩ := bx_another hB hM (by omega) h6
          dsimp only at r6b q6 hf
          have fin : ∀ {t0 : Int32}, (t0.toInt = 0 ∨ t0.toInt = 1) → (t0.toInt = 1 ↔ v4.toInt ≠ 0) → f_X7_isLegal_66 x0 bb x2 t0 r6 S = some (y, S') → BX S' x0 tb bb m sd rt ps kw kb ∧ SB S S' tb ∧ (y.toInt = 0 ∨ y.toInt = 1) ∧ (y.toInt = 1 ↔ ∃ key, key < 32768 ∧ LR m sd rt ps ko key ∧ mvk key = x2.toInt) := by
            intro t0 b0 ht0 hf
            unfold f_X7_isLegal_66 at hf
            rcases m_ifE hf with ⟨k, hf⟩ | ⟨k, hf⟩
            · have hpr : PRo m v1.toInt v3.toInt v4.toInt := by
                rw [k] at q6
                unfold PRo
                by_cases e0 : v4.toInt = 0
                · left
                  refine ⟨e0, fun h => ?_⟩
                  have := ht0.1 (q6.2 h)
                  exact this e0
                · right
                  have h9 := q6.1 (ht0.2 e0)
                  exact ⟨by clear one out no; omega, by clear one out no; omega, h9.1, h9.2⟩
              obtain ⟨-, hf⟩ := m_chkE hf
              obtain ⟨⟨r7, Sz⟩, h7, hf⟩ := m_calE hf
              obtain ⟨b7, sb7, r7b, q7⟩ := bx_safe hB hM hx h7
              dsimp only at hf
              rw [← hko, ← t1, ← t3, ← t4, saf_p hP (by omega) (by omega) hr hpr] at q7
              rcases m_ifE hf with ⟨l, hf⟩ | ⟨l, hf⟩
              · unfold f_X7_isLegal_82 f_X7_isLegal_83 at hf
                obtain ⟨-, hf⟩ := m_chkE hf
                cases hf
                refine ⟨b7, sb7, Or.inl rfl, fun h => absurd h (by decide), fun h => ?_⟩
                have := q7.2 (one.1 h).2.1
                rw [l] at this
                omega
              · unfold f_X7_isLegal_83 at hf
                obtain ⟨-, hf⟩ := m_chkE hf
                cases hf
                refine ⟨b7, sb7, Or.inr rfl, fun _ => one.2 ⟨hr, q7.1 (by have h9 : r7.toInt ≠ 0 := fun h => l (Int32.toInt_inj.1 h); clear one out no; omega), hpr⟩, fun _ => rfl⟩
            · unfold f_X7_isLegal_82 f_X7_isLegal_83 at hf
              obtain ⟨-, hf⟩ := m_chkE hf
              cases hf
              refine ⟨hB, sb_0, Or.inl rfl, fun h => absurd h (by decide), fun h => ?_⟩
              exfalso
              apply k
              apply Int32.toInt_inj.1
              have hpr := (one.1 h).2.2
              rcases hpr with ⟨e0, g0⟩ | ⟨e0, e1', g0, g1⟩
              · have a1 : r6.toInt ≠ 1 := fun h => g0 (q6.1 h)
                have a2 : t0.toInt ≠ 1 := fun h => ht0.1 h e0
                omega
              · have a1 := q6.2 ⟨g0, g1⟩
                have a2 := ht0.2 (by omega)
                omega
          rcases m_ifE hf with ⟨k, hf⟩ | ⟨k, hf⟩
          · have k0 : v4.toInt = 0 := by rw [k]; rfl
            exact fin (Or.inl rfl) ⟨fun h => absurd h (by decide), fun h => absurd k0 h⟩ hf
          · have k0 : v4.toInt ≠ 0 := fun h => k (Int32.toInt_inj.1 h)
            exact fin (Or.inr rfl) ⟨fun _ => k0, fun _ => rfl⟩ hf
end ILG
end
section
/-- the characters of a row of the class, and of the reference's text -/
noncomputable def rwC (S : ZS) (a : Nat) (i : Int) : Int := if 0 ≤ i ∧ i < (zI S 1 a).toInt then (match zP S 0 a with | some c => (zA S c i.toNat).toInt | none => 0) else 0
noncomputable def txR (I : Nat → Int32) (A : Nat → Nat → Int32) (i : Int) : Int := if 0 ≤ i ∧ i < (I 1).toInt then (A 2 i.toNat).toInt else 0
theorem rw_at {S : ZS} {a c : Nat} {x v : Int32} (p : zP S 0 a = some c) (e : v = zA S c x.toNatClampNeg) (h1 : 0 ≤ x.toInt) (h2 : x.toInt < (zI S 1 a).toInt) : v.toInt = rwC S a x.toInt := by
  unfold rwC
  rw [if_pos ⟨h1, h2⟩, p, e]
  rfl
theorem rw_out {S : ZS} {a : Nat} {i : Int} (h : i < 0 ∨ (zI S 1 a).toInt ≤ i) : rwC S a i = 0 := by
  unfold rwC
  rw [if_neg (by omega)]
theorem tx_at {I : Nat → Int32} {A : Nat → Nat → Int32} {x v : Int32} (e : v = A 2 x.toNatClampNeg) (h1 : 0 ≤ x.toInt) (h2 : x.toInt < (I 1).toInt) : v.toInt = txR I A x.toInt := by
  unfold txR
  rw [if_pos ⟨h1, h2⟩, e]
  rfl
theorem tx_out {I : Nat → Int32} {A : Nat → Nat → Int32} {i : Int} (h : i < 0 ∨ (I 1).toInt ≤ i) : txR I A i = 0 := by
  unfold txR
  rw [if_neg (by omega)]
section PCC
variable {S : ZS} {x0 : Nat} {x1 x2 : Int32}
theorem pc_X6_size {o : Int32 × ZS} (hf : f_X6_size x0 S = some o) : o.1 = zI S 1 x0 := by
  have hf : f_X6_size_0 x0 S = some o := hf
  unfold f_X6_size_0 at hf
  obtain ⟨-, hf⟩ := m_chkE hf
  cases hf
  try dsimp only
  try rfl
theorem pc_X6_at {o : Int32 × ZS} (hf : f_X6_at x0 x1 S = some o) : o.1.toInt = rwC S x0 x1.toInt := by
  have hf : f_X6_at_0 x0 x1 S = some o := hf
  unfold f_X6_at_0 at hf
  rcases m_ifE hf with ⟨c1, hf⟩ | ⟨c1, hf⟩
  · skip
    replace c1 := ti_ltP (a := x1) (b := (0 : Int32)) c1 rfl (show (0 : Int32).toInt = 0 from rfl)
    unfold f_X6_at_21 at hf
    unfold f_X6_at_22 at hf
    obtain ⟨-, hf⟩ := m_chkE hf
    cases hf
    try dsimp only
    exact (rw_out (by omega)).symm
  · skip
    replace c1 := ti_ltN (a := x1) (b := (0 : Int32)) c1 rfl (show (0 : Int32).toInt = 0 from rfl)
    obtain ⟨-, hf⟩ := m_chkE hf
    rcases m_ifE hf with ⟨c2, hf⟩ | ⟨c2, hf⟩
    · skip
      replace c2 := ti_leP (a := (zI S 1 x0)) (b := x1) c2 rfl rfl
      unfold f_X6_at_21 at hf
      unfold f_X6_at_22 at hf
      obtain ⟨-, hf⟩ := m_chkE hf
      cases hf
      try dsimp only
      exact (rw_out (by omega)).symm
    · skip
      replace c2 := ti_leN (a := (zI S 1 x0)) (b := x1) c2 rfl rfl
      obtain ⟨-, hf⟩ := m_chkE hf
      obtain ⟨b1, h_b1, hf⟩ := m_calE hf
      obtain ⟨-, hf⟩ := m_chkE hf
      obtain ⟨-, hf⟩ := m_chkE hf
      obtain ⟨v2, e_v2, hf⟩ := m_bndE hf
      unfold f_X6_at_22 at hf
      obtain ⟨-, hf⟩ := m_chkE hf
      cases hf
      try dsimp only
      exact rw_at h_b1 e_v2 (by omega) (by omega)
noncomputable def isL (c : Int) : Prop := (97 ≤ c ∧ c ≤ 122) ∨ (65 ≤ c ∧ c ≤ 90)
noncomputable def isD (c : Int) : Prop := 48 ≤ c ∧ c ≤ 57
theorem pc_X11_isLetter {x0 : Int32} {o : Int32 × ZS} (hf : f_X11_isLetter x0 S = some o) : (o.1.toInt = 0 ∨ o.1.toInt = 1) ∧ (o.1.toInt = 1 ↔ isL x0.toInt) := by
  have hf : f_X11_isLetter_0 x0 S = some o := hf
  have z0 : (0 : Int32).toInt = 0 := rfl
  have z1 : (1 : Int32).toInt = 1 := rfl
  unfold f_X11_isLetter_0 at hf
  rcases m_ifE hf with ⟨c1, hf⟩ | ⟨c1, hf⟩
  · skip
    replace c1 := ti_ltP (a := x0) (b := (97 : Int32)) c1 rfl (show (97 : Int32).toInt = 97 from rfl)
    unfold f_X11_isLetter_12 at hf
    rcases m_ifE hf with ⟨c2, hf⟩ | ⟨c2, hf⟩
    · skip
      replace c2 := ti_ltP (a := x0) (b := (65 : Int32)) c2 rfl (show (65 : Int32).toInt = 65 from rfl)
      unfold f_X11_isLetter_28 at hf
      unfold f_X11_isLetter_29 at hf
      obtain ⟨-, hf⟩ := m_chkE hf
      cases hf
      try dsimp only
      unfold isL
      omega
    · skip
      replace c2 := ti_ltN (a := x0) (b := (65 : Int32)) c2 rfl (show (65 : Int32).toInt = 65 from rfl)
      rcases m_ifE hf with ⟨c3, hf⟩ | ⟨c3, hf⟩
      · skip
        replace c3 := ti_ltP (a := (90 : Int32)) (b := x0) c3 (show (90 : Int32).toInt = 90 from rfl) rfl
        unfold f_X11_isLetter_28 at hf
        unfold f_X11_isLetter_29 at hf
        obtain ⟨-, hf⟩ := m_chkE hf
        cases hf
        try dsimp only
        unfold isL
        omega
      · skip
        replace c3 := ti_ltN (a := (90 : Int32)) (b := x0) c3 (show (90 : Int32).toInt = 90 from rfl) rfl
        unfold f_X11_isLetter_24 at hf
        unfold f_X11_isLetter_29 at hf
        obtain ⟨-, hf⟩ := m_chkE hf
        cases hf
        try dsimp only
        unfold isL
        omega
  · skip
    replace c1 := ti_ltN (a := x0) (b := (97 : Int32)) c1 rfl (show (97 : Int32).toInt = 97 from rfl)
    rcases m_ifE hf with ⟨c4, hf⟩ | ⟨c4, hf⟩
    · skip
      replace c4 := ti_leP (a := x0) (b := (122 : Int32)) c4 rfl (show (122 : Int32).toInt = 122 from rfl)
      unfold f_X11_isLetter_24 at hf
      unfold f_X11_isLetter_29 at hf
      obtain ⟨-, hf⟩ := m_chkE hf
      cases hf
      try dsimp only
      unfold isL
      omega
    · skip
      replace c4 := ti_leN (a := x0) (b := (122 : Int32)) c4 rfl (show (122 : Int32).toInt = 122 from rfl)
      unfold f_X11_isLetter_12 at hf
      rcases m_ifE hf with ⟨c5, hf⟩ | ⟨c5, hf⟩
      · skip
        replace c5 := ti_ltP (a := x0) (b := (65 : Int32)) c5 rfl (show (65 : Int32).toInt = 65 from rfl)
        unfold f_X11_isLetter_28 at hf
        unfold f_X11_isLetter_29 at hf
        obtain ⟨-, hf⟩ := m_chkE hf
        cases hf
        try dsimp only
        unfold isL
        omega
      · skip
        replace c5 := ti_ltN (a := x0) (b := (65 : Int32)) c5 rfl (show (65 : Int32).toInt = 65 from rfl)
        rcases m_ifE hf with ⟨c6, hf⟩ | ⟨c6, hf⟩
        · skip
          replace c6 := ti_ltP (a := (90 : Int32)) (b := x0) c6 (show (90 : Int32).toInt = 90 from rfl) rfl
          unfold f_X11_isLetter_28 at hf
          unfold f_X11_isLetter_29 at hf
          obtain ⟨-, hf⟩ := m_chkE hf
          cases hf
          try dsimp only
          unfold isL
          omega
        · skip
          replace c6 := ti_ltN (a := (90 : Int32)) (b := x0) c6 (show (90 : Int32).toInt = 90 from rfl) rfl
          unfold f_X11_isLetter_24 at hf
          unfold f_X11_isLetter_29 at hf
          obtain ⟨-, hf⟩ := m_chkE hf
          cases hf
          try dsimp only
          unfold isL
          omega
theorem pc_X11_isDigit {x0 : Int32} {o : Int32 × ZS} (hf : f_X11_isDigit x0 S = some o) : (o.1.toInt = 0 ∨ o.1.toInt = 1) ∧ (o.1.toInt = 1 ↔ isD x0.toInt) := by
  have hf : f_X11_isDigit_0 x0 S = some o := hf
  have z0 : (0 : Int32).toInt = 0 := rfl
  have z1 : (1 : Int32).toInt = 1 := rfl
  unfold f_X11_isDigit_0 at hf
  rcases m_ifE hf with ⟨c1, hf⟩ | ⟨c1, hf⟩
  · skip
    replace c1 := ti_ltP (a := x0) (b := (48 : Int32)) c1 rfl (show (48 : Int32).toInt = 48 from rfl)
    unfold f_X11_isDigit_16 at hf
    unfold f_X11_isDigit_17 at hf
    obtain ⟨-, hf⟩ := m_chkE hf
    cases hf
    try dsimp only
    unfold isD
    omega
  · skip
    replace c1 := ti_ltN (a := x0) (b := (48 : Int32)) c1 rfl (show (48 : Int32).toInt = 48 from rfl)
    rcases m_ifE hf with ⟨c2, hf⟩ | ⟨c2, hf⟩
    · skip
      replace c2 := ti_ltP (a := (57 : Int32)) (b := x0) c2 (show (57 : Int32).toInt = 57 from rfl) rfl
      unfold f_X11_isDigit_16 at hf
      unfold f_X11_isDigit_17 at hf
      obtain ⟨-, hf⟩ := m_chkE hf
      cases hf
      try dsimp only
      unfold isD
      omega
    · skip
      replace c2 := ti_ltN (a := (57 : Int32)) (b := x0) c2 (show (57 : Int32).toInt = 57 from rfl) rfl
      unfold f_X11_isDigit_17 at hf
      obtain ⟨-, hf⟩ := m_chkE hf
      cases hf
      try dsimp only
      unfold isD
      omega
theorem pc_X11_isFile {x0 : Int32} {o : Int32 × ZS} (hf : f_X11_isFile x0 S = some o) : (o.1.toInt = 0 ∨ o.1.toInt = 1) ∧ (o.1.toInt = 1 ↔ 97 ≤ x0.toInt ∧ x0.toInt ≤ 104) := by
  have hf : f_X11_isFile_0 x0 S = some o := hf
  have z0 : (0 : Int32).toInt = 0 := rfl
  have z1 : (1 : Int32).toInt = 1 := rfl
  unfold f_X11_isFile_0 at hf
  rcases m_ifE hf with ⟨c1, hf⟩ | ⟨c1, hf⟩
  · skip
    replace c1 := ti_ltP (a := x0) (b := (97 : Int32)) c1 rfl (show (97 : Int32).toInt = 97 from rfl)
    unfold f_X11_isFile_16 at hf
    unfold f_X11_isFile_17 at hf
    obtain ⟨-, hf⟩ := m_chkE hf
    cases hf
    try dsimp only
    omega
  · skip
    replace c1 := ti_ltN (a := x0) (b := (97 : Int32)) c1 rfl (show (97 : Int32).toInt = 97 from rfl)
    rcases m_ifE hf with ⟨c2, hf⟩ | ⟨c2, hf⟩
    · skip
      replace c2 := ti_ltP (a := (104 : Int32)) (b := x0) c2 (show (104 : Int32).toInt = 104 from rfl) rfl
      unfold f_X11_isFile_16 at hf
      unfold f_X11_isFile_17 at hf
      obtain ⟨-, hf⟩ := m_chkE hf
      cases hf
      try dsimp only
      omega
    · skip
      replace c2 := ti_ltN (a := (104 : Int32)) (b := x0) c2 (show (104 : Int32).toInt = 104 from rfl) rfl
      unfold f_X11_isFile_17 at hf
      obtain ⟨-, hf⟩ := m_chkE hf
      cases hf
      try dsimp only
      omega
theorem pc_X11_isRank {x0 : Int32} {o : Int32 × ZS} (hf : f_X11_isRank x0 S = some o) : (o.1.toInt = 0 ∨ o.1.toInt = 1) ∧ (o.1.toInt = 1 ↔ 49 ≤ x0.toInt ∧ x0.toInt ≤ 56) := by
  have hf : f_X11_isRank_0 x0 S = some o := hf
  have z0 : (0 : Int32).toInt = 0 := rfl
  have z1 : (1 : Int32).toInt = 1 := rfl
  unfold f_X11_isRank_0 at hf
  rcases m_ifE hf with ⟨c1, hf⟩ | ⟨c1, hf⟩
  · skip
    replace c1 := ti_ltP (a := x0) (b := (49 : Int32)) c1 rfl (show (49 : Int32).toInt = 49 from rfl)
    unfold f_X11_isRank_16 at hf
    unfold f_X11_isRank_17 at hf
    obtain ⟨-, hf⟩ := m_chkE hf
    cases hf
    try dsimp only
    omega
  · skip
    replace c1 := ti_ltN (a := x0) (b := (49 : Int32)) c1 rfl (show (49 : Int32).toInt = 49 from rfl)
    rcases m_ifE hf with ⟨c2, hf⟩ | ⟨c2, hf⟩
    · skip
      replace c2 := ti_ltP (a := (56 : Int32)) (b := x0) c2 (show (56 : Int32).toInt = 56 from rfl) rfl
      unfold f_X11_isRank_16 at hf
      unfold f_X11_isRank_17 at hf
      obtain ⟨-, hf⟩ := m_chkE hf
      cases hf
      try dsimp only
      omega
    · skip
      replace c2 := ti_ltN (a := (56 : Int32)) (b := x0) c2 (show (56 : Int32).toInt = 56 from rfl) rfl
      unfold f_X11_isRank_17 at hf
      obtain ⟨-, hf⟩ := m_chkE hf
      cases hf
      try dsimp only
      omega
/-- the square that two characters tell -/
noncomputable def sqO (f r : Int) : Int := if 97 ≤ f ∧ f ≤ 104 ∧ 49 ≤ r ∧ r ≤ 56 then f - 97 + 8 * (r - 49) else -1
theorem pc_X11_squareOf {x0 x1 : Int32} {o : Int32 × ZS} (hf : f_X11_squareOf x0 x1 S = some o) : o.1.toInt = sqO x0.toInt x1.toInt := by
  have hf : f_X11_squareOf_0 x0 x1 S = some o := hf
  have z1 : (-1 : Int32).toInt = -1 := rfl
  unfold sqO
  unfold f_X11_squareOf_0 at hf
  obtain ⟨r1, h_r1, hf⟩ := m_calR hf (fun _ h => ro_X11_isFile h)
  dsimp only at hf
  have p_r1 := pc_X11_isFile h_r1
  dsimp only at p_r1
  rcases m_ifE hf with ⟨c1, hf⟩ | ⟨c1, hf⟩
  · skip
    replace c1 := ti_eqP (a := r1) (b := (0 : Int32)) c1 rfl (show (0 : Int32).toInt = 0 from rfl)
    unfold f_X11_squareOf_29 at hf
    unfold f_X11_squareOf_30 at hf
    cases hf
    try dsimp only
    rw [if_neg (by omega)]; exact z1
  · skip
    replace c1 := ti_eqN (a := r1) (b := (0 : Int32)) c1 rfl (show (0 : Int32).toInt = 0 from rfl)
    obtain ⟨r2, h_r2, hf⟩ := m_calR hf (fun _ h => ro_X11_isRank h)
    dsimp only at hf
    have p_r2 := pc_X11_isRank h_r2
    dsimp only at p_r2
    rcases m_ifE hf with ⟨c2, hf⟩ | ⟨c2, hf⟩
    · skip
      replace c2 := ti_eqP (a := r2) (b := (0 : Int32)) c2 rfl (show (0 : Int32).toInt = 0 from rfl)
      unfold f_X11_squareOf_29 at hf
      unfold f_X11_squareOf_30 at hf
      cases hf
      try dsimp only
      rw [if_neg (by omega)]; exact z1
    · skip
      replace c2 := ti_eqN (a := r2) (b := (0 : Int32)) c2 rfl (show (0 : Int32).toInt = 0 from rfl)
      have g1 := p_r1.2.1 (by omega)
      have g2 := p_r2.2.1 (by omega)
      obtain ⟨v3, e_v3, hf⟩ := m_bndE hf
      have t_v3 : v3.toInt = x0.toInt - 97 := ti_sub e_v3 rfl (show (97 : Int32).toInt = 97 from rfl) (by omega) (by omega)
      obtain ⟨v4, e_v4, hf⟩ := m_bndE hf
      have t_v4 : v4.toInt = x1.toInt - 49 := ti_sub e_v4 rfl (show (49 : Int32).toInt = 49 from rfl) (by omega) (by omega)
      obtain ⟨v5, e_v5, hf⟩ := m_bndE hf
      have t_v5 : v5.toInt = 8 * v4.toInt := ti_mul e_v5 (show (8 : Int32).toInt = 8 from rfl) rfl (by omega) (by omega)
      obtain ⟨v6, e_v6, hf⟩ := m_bndE hf
      have t_v6 : v6.toInt = v3.toInt + v5.toInt := ti_add e_v6 rfl rfl (by omega) (by omega)
      unfold f_X11_squareOf_30 at hf
      cases hf
      try dsimp only
      rw [if_pos (by omega)]; omega
theorem pc_X2_isSign {x0 : Int32} {o : Int32 × ZS} (hf : f_X2_isSign x0 S = some o) : (o.1.toInt = 0 ∨ o.1.toInt = 1) ∧ (o.1.toInt = 1 ↔ isL x0.toInt ∨ isD x0.toInt ∨ x0.toInt = 61 ∨ x0.toInt = 45 ∨ x0.toInt = 43 ∨ x0.toInt = 35) := by
  have hf : f_X2_isSign_0 x0 S = some o := hf
  have z0 : (0 : Int32).toInt = 0 := rfl
  have z1 : (1 : Int32).toInt = 1 := rfl
  unfold f_X2_isSign_0 at hf
  obtain ⟨r1, h_r1, hf⟩ := m_calR hf (fun _ h => ro_X11_isLetter h)
  dsimp only at hf
  have p_r1 := pc_X11_isLetter h_r1
  dsimp only at p_r1
  rcases m_ifE hf with ⟨c1, hf⟩ | ⟨c1, hf⟩
  · skip
    replace c1 := ti_eqP (a := r1) (b := (0 : Int32)) c1 rfl (show (0 : Int32).toInt = 0 from rfl)
    obtain ⟨r2, h_r2, hf⟩ := m_calR hf (fun _ h => ro_X11_isDigit h)
    dsimp only at hf
    have p_r2 := pc_X11_isDigit h_r2
    dsimp only at p_r2
    rcases m_ifE hf with ⟨c2, hf⟩ | ⟨c2, hf⟩
    · skip
      replace c2 := ti_eqP (a := r2) (b := (0 : Int32)) c2 rfl (show (0 : Int32).toInt = 0 from rfl)
      rcases m_ifE hf with ⟨c3, hf⟩ | ⟨c3, hf⟩
      · skip
        replace c3 := ti_eqP (a := x0) (b := (61 : Int32)) c3 rfl (show (61 : Int32).toInt = 61 from rfl)
        unfold f_X2_isSign_38 at hf
        unfold f_X2_isSign_43 at hf
        obtain ⟨-, hf⟩ := m_chkE hf
        cases hf
        try dsimp only
        unfold isL at *
        unfold isD at *
        omega
      · skip
        replace c3 := ti_eqN (a := x0) (b := (61 : Int32)) c3 rfl (show (61 : Int32).toInt = 61 from rfl)
        rcases m_ifE hf with ⟨c4, hf⟩ | ⟨c4, hf⟩
        · skip
          replace c4 := ti_eqP (a := x0) (b := (45 : Int32)) c4 rfl (show (45 : Int32).toInt = 45 from rfl)
          unfold f_X2_isSign_38 at hf
          unfold f_X2_isSign_43 at hf
          obtain ⟨-, hf⟩ := m_chkE hf
          cases hf
          try dsimp only
          unfold isL at *
          unfold isD at *
          omega
        · skip
          replace c4 := ti_eqN (a := x0) (b := (45 : Int32)) c4 rfl (show (45 : Int32).toInt = 45 from rfl)
          rcases m_ifE hf with ⟨c5, hf⟩ | ⟨c5, hf⟩
          · skip
            replace c5 := ti_eqP (a := x0) (b := (43 : Int32)) c5 rfl (show (43 : Int32).toInt = 43 from rfl)
            unfold f_X2_isSign_38 at hf
            unfold f_X2_isSign_43 at hf
            obtain ⟨-, hf⟩ := m_chkE hf
            cases hf
            try dsimp only
            unfold isL at *
            unfold isD at *
            omega
          · skip
            replace c5 := ti_eqN (a := x0) (b := (43 : Int32)) c5 rfl (show (43 : Int32).toInt = 43 from rfl)
            rcases m_ifE hf with ⟨c6, hf⟩ | ⟨c6, hf⟩
            · skip
              replace c6 := ti_eqP (a := x0) (b := (35 : Int32)) c6 rfl (show (35 : Int32).toInt = 35 from rfl)
              unfold f_X2_isSign_38 at hf
              unfold f_X2_isSign_43 at hf
              obtain ⟨-, hf⟩ := m_chkE hf
              cases hf
              try dsimp only
              unfold isL at *
              unfold isD at *
              omega
            · skip
              replace c6 := ti_eqN (a := x0) (b := (35 : Int32)) c6 rfl (show (35 : Int32).toInt = 35 from rfl)
              unfold f_X2_isSign_43 at hf
              obtain ⟨-, hf⟩ := m_chkE hf
              cases hf
              try dsimp only
              unfold isL at *
              unfold isD at *
              omega
    · skip
      replace c2 := ti_eqN (a := r2) (b := (0 : Int32)) c2 rfl (show (0 : Int32).toInt = 0 from rfl)
      unfold f_X2_isSign_38 at hf
      unfold f_X2_isSign_43 at hf
      obtain ⟨-, hf⟩ := m_chkE hf
      cases hf
      try dsimp only
      unfold isL at *
      unfold isD at *
      omega
  · skip
    replace c1 := ti_eqN (a := r1) (b := (0 : Int32)) c1 rfl (show (0 : Int32).toInt = 0 from rfl)
    unfold f_X2_isSign_38 at hf
    unfold f_X2_isSign_43 at hf
    obtain ⟨-, hf⟩ := m_chkE hf
    cases hf
    try dsimp only
    unfold isL at *
    unfold isD at *
    omega
noncomputable def shM (c t : Int) : Int := if c = 33 then (if t = 33 then 3 else if t = 63 then 5 else 1) else if c = 63 then (if t = 63 then 4 else if t = 33 then 6 else 2) else 0
theorem pc_X2_shortMark {x0 x1 : Int32} {o : Int32 × ZS} (hf : f_X2_shortMark x0 x1 S = some o) : o.1.toInt = shM x0.toInt x1.toInt := by
  have hf : f_X2_shortMark_0 x0 x1 S = some o := hf
  have z0 : (0 : Int32).toInt = 0 := rfl
  have z1 : (1 : Int32).toInt = 1 := rfl
  have z2 : (2 : Int32).toInt = 2 := rfl
  have z3 : (3 : Int32).toInt = 3 := rfl
  have z4 : (4 : Int32).toInt = 4 := rfl
  have z5 : (5 : Int32).toInt = 5 := rfl
  have z6 : (6 : Int32).toInt = 6 := rfl
  unfold shM
  unfold f_X2_shortMark_0 at hf
  rcases m_ifE hf with ⟨c1, hf⟩ | ⟨c1, hf⟩
  · skip
    replace c1 := ti_eqP (a := x0) (b := (33 : Int32)) c1 rfl (show (33 : Int32).toInt = 33 from rfl)
    rcases m_ifE hf with ⟨c2, hf⟩ | ⟨c2, hf⟩
    · skip
      replace c2 := ti_eqP (a := x1) (b := (33 : Int32)) c2 rfl (show (33 : Int32).toInt = 33 from rfl)
      unfold f_X2_shortMark_27 at hf
      cases hf
      try dsimp only
      omega
    · skip
      replace c2 := ti_eqN (a := x1) (b := (33 : Int32)) c2 rfl (show (33 : Int32).toInt = 33 from rfl)
      rcases m_ifE hf with ⟨c3, hf⟩ | ⟨c3, hf⟩
      · skip
        replace c3 := ti_eqP (a := x1) (b := (63 : Int32)) c3 rfl (show (63 : Int32).toInt = 63 from rfl)
        unfold f_X2_shortMark_27 at hf
        cases hf
        try dsimp only
        omega
      · skip
        replace c3 := ti_eqN (a := x1) (b := (63 : Int32)) c3 rfl (show (63 : Int32).toInt = 63 from rfl)
        unfold f_X2_shortMark_27 at hf
        cases hf
        try dsimp only
        omega
  · skip
    replace c1 := ti_eqN (a := x0) (b := (33 : Int32)) c1 rfl (show (33 : Int32).toInt = 33 from rfl)
    rcases m_ifE hf with ⟨c4, hf⟩ | ⟨c4, hf⟩
    · skip
      replace c4 := ti_eqP (a := x0) (b := (63 : Int32)) c4 rfl (show (63 : Int32).toInt = 63 from rfl)
      rcases m_ifE hf with ⟨c5, hf⟩ | ⟨c5, hf⟩
      · skip
        replace c5 := ti_eqP (a := x1) (b := (63 : Int32)) c5 rfl (show (63 : Int32).toInt = 63 from rfl)
        unfold f_X2_shortMark_56 at hf
        cases hf
        try dsimp only
        omega
      · skip
        replace c5 := ti_eqN (a := x1) (b := (63 : Int32)) c5 rfl (show (63 : Int32).toInt = 63 from rfl)
        rcases m_ifE hf with ⟨c6, hf⟩ | ⟨c6, hf⟩
        · skip
          replace c6 := ti_eqP (a := x1) (b := (33 : Int32)) c6 rfl (show (33 : Int32).toInt = 33 from rfl)
          unfold f_X2_shortMark_56 at hf
          cases hf
          try dsimp only
          omega
        · skip
          replace c6 := ti_eqN (a := x1) (b := (33 : Int32)) c6 rfl (show (33 : Int32).toInt = 33 from rfl)
          unfold f_X2_shortMark_56 at hf
          cases hf
          try dsimp only
          omega
    · skip
      replace c4 := ti_eqN (a := x0) (b := (63 : Int32)) c4 rfl (show (63 : Int32).toInt = 63 from rfl)
      cases hf
      try dsimp only
      omega
end PCC
section PCR
variable {I : Nat → Int32} {A : Nat → Nat → Int32} {x0 x1 x2 : Int32} {o : Int32 × MS}
theorem pc_look (hf : f_look I A = some o) : 0 ≤ (I 37).toInt → o.1.toInt = txR I A (I 37).toInt := by
  intro h37
  have hf : f_look_0 I A = some o := hf
  unfold f_look_0 at hf
  rcases m_ifE hf with ⟨c1, hf⟩ | ⟨c1, hf⟩
  · skip
    replace c1 := ti_leP (a := (I 1)) (b := (I 37)) c1 rfl rfl
    unfold f_look_24 at hf
    obtain ⟨-, hf⟩ := m_chkE hf
    cases hf
    try dsimp only
    exact (tx_out (by omega)).symm
  · skip
    replace c1 := ti_leN (a := (I 1)) (b := (I 37)) c1 rfl rfl
    obtain ⟨-, hf⟩ := m_chkE hf
    obtain ⟨v1, e_v1, hf⟩ := m_bndE hf
    unfold f_look_24 at hf
    obtain ⟨-, hf⟩ := m_chkE hf
    cases hf
    try dsimp only
    exact tx_at e_v1 (by omega) (by omega)
theorem pc_isLetter (hf : f_isLetter x0 I A = some o) : (o.1.toInt = 0 ∨ o.1.toInt = 1) ∧ (o.1.toInt = 1 ↔ isL x0.toInt) := by
  have hf : f_isLetter_0 x0 I A = some o := hf
  have z0 : (0 : Int32).toInt = 0 := rfl
  have z1 : (1 : Int32).toInt = 1 := rfl
  unfold f_isLetter_0 at hf
  rcases m_ifE hf with ⟨c1, hf⟩ | ⟨c1, hf⟩
  · skip
    replace c1 := ti_ltP (a := x0) (b := (97 : Int32)) c1 rfl (show (97 : Int32).toInt = 97 from rfl)
    unfold f_isLetter_12 at hf
    rcases m_ifE hf with ⟨c2, hf⟩ | ⟨c2, hf⟩
    · skip
      replace c2 := ti_ltP (a := x0) (b := (65 : Int32)) c2 rfl (show (65 : Int32).toInt = 65 from rfl)
      unfold f_isLetter_28 at hf
      unfold f_isLetter_29 at hf
      obtain ⟨-, hf⟩ := m_chkE hf
      cases hf
      try dsimp only
      unfold isL
      omega
    · skip
      replace c2 := ti_ltN (a := x0) (b := (65 : Int32)) c2 rfl (show (65 : Int32).toInt = 65 from rfl)
      rcases m_ifE hf with ⟨c3, hf⟩ | ⟨c3, hf⟩
      · skip
        replace c3 := ti_ltP (a := (90 : Int32)) (b := x0) c3 (show (90 : Int32).toInt = 90 from rfl) rfl
        unfold f_isLetter_28 at hf
        unfold f_isLetter_29 at hf
        obtain ⟨-, hf⟩ := m_chkE hf
        cases hf
        try dsimp only
        unfold isL
        omega
      · skip
        replace c3 := ti_ltN (a := (90 : Int32)) (b := x0) c3 (show (90 : Int32).toInt = 90 from rfl) rfl
        unfold f_isLetter_24 at hf
        unfold f_isLetter_29 at hf
        obtain ⟨-, hf⟩ := m_chkE hf
        cases hf
        try dsimp only
        unfold isL
        omega
  · skip
    replace c1 := ti_ltN (a := x0) (b := (97 : Int32)) c1 rfl (show (97 : Int32).toInt = 97 from rfl)
    rcases m_ifE hf with ⟨c4, hf⟩ | ⟨c4, hf⟩
    · skip
      replace c4 := ti_leP (a := x0) (b := (122 : Int32)) c4 rfl (show (122 : Int32).toInt = 122 from rfl)
      unfold f_isLetter_24 at hf
      unfold f_isLetter_29 at hf
      obtain ⟨-, hf⟩ := m_chkE hf
      cases hf
      try dsimp only
      unfold isL
      omega
    · skip
      replace c4 := ti_leN (a := x0) (b := (122 : Int32)) c4 rfl (show (122 : Int32).toInt = 122 from rfl)
      unfold f_isLetter_12 at hf
      rcases m_ifE hf with ⟨c5, hf⟩ | ⟨c5, hf⟩
      · skip
        replace c5 := ti_ltP (a := x0) (b := (65 : Int32)) c5 rfl (show (65 : Int32).toInt = 65 from rfl)
        unfold f_isLetter_28 at hf
        unfold f_isLetter_29 at hf
        obtain ⟨-, hf⟩ := m_chkE hf
        cases hf
        try dsimp only
        unfold isL
        omega
      · skip
        replace c5 := ti_ltN (a := x0) (b := (65 : Int32)) c5 rfl (show (65 : Int32).toInt = 65 from rfl)
        rcases m_ifE hf with ⟨c6, hf⟩ | ⟨c6, hf⟩
        · skip
          replace c6 := ti_ltP (a := (90 : Int32)) (b := x0) c6 (show (90 : Int32).toInt = 90 from rfl) rfl
          unfold f_isLetter_28 at hf
          unfold f_isLetter_29 at hf
          obtain ⟨-, hf⟩ := m_chkE hf
          cases hf
          try dsimp only
          unfold isL
          omega
        · skip
          replace c6 := ti_ltN (a := (90 : Int32)) (b := x0) c6 (show (90 : Int32).toInt = 90 from rfl) rfl
          unfold f_isLetter_24 at hf
          unfold f_isLetter_29 at hf
          obtain ⟨-, hf⟩ := m_chkE hf
          cases hf
          try dsimp only
          unfold isL
          omega
theorem pc_isDigit (hf : f_isDigit x0 I A = some o) : (o.1.toInt = 0 ∨ o.1.toInt = 1) ∧ (o.1.toInt = 1 ↔ isD x0.toInt) := by
  have hf : f_isDigit_0 x0 I A = some o := hf
  have z0 : (0 : Int32).toInt = 0 := rfl
  have z1 : (1 : Int32).toInt = 1 := rfl
  unfold f_isDigit_0 at hf
  rcases m_ifE hf with ⟨c1, hf⟩ | ⟨c1, hf⟩
  · skip
    replace c1 := ti_ltP (a := x0) (b := (48 : Int32)) c1 rfl (show (48 : Int32).toInt = 48 from rfl)
    unfold f_isDigit_16 at hf
    unfold f_isDigit_17 at hf
    obtain ⟨-, hf⟩ := m_chkE hf
    cases hf
    try dsimp only
    unfold isD
    omega
  · skip
    replace c1 := ti_ltN (a := x0) (b := (48 : Int32)) c1 rfl (show (48 : Int32).toInt = 48 from rfl)
    rcases m_ifE hf with ⟨c2, hf⟩ | ⟨c2, hf⟩
    · skip
      replace c2 := ti_ltP (a := (57 : Int32)) (b := x0) c2 (show (57 : Int32).toInt = 57 from rfl) rfl
      unfold f_isDigit_16 at hf
      unfold f_isDigit_17 at hf
      obtain ⟨-, hf⟩ := m_chkE hf
      cases hf
      try dsimp only
      unfold isD
      omega
    · skip
      replace c2 := ti_ltN (a := (57 : Int32)) (b := x0) c2 (show (57 : Int32).toInt = 57 from rfl) rfl
      unfold f_isDigit_17 at hf
      obtain ⟨-, hf⟩ := m_chkE hf
      cases hf
      try dsimp only
      unfold isD
      omega
theorem pc_kind (hf : f_kind x0 I A = some o) : TJ I → TK A → (0 ≤ x0.toInt ∧ x0.toInt ≤ 14) → o.1.toInt = x0.toInt % 8 := fun hI hA h => (ok_of (x_kind hI hA h) hf).2.2
end PCR
/-- blanks from a to b -/
noncomputable def BL (ch : Int → Int) (a b : Int) : Prop := a ≤ b ∧ (∀ j, a ≤ j → j < b → ch j = 32 ∨ ch j = 10) ∧ ch b ≠ 32 ∧ ch b ≠ 10
theorem bl_u {ch : Int → Int} {a b c : Int} (h : BL ch a b) (g : BL ch a c) : b = c := by
  obtain ⟨h1, h2, h3⟩ := h
  obtain ⟨g1, g2, g3⟩ := g
  rcases Int.lt_trichotomy b c with l | l | l
  · have := g2 b h1 l
    omega
  · exact l
  · have := h2 c g1 l
    omega
theorem bl_s {ch : Int → Int} {a b : Int} (h : ch a = 32 ∨ ch a = 10) (g : BL ch (a + 1) b) : BL ch a b := by
  obtain ⟨g1, g2, g3⟩ := g
  refine ⟨by omega, fun j j1 j2 => ?_, g3⟩
  by_cases e : j = a
  · rw [e]; exact h
  · exact g2 j (by omega) j2
theorem bl_0 {ch : Int → Int} {a : Int} (h : ch a ≠ 32) (g : ch a ≠ 10) : BL ch a a := ⟨Int.le_refl _, fun j j1 j2 => by omega, h, g⟩
theorem zsI_id {S : ZS} {j a : Nat} : zsI S j a (zI S j a) = S := by
  have h : va_up (zI S) j (va_up (zI S j) a (zI S j a)) = zI S := by
    funext i d
    by_cases f : i = j
    · rw [f, va_up_self]
      by_cases g : d = a
      · rw [g, va_up_self]
      · rw [va_up_ne _ _ g]
    · rw [va_up_ne _ _ f]
  show (zL S, zK S, va_up (zI S) j (va_up (zI S j) a (zI S j a)), zP S, zN S, zA S, zB S, zc S, zt S, zu S) = S
  rw [h]
theorem zsI_zsI {S : ZS} {j a : Nat} {v w : Int32} : zsI (zsI S j a v) j a w = zsI S j a w := by
  have h : va_up (zI (zsI S j a v)) j (va_up (zI (zsI S j a v) j) a w) = va_up (zI S) j (va_up (zI S j) a w) := by
    funext i d
    by_cases f : i = j
    · subst f
      rw [va_up_self, va_up_self]
      by_cases g : d = a
      · subst g
        rw [va_up_self, va_up_self]
      · rw [va_up_ne _ _ g, va_up_ne _ _ g]
        exact zI_b g
    · rw [va_up_ne _ _ f, va_up_ne _ _ f]
      exact congrFun (va_up_ne _ _ f) d
  show (zL S, zK S, va_up (zI (zsI S j a v)) j (va_up (zI (zsI S j a v) j) a w), zP S, zN S, zA S, zB S, zc S, zt S, zu S) = _
  rw [h]
  rfl
theorem rwI_ {S : ZS} {j a b : Nat} {v : Int32} (h : a ≠ b ∨ j ≠ 1) : rwC (zsI S j a v) b = rwC S b := by
  have e : zI (zsI S j a v) 1 b = zI S 1 b := by
    rcases h with h | h
    · exact zI_b (fun e => h e.symm)
    · exact zI_j (fun e => h e.symm)
  funext i
  unfold rwC
  rw [e]
  rfl
section BLK
variable {x0 tr : Nat} {ch : Int → Int}
theorem p_skip {o : Int32 × ZS} : ∀ (n : Nat) (S : ZS), zK S x0 = 2 → zK S tr = 6 → zP S 2 x0 = some tr → rwC S tr = ch → (0 ≤ (zI S 4 x0).toInt ∧ (zI S 4 x0).toInt ≤ 100000) → (zI S 1 tr).toInt ≤ 100000 → f_X2_skipBlanks_0 n x0 S = some o → ∃ v : Int32, BL ch (zI S 4 x0).toInt v.toInt ∧ o.2 = zsI S 4 x0 v ∧ (v.toInt ≤ (zI S 4 x0).toInt ∨ v.toInt ≤ (zI S 1 tr).toInt) := by
  intro n
  induction n with
  | zero => intro S _ _ _ _ _ _ hf; cases hf
  | succ n ih =>
    intro S k2 k6 hP hch hb hl hf
    have hf : f_X2_skipBlanks_0s (f_X2_skipBlanks_0 n) x0 S = some o := hf
    have go : (ch (zI S 4 x0).toInt = 32 ∨ ch (zI S 4 x0).toInt = 10) → (zI S 4 x0).toInt < (zI S 1 tr).toInt → f_X2_skipBlanks_46 (f_X2_skipBlanks_0 n) x0 S = some o → ∃ v : Int32, BL ch (zI S 4 x0).toInt v.toInt ∧ o.2 = zsI S 4 x0 v ∧ (v.toInt ≤ (zI S 4 x0).toInt ∨ v.toInt ≤ (zI S 1 tr).toInt) := by
      intro hc hlt hf
      have hne : x0 ≠ tr := fun e => by rw [e, k6] at k2; exact absurd k2 (by decide)
      unfold f_X2_skipBlanks_46 at hf
      obtain ⟨-, hf⟩ := m_chkE hf
      obtain ⟨v1, e_v1, hf⟩ := m_bndE hf
      have t_v1 : v1.toInt = (zI S 4 x0).toInt + 1 := ti_add e_v1 rfl (show (1 : Int32).toInt = 1 from rfl) (by omega) (by omega)
      obtain ⟨-, hf⟩ := m_chkE hf
      obtain ⟨S2, e_S2, hf⟩ := m_bndE hf
      have a4 : zI S2 4 x0 = v1 := by rw [e_S2]; exact zI_self _ _ _ _
      have a1 : zI S2 1 tr = zI S 1 tr := by rw [e_S2]; exact zI_j (by decide)
      obtain ⟨v, b1, b2, b3⟩ := ih S2 (by rw [e_S2]; exact k2) (by rw [e_S2]; exact k6) (by rw [e_S2]; exact hP) (by rw [e_S2, rwI_ (Or.inl hne)]; exact hch) (by rw [a4]; omega) (by rw [a1]; exact hl) hf
      refine ⟨v, ?_, ?_, ?_⟩
      · rw [a4, t_v1] at b1
        exact bl_s hc b1
      · rw [b2, e_S2, zsI_zsI]
      · rw [a4, a1] at b3
        have := b1.1
        rw [a4] at this
        omega
    unfold f_X2_skipBlanks_0s at hf
    obtain ⟨-, hf⟩ := m_chkE hf
    obtain ⟨-, hf⟩ := m_chkE hf
    replace hf := m_calY hf hP
    obtain ⟨-, hf⟩ := m_chkE hf
    obtain ⟨r2, h_r2, hf⟩ := m_calR hf (fun _ h => ro_X6_size h)
    dsimp only at hf
    have p_r2 := pc_X6_size h_r2
    dsimp only at p_r2
    have s2 : r2.toInt = (zI S 1 tr).toInt := by rw [p_r2]
    rcases m_ifE hf with ⟨c1, hf⟩ | ⟨c1, hf⟩
    · skip
      replace c1 := ti_leP (a := r2) (b := (zI S 4 x0)) c1 rfl rfl
      unfold f_X2_skipBlanks_59 at hf
      cases hf
      try dsimp only
      exact ⟨zI S 4 x0, bl_0 (by rw [← hch, rw_out (by omega)]; decide) (by rw [← hch, rw_out (by omega)]; decide), zsI_id.symm, Or.inl (Int.le_refl _)⟩
    · skip
      replace c1 := ti_leN (a := r2) (b := (zI S 4 x0)) c1 rfl rfl
      obtain ⟨-, hf⟩ := m_chkE hf
      replace hf := m_calY hf hP
      obtain ⟨-, hf⟩ := m_chkE hf
      obtain ⟨-, hf⟩ := m_chkE hf
      obtain ⟨r4, h_r4, hf⟩ := m_calR hf (fun _ h => ro_X6_at h)
      dsimp only at hf
      have p_r4 := pc_X6_at h_r4
      dsimp only at p_r4
      rw [hch] at p_r4
      rcases m_ifE hf with ⟨c2, hf⟩ | ⟨c2, hf⟩
      · skip
        replace c2 := ti_eqP (a := r4) (b := (32 : Int32)) c2 rfl (show (32 : Int32).toInt = 32 from rfl)
        exact go (Or.inl (by omega)) (by omega) hf
      · skip
        replace c2 := ti_eqN (a := r4) (b := (32 : Int32)) c2 rfl (show (32 : Int32).toInt = 32 from rfl)
        obtain ⟨-, hf⟩ := m_chkE hf
        replace hf := m_calY hf hP
        obtain ⟨-, hf⟩ := m_chkE hf
        obtain ⟨-, hf⟩ := m_chkE hf
        obtain ⟨r6, h_r6, hf⟩ := m_calR hf (fun _ h => ro_X6_at h)
        dsimp only at hf
        have p_r6 := pc_X6_at h_r6
        dsimp only at p_r6
        rw [hch] at p_r6
        rcases m_ifE hf with ⟨c3, hf⟩ | ⟨c3, hf⟩
        · skip
          replace c3 := ti_eqP (a := r6) (b := (10 : Int32)) c3 rfl (show (10 : Int32).toInt = 10 from rfl)
          exact go (Or.inr (by omega)) (by omega) hf
        · skip
          replace c3 := ti_eqN (a := r6) (b := (10 : Int32)) c3 rfl (show (10 : Int32).toInt = 10 from rfl)
          unfold f_X2_skipBlanks_59 at hf
          cases hf
          try dsimp only
          exact ⟨zI S 4 x0, bl_0 (by omega) (by omega), zsI_id.symm, Or.inl (Int.le_refl _)⟩
theorem p_skipBlanks {S : ZS} {o : Int32 × ZS} (k2 : zK S x0 = 2) (k6 : zK S tr = 6) (hP : zP S 2 x0 = some tr) (hch : rwC S tr = ch) (hb : 0 ≤ (zI S 4 x0).toInt ∧ (zI S 4 x0).toInt ≤ 100000) (hl : (zI S 1 tr).toInt ≤ 100000) (hf : f_X2_skipBlanks x0 S = some o) : ∃ v : Int32, BL ch (zI S 4 x0).toInt v.toInt ∧ o.2 = zsI S 4 x0 v ∧ (v.toInt ≤ (zI S 4 x0).toInt ∨ v.toInt ≤ (zI S 1 tr).toInt) := p_skip mFuel S k2 k6 hP hch hb hl hf
/-- the reference's blanks -/
theorem p_blanksL {o : Int32 × MS} {A : Nat → Nat → Int32} : ∀ (n : Nat) (I : Nat → Int32), txR I A = ch → (0 ≤ (I 37).toInt ∧ (I 37).toInt ≤ 100000) → (I 1).toInt ≤ 100000 → f_blanks_0 n I A = some o → ∃ v : Int32, BL ch (I 37).toInt v.toInt ∧ o.2 = (upd I 37 v, A) ∧ (v.toInt ≤ (I 37).toInt ∨ v.toInt ≤ (I 1).toInt) := by
  intro n
  induction n with
  | zero => intro I _ _ _ hf; cases hf
  | succ n ih =>
    intro I hch hb hl hf
    have hf : f_blanks_0s (f_blanks_0 n) I A = some o := hf
    have idI : upd I 37 (I 37) = I := by
      funext i
      by_cases e : i = 37
      · rw [e, upd_self]
      · rw [upd_ne e]
    have go : (ch (I 37).toInt = 32 ∨ ch (I 37).toInt = 10) → (I 37).toInt < (I 1).toInt → f_blanks_39 (f_blanks_0 n) I A = some o → ∃ v : Int32, BL ch (I 37).toInt v.toInt ∧ o.2 = (upd I 37 v, A) ∧ (v.toInt ≤ (I 37).toInt ∨ v.toInt ≤ (I 1).toInt) := by
      intro hc hlt hf
      unfold f_blanks_39 at hf
      obtain ⟨v1, e_v1, hf⟩ := m_bndE hf
      have t_v1 : v1.toInt = (I 37).toInt + 1 := ti_add e_v1 rfl (show (1 : Int32).toInt = 1 from rfl) (by omega) (by omega)
      obtain ⟨I2, e_I2, hf⟩ := m_bndE hf
      have a4 : I2 37 = v1 := by rw [e_I2]; exact upd_self
      have a1 : I2 1 = I 1 := by rw [e_I2]; exact upd_ne (by decide)
      obtain ⟨v, b1, b2, b3⟩ := ih I2 (by unfold txR; rw [a1]; exact hch) (by rw [a4]; omega) (by rw [a1]; exact hl) hf
      refine ⟨v, ?_, ?_, ?_⟩
      · rw [a4, t_v1] at b1
        exact bl_s hc b1
      · rw [b2]
        congr 1
        funext i
        by_cases e : i = 37
        · rw [e, upd_self, upd_self]
        · rw [upd_ne e, upd_ne e, e_I2, upd_ne e]
      · rw [a4, a1] at b3
        have := b1.1
        rw [a4] at this
        omega
    unfold f_blanks_0s at hf
    rcases m_ifE hf with ⟨c1, hf⟩ | ⟨c1, hf⟩
    · skip
      replace c1 := ti_leP (a := (I 1)) (b := (I 37)) c1 rfl rfl
      unfold f_blanks_52 at hf
      cases hf
      try dsimp only
      exact ⟨I 37, bl_0 (by rw [← hch, tx_out (by omega)]; decide) (by rw [← hch, tx_out (by omega)]; decide), by rw [idI], Or.inl (Int.le_refl _)⟩
    · skip
      replace c1 := ti_leN (a := (I 1)) (b := (I 37)) c1 rfl rfl
      obtain ⟨-, hf⟩ := m_chkE hf
      obtain ⟨v1, e_v1, hf⟩ := m_bndE hf
      have c_v1 : (I 37).toInt < (I 1).toInt → v1.toInt = ch (I 37).toInt := fun h => by rw [← hch]; exact tx_at e_v1 hb.1 h
      rcases m_ifE hf with ⟨c2, hf⟩ | ⟨c2, hf⟩
      · skip
        replace c2 := ti_eqP (a := v1) (b := (32 : Int32)) c2 rfl (show (32 : Int32).toInt = 32 from rfl)
        exact go (Or.inl (by have := c_v1 (by omega); omega)) (by omega) hf
      · skip
        replace c2 := ti_eqN (a := v1) (b := (32 : Int32)) c2 rfl (show (32 : Int32).toInt = 32 from rfl)
        obtain ⟨-, hf⟩ := m_chkE hf
        obtain ⟨v2, e_v2, hf⟩ := m_bndE hf
        have c_v2 : (I 37).toInt < (I 1).toInt → v2.toInt = ch (I 37).toInt := fun h => by rw [← hch]; exact tx_at e_v2 hb.1 h
        rcases m_ifE hf with ⟨c3, hf⟩ | ⟨c3, hf⟩
        · skip
          replace c3 := ti_eqP (a := v2) (b := (10 : Int32)) c3 rfl (show (10 : Int32).toInt = 10 from rfl)
          exact go (Or.inr (by have := c_v2 (by omega); omega)) (by omega) hf
        · skip
          replace c3 := ti_eqN (a := v2) (b := (10 : Int32)) c3 rfl (show (10 : Int32).toInt = 10 from rfl)
          unfold f_blanks_52 at hf
          cases hf
          try dsimp only
          exact ⟨I 37, bl_0 (by have := c_v1 (by omega); omega) (by have := c_v2 (by omega); omega), by rw [idI], Or.inl (Int.le_refl _)⟩
theorem p_blanks {o : Int32 × MS} {I : Nat → Int32} {A : Nat → Nat → Int32} (hch : txR I A = ch) (hb : 0 ≤ (I 37).toInt ∧ (I 37).toInt ≤ 100000) (hl : (I 1).toInt ≤ 100000) (hf : f_blanks I A = some o) : ∃ v : Int32, BL ch (I 37).toInt v.toInt ∧ o.2 = (upd I 37 v, A) ∧ (v.toInt ≤ (I 37).toInt ∨ v.toInt ≤ (I 1).toInt) := p_blanksL mFuel I hch hb hl hf
end BLK
end
section
noncomputable def LG (m : Int → Int) (sd rt ps kw kb a t : Int) : Prop := rch m sd rt ps a t ∧ safC m sd ps (if sd = 0 then kw else kb) a t 0
noncomputable def NBf (m : Int → Int) (sd rt ps kw kb k : Int) : Prop := ∀ a t : Int, 0 ≤ a → a < 64 → 0 ≤ t → t < 64 → a * 64 + t < k → ¬ LG m sd rt ps kw kb a t
noncomputable def ANY (m : Int → Int) (sd rt ps kw kb : Int) : Prop := ∃ a t : Int, 0 ≤ a ∧ a < 64 ∧ 0 ≤ t ∧ t < 64 ∧ LG m sd rt ps kw kb a t
/-- what sign a position asks for: none, +, # -/
noncomputable def csP (m : Int → Int) (sd rt ps kw kb v : Int) : Prop := (¬ attd m (if sd = 0 then kw else kb) (1 - sd) ∧ v = 0) ∨ (attd m (if sd = 0 then kw else kb) (1 - sd) ∧ ANY m sd rt ps kw kb ∧ v = 43) ∨ (attd m (if sd = 0 then kw else kb) (1 - sd) ∧ ¬ ANY m sd rt ps kw kb ∧ v = 35)
theorem csP_u {m : Int → Int} {sd rt ps kw kb v w : Int} (h : csP m sd rt ps kw kb v) (g : csP m sd rt ps kw kb w) : v = w := by
  rcases h with ⟨a, b⟩ | ⟨a, c, b⟩ | ⟨a, c, b⟩ <;> rcases g with ⟨d, e⟩ | ⟨d, f, e⟩ | ⟨d, f, e⟩ <;> first | omega | exact absurd d a | exact absurd a d | exact absurd c f | exact absurd f c
/-- the position behind a move -/
noncomputable def afM (m : Int → Int) (sd ps x : Int) : Int → Int := plB m sd ps (x % 64) (x / 64 % 64) (x / 4096)
noncomputable def afR (rt x : Int) : Int := (Int32.ofInt rt &&& ((gn (x % 64) ||| gn (x / 64 % 64)) ^^^ (-1 : Int32))).toInt
noncomputable def afP (m : Int → Int) (sd ps x : Int) : Int := psC (afM m sd ps x) sd (pwb m (x % 64)) (x % 64) (x / 64 % 64)
noncomputable def afK (m : Int → Int) (sd ps x w old : Int) : Int := kgB m sd ps (x % 64) (x / 64 % 64) (x / 4096) w old
section CSG
variable {m : Int → Int} {sd rt ps kw kb : Int}
theorem nb_s {a t : Int} (h : NBf m sd rt ps kw kb (a * 64 + t)) (hn : ¬ LG m sd rt ps kw kb a t) (ha : 0 ≤ a ∧ a < 64) (ht : 0 ≤ t ∧ t < 64) : NBf m sd rt ps kw kb (a * 64 + t + 1) := by
  intro b u b1 b2 u1 u2 hlt
  by_cases c : b * 64 + u < a * 64 + t
  · exact h b u b1 b2 u1 u2 c
  · have e1 : b = a := by omega
    have e2 : u = t := by omega
    rw [e1, e2]
    exact hn
theorem nb_any {k : Int} (h : NBf m sd rt ps kw kb k) (hk : 4096 ≤ k) : ¬ ANY m sd rt ps kw kb := by
  rintro ⟨a, t, a1, a2, t1, t2, g⟩
  exact h a t a1 a2 t1 t2 (by omega) g
theorem nb_0 : NBf m sd rt ps kw kb 0 := fun a t a1 a2 t1 t2 h => by omega
section CLS
variable {S0 : ZS} {x0 tb ab : Nat} {o : Int32 × ZS}
theorem cs_62 {x3 : Int32} {self53 : Nat → Int32 → ZS → Option (Int32 × ZS)} {G : Int32 × ZS → Prop} (hM : MBd m) (hr : 0 ≤ rt ∧ rt ≤ 15) (ha : zP S0 1 x0 = some ab) (h3 : 0 ≤ x3.toInt ∧ x3.toInt < 64) (H : ∀ (v : Int32) (S : ZS), v.toInt = x3.toInt + 1 → BX S x0 tb ab m sd rt ps kw kb → SB S0 S tb → NBf m sd rt ps kw kb (x3.toInt * 64 + 64) → self53 x0 v S = some o → G o) (H4 : ∀ S : ZS, BX S x0 tb ab m sd rt ps kw kb → SB S0 S tb → ANY m sd rt ps kw kb → G (43, S)) : ∀ (n : Nat) (x4 : Int32) (S : ZS), (0 ≤ x4.toInt ∧ x4.toInt ≤ 64) → BX S x0 tb ab m sd rt ps kw kb → SB S0 S tb → NBf m sd rt ps kw kb (x3.toInt * 64 + x4.toInt) → f_X7_checkSign_62 self53 n x0 x3 x4 S = some o → G o := by
  intro n
  induction n with
  | zero => intro x4 S _ _ _ _ hf; cases hf
  | succ n ih =>
    intro x4 S h4 hB hs hN hf
    have hf : f_X7_checkSign_62s self53 (f_X7_checkSign_62 self53 n) x0 x3 x4 S = some o := hf
    have hp : zP S 1 x0 = some ab := by rw [hs.2.1]; exact ha
    have nx : ∀ Sq, BX Sq x0 tb ab m sd rt ps kw kb → SB S0 Sq tb → ¬ LG m sd rt ps kw kb x3.toInt x4.toInt → x4.toInt < 64 → f_X7_checkSign_103 self53 (f_X7_checkSign_62 self53 n) x0 x3 x4 Sq = some o → G o := by
      intro Sq hB2 hs2 hn hlt hf
      unfold f_X7_checkSign_103 at hf
      obtain ⟨v1, e_v1, hf⟩ := m_bndE hf
      have t_v1 : v1.toInt = x4.toInt + 1 := ti_add e_v1 rfl (show (1 : Int32).toInt = 1 from rfl) (by omega) (by omega)
      refine ih v1 Sq (by omega) hB2 hs2 ?_ hf
      have e : x3.toInt * 64 + v1.toInt = x3.toInt * 64 + x4.toInt + 1 := by omega
      rw [e]
      exact nb_s hN hn h3 ⟨h4.1, hlt⟩
    unfold f_X7_checkSign_62s at hf
    rcases m_ifE hf with ⟨c1, hf⟩ | ⟨c1, hf⟩
    · skip
      replace c1 := ti_leP (a := (64 : Int32)) (b := x4) c1 (show (64 : Int32).toInt = 64 from rfl) rfl
      obtain ⟨v1, e_v1, hf⟩ := m_bndE hf
      have t_v1 : v1.toInt = x3.toInt + 1 := ti_add e_v1 rfl (show (1 : Int32).toInt = 1 from rfl) (by omega) (by omega)
      have e : x4.toInt = 64 := by omega
      rw [e] at hN
      exact H v1 S (by omega) hB hs hN hf
    · skip
      replace c1 := ti_leN (a := (64 : Int32)) (b := x4) c1 (show (64 : Int32).toInt = 64 from rfl) rfl
      obtain ⟨-, hf⟩ := m_chkE hf
      replace hf := m_calY hf hp
      obtain ⟨-, hf⟩ := m_chkE hf
      obtain ⟨r3, h_r3, hf⟩ := m_calR hf (fun _ h => ro_X0_reaches h)
      dsimp only at hf
      obtain ⟨-, b3, q3⟩ := bx_reach hB hM hr (by omega) (by omega) h_r3
      rcases m_ifE hf with ⟨c2, hf⟩ | ⟨c2, hf⟩
      · skip
        replace c2 := ti_eqP (a := r3) (b := (0 : Int32)) c2 rfl (show (0 : Int32).toInt = 0 from rfl)
        exact nx S hB hs (fun h => by have := q3.2 h.1; omega) (by omega) hf
      · skip
        replace c2 := ti_eqN (a := r3) (b := (0 : Int32)) c2 rfl (show (0 : Int32).toInt = 0 from rfl)
        obtain ⟨-, hf⟩ := m_chkE hf
        replace hf := m_calY hf hp
        obtain ⟨v5, e_v5, hf⟩ := m_bndE hf
        have t_v5 : v5.toInt = 64 * x4.toInt := ti_mul e_v5 (show (64 : Int32).toInt = 64 from rfl) rfl (by omega) (by omega)
        obtain ⟨v6, e_v6, hf⟩ := m_bndE hf
        have t_v6 : v6.toInt = x3.toInt + v5.toInt := ti_add e_v6 rfl rfl (by omega) (by omega)
        obtain ⟨-, hf⟩ := m_chkE hf
        obtain ⟨⟨r7, S7c⟩, h_r7, hf⟩ := m_calE hf
        dsimp only at hf
        obtain ⟨B7, s7, b7, q7⟩ := bx_safe hB hM (by omega) h_r7
        rw [show v6.toInt % 64 = x3.toInt by omega, show v6.toInt / 64 % 64 = x4.toInt by omega, show v6.toInt / 4096 = 0 by omega] at q7
        rcases m_ifE hf with ⟨c3, hf⟩ | ⟨c3, hf⟩
        · skip
          replace c3 := ti_eqP (a := r7) (b := (0 : Int32)) c3 rfl (show (0 : Int32).toInt = 0 from rfl)
          exact nx S7c B7 (sb_t hs s7) (fun h => by have := q7.2 h.2; omega) (by omega) hf
        · skip
          replace c3 := ti_eqN (a := r7) (b := (0 : Int32)) c3 rfl (show (0 : Int32).toInt = 0 from rfl)
          obtain ⟨-, hf⟩ := m_chkE hf
          cases hf
          try dsimp only
          exact H4 _ B7 (sb_t hs s7) ⟨x3.toInt, x4.toInt, h3.1, h3.2, h4.1, by omega, q3.1 (by omega), q7.1 (by omega)⟩
theorem cs_53 (hM : MBd m) (hr : 0 ≤ rt ∧ rt ≤ 15) (ha : zP S0 1 x0 = some ab) : ∀ (n : Nat) (x3 : Int32) (S : ZS), (0 ≤ x3.toInt ∧ x3.toInt ≤ 64) → BX S x0 tb ab m sd rt ps kw kb → SB S0 S tb → NBf m sd rt ps kw kb (x3.toInt * 64) → f_X7_checkSign_53 n x0 x3 S = some o → BX o.2 x0 tb ab m sd rt ps kw kb ∧ SB S0 o.2 tb ∧ ((ANY m sd rt ps kw kb ∧ o.1.toInt = 43) ∨ (¬ ANY m sd rt ps kw kb ∧ o.1.toInt = 35)) := by
  intro n
  induction n with
  | zero => intro x3 S _ _ _ _ hf; cases hf
  | succ n ih =>
    intro x3 S h3 hB hs hN hf
    have hf : f_X7_checkSign_53s (f_X7_checkSign_53 n) x0 x3 S = some o := hf
    have z : (0 : Int32).toInt = 0 := rfl
    unfold f_X7_checkSign_53s at hf
    rcases m_ifE hf with ⟨c1, hf⟩ | ⟨c1, hf⟩
    · skip
      replace c1 := ti_leP (a := (64 : Int32)) (b := x3) c1 (show (64 : Int32).toInt = 64 from rfl) rfl
      obtain ⟨-, hf⟩ := m_chkE hf
      cases hf
      try dsimp only
      exact ⟨hB, hs, Or.inr ⟨nb_any hN (by omega), rfl⟩⟩
    · skip
      replace c1 := ti_leN (a := (64 : Int32)) (b := x3) c1 (show (64 : Int32).toInt = 64 from rfl) rfl
      exact cs_62 (G := fun o => BX o.2 x0 tb ab m sd rt ps kw kb ∧ SB S0 o.2 tb ∧ ((ANY m sd rt ps kw kb ∧ o.1.toInt = 43) ∨ (¬ ANY m sd rt ps kw kb ∧ o.1.toInt = 35))) hM hr ha (by omega) (fun v S ev hB hs hN hf => ih v S (by omega) hB hs (by rw [show v.toInt * 64 = x3.toInt * 64 + 64 by omega]; exact hN) hf) (fun S hB hs hA => ⟨hB, hs, Or.inl ⟨hA, rfl⟩⟩) mFuel 0 S (by omega) hB hs (by rw [show x3.toInt * 64 + (0 : Int32).toInt = x3.toInt * 64 by omega]; exact hN) hf
/-- two boards may have changed -/
noncomputable def SBt (S S' : ZS) (b c : Nat) : Prop := EqT S S' ∧ zP S' = zP S ∧ (∀ j a, a ≠ b → a ≠ c → zI S' j a = zI S j a) ∧ (∀ a, a ≠ b + 1 → a ≠ c + 1 → zA S' a = zA S a) ∧ zc S' = zc S
theorem sbt_l {S S' : ZS} {b c : Nat} (h : SB S S' b) : SBt S S' b c := ⟨h.1, h.2.1, fun j a h1 _ => h.2.2.1 j a h1, fun a h1 _ => h.2.2.2.1 a h1, h.2.2.2.2⟩
theorem sbt_r {S S' : ZS} {b c : Nat} (h : SB S S' c) : SBt S S' b c := ⟨h.1, h.2.1, fun j a _ h1 => h.2.2.1 j a h1, fun a _ h1 => h.2.2.2.1 a h1, h.2.2.2.2⟩
theorem sbt_t {S S1 S2 : ZS} {b c : Nat} (h : SBt S S1 b c) (h2 : SBt S1 S2 b c) : SBt S S2 b c := ⟨eqt_t h.1 h2.1, h2.2.1.trans h.2.1, fun j a ha hb => (h2.2.2.1 j a ha hb).trans (h.2.2.1 j a ha hb), fun a ha hb => (h2.2.2.2.1 a ha hb).trans (h.2.2.2.1 a ha hb), h2.2.2.2.2.trans h.2.2.2.2⟩
theorem sbt_0 {S : ZS} {b c : Nat} : SBt S S b c := sbt_l sb_0
theorem mB_ot {S S' : ZS} {b c d : Nat} (h : SBt S S' c d) (hp : zP S 0 b = some (b + 1)) (h1 : b ≠ c) (h2 : b ≠ d) : mCb S' b = mCb S b := mB_e (congrFun (congrFun h.2.1 0) b) (fun e he => by
  rw [hp] at he
  cases he
  exact h.2.2.2.1 _ (by omega) (by omega))
/-- a board, with the rules' two boards -/
noncomputable def CXr (S : ZS) (x0 tb ab bb : Nat) (m : Int → Int) (sd rt ps kw kb : Int) : Prop := BX S x0 tb bb m sd rt ps kw kb ∧ (zP S 1 x0 = some ab ∧ zK S ab = 0 ∧ zP S 0 ab = some (ab + 1)) ∧ (ab ≠ bb ∧ ab ≠ tb) ∧ (zI S 6 bb).toInt ≤ 99999
theorem cx_sb {S S' : ZS} {bb : Nat} (h : CXr S x0 tb ab bb m sd rt ps kw kb) (hT : ZT S') (hs : SBt S S' tb ab) : CXr S' x0 tb ab bb m sd rt ps kw kb := by
  obtain ⟨⟨-, ⟨a1, a2⟩, ⟨b1, b2⟩, ⟨c1, c2⟩, d, e, f, g1, g2, g3, g4, g5⟩, ⟨h1, h2, h3⟩, ⟨n1, n2⟩, l⟩ := h
  have K : zK S' = zK S := hs.1.2.2.1
  have Q : zP S' = zP S := hs.2.1
  have i : ∀ j, zI S' j bb = zI S j bb := fun j => hs.2.2.1 j bb d (fun e => n1 e.symm)
  refine ⟨⟨hT, ⟨by rw [K]; exact a1, by rw [Q]; exact a2⟩, ⟨by rw [K]; exact b1, by rw [Q]; exact b2⟩, ⟨by rw [K]; exact c1, by rw [Q]; exact c2⟩, d, ?_, (mB_ot hs c2 d (fun e => n1 e.symm)).trans f, by rw [i]; exact g1, by rw [i]; exact g2, by rw [i]; exact g3, by rw [i]; exact g4, by rw [i]; exact g5⟩, ⟨by rw [Q]; exact h1, by rw [K]; exact h2, by rw [Q]; exact h3⟩, ⟨n1, n2⟩, by rw [i]; exact l⟩
  unfold BN
  rw [i, i]
  exact e
theorem i32_of {x : Int32} {n : Int} (h : x.toInt = n) : x = Int32.ofInt n := by
  rw [← h, Int32.ofInt_toInt]
/-- a board on which a move is played holds the position behind it -/
theorem p_aft {S S' : ZS} {b : Nat} {x y : Int32} (hT : ZT S) (kb' : zK S b = 0) (hp : zP S 0 b = some (b + 1)) (hn : BN S b) (hl : (zI S 6 b).toInt ≤ 99999) (hm : mCb S b = m) (hM : MBd m) (h3 : (zI S 3 b).toInt = sd) (h4 : (zI S 4 b).toInt = rt) (h5 : (zI S 5 b).toInt = ps) (h1 : (zI S 1 b).toInt = kw) (h2 : (zI S 2 b).toInt = kb) (hx : 0 ≤ x.toInt ∧ x.toInt ≤ 24575) (hf : f_X0_play b x S = some (y, S')) : ZT S' ∧ SB S S' b ∧ BN S' b ∧ mCb S' b = afM m sd ps x.toInt ∧ (zI S' 3 b).toInt = 1 - sd ∧ (zI S' 4 b).toInt = afR rt x.toInt ∧ (zI S' 5 b).toInt = afP m sd ps x.toInt ∧ (zI S' 1 b).toInt = afK m sd ps x.toInt 0 kw ∧ (zI S' 2 b).toInt = afK m sd ps x.toInt 1 kb ∧ (zI S' 6 b).toInt = (zI S 6 b).toInt + sd := by
  have T4 : ZT S' := (ok_of (t_f_X0_play (SZ := S) hT (a7_0 S) kb') hf).1
  obtain ⟨tq, htq, b4, m4, w4, v4, r4, p4, n4, s4⟩ := p_play hT kb' hp hn (by rw [hm]; exact hM) hx hf
  obtain ⟨⟨n1, n2⟩, n3, n5⟩ := hn
  rw [hm, h3, h5] at m4 w4 v4 p4
  rw [h3] at n4 s4
  refine ⟨T4, b4, ⟨⟨by omega, by omega⟩, by omega, by omega⟩, m4, s4, ?_, ?_, ?_, ?_, n4⟩
  · rw [r4, i32_of h4]
    rfl
  · rw [p4]
    rfl
  · rw [w4]
    unfold kq afK kgB
    by_cases c : pv (m2B m ps (x.toInt % 64) (x.toInt / 64 % 64)) sd (x.toInt % 64) (x.toInt / 4096) = 6
    · rw [if_pos c, if_pos (by omega), htq]
    · rw [if_neg c, if_neg (by omega), h1]
  · rw [v4]
    unfold kq afK kgB
    by_cases c : pv (m2B m ps (x.toInt % 64) (x.toInt / 64 % 64)) sd (x.toInt % 64) (x.toInt / 4096) = 14
    · rw [if_pos c, if_pos (by omega), htq]
    · rw [if_neg c, if_neg (by omega), h2]
theorem p_checkSign {S : ZS} {bb : Nat} {x : Int32} (hC : CXr S x0 tb ab bb m sd rt ps kw kb) (hM : MBd m) (hx : 0 ≤ x.toInt ∧ x.toInt ≤ 24575) (hs : sd = 0 ∨ sd = 1) (hr : 0 ≤ afR rt x.toInt ∧ afR rt x.toInt ≤ 15) (hM2 : MBd (afM m sd ps x.toInt)) (hf : f_X7_checkSign x0 bb x S = some o) : CXr o.2 x0 tb ab bb m sd rt ps kw kb ∧ SBt S o.2 tb ab ∧ csP (afM m sd ps x.toInt) (1 - sd) (afR rt x.toInt) (afP m sd ps x.toInt) (afK m sd ps x.toInt 0 kw) (afK m sd ps x.toInt 1 kb) o.1.toInt := by
  have hf : f_X7_checkSign_0 x0 bb x S = some o := hf
  obtain ⟨⟨hT, ⟨a1, a2⟩, ⟨b1, b2⟩, ⟨c1, c2⟩, d, e, f, g1, g2, g3, g4, g5⟩, ⟨q1, q2, q3⟩, ⟨u1, u2⟩, l⟩ := id hC
  have z0 : (0 : Int32).toInt = 0 := rfl
  unfold f_X7_checkSign_0 at hf
  obtain ⟨-, hf⟩ := m_chkE hf
  replace hf := m_calY hf q1
  obtain ⟨-, hf⟩ := m_chkE hf
  obtain ⟨⟨r2, S2c⟩, h_r2, hf⟩ := m_calE hf
  dsimp only at hf
  have T2 : ZT S2c := (ok_of (t_f_X0_copyFrom (SZ := S) hT (a7_0 S) q2 c1) h_r2).1
  obtain ⟨s2, m2, i2⟩ := p_copy q3 c2 h_r2
  have P2 : zP S2c 1 x0 = some ab := by rw [s2.2.1]; exact q1
  have K2 : zK S2c = zK S := s2.1.2.2.1
  obtain ⟨-, hf⟩ := m_chkE hf
  replace hf := m_calY hf P2
  obtain ⟨-, hf⟩ := m_chkE hf
  obtain ⟨⟨r4, S4c⟩, h_r4, hf⟩ := m_calE hf
  dsimp only at hf
  have i6 := i2 6 (by decide) (by decide)
  have i3 := i2 3 (by decide) (by decide)
  obtain ⟨T4, s4, N4, m4, w3, w4, w5, w1, w2, -⟩ := p_aft (m := m) (sd := sd) (rt := rt) (ps := ps) (kw := kw) (kb := kb) T2 (by rw [K2]; exact q2) (by rw [s2.2.1]; exact q3) (by unfold BN; rw [i6, i3]; exact e) (by rw [i6]; exact l) (m2.trans f) hM (by rw [i3]; exact g1) (by rw [i2 4 (by decide) (by decide)]; exact g2) (by rw [i2 5 (by decide) (by decide)]; exact g3) (by rw [i2 1 (by decide) (by decide)]; exact g4) (by rw [i2 2 (by decide) (by decide)]; exact g5) hx h_r4
  have s24 : SB S S4c ab := sb_t s2 s4
  have P4 : zP S4c 1 x0 = some ab := by rw [s24.2.1]; exact q1
  have K4 : zK S4c = zK S := s24.1.2.2.1
  have ka4 : zK S4c ab = 0 := by rw [K4]; exact q2
  have B4 : BX S4c x0 tb ab (afM m sd ps x.toInt) (1 - sd) (afR rt x.toInt) (afP m sd ps x.toInt) (afK m sd ps x.toInt 0 kw) (afK m sd ps x.toInt 1 kb) := ⟨T4, ⟨by rw [K4]; exact a1, by rw [s24.2.1]; exact a2⟩, ⟨by rw [K4]; exact b1, by rw [s24.2.1]; exact b2⟩, ⟨ka4, by rw [s24.2.1]; exact q3⟩, u2, N4, m4, w3, w4, w5, w1, w2⟩
  obtain ⟨-, hf⟩ := m_chkE hf
  replace hf := m_calY hf P4
  obtain ⟨-, hf⟩ := m_chkE hf
  replace hf := m_calY hf P4
  obtain ⟨-, hf⟩ := m_chkE hf
  replace hf := m_calY hf P4
  obtain ⟨-, hf⟩ := m_chkE hf
  obtain ⟨-, hf⟩ := m_chkE hf
  obtain ⟨r8, h_r8, hf⟩ := m_calR hf (fun _ h => ro_X0_kingOf h)
  dsimp only at hf
  obtain ⟨-, b8, q8⟩ := ok_of (x_f_X0_kingOf (x1 := zI S4c 3 ab) T4 ka4) h_r8
  dsimp only at b8 q8
  rw [w3, w1, w2] at q8
  obtain ⟨-, hf⟩ := m_chkE hf
  replace hf := m_calY hf P4
  obtain ⟨-, hf⟩ := m_chkE hf
  obtain ⟨v10, e_v10, hf⟩ := m_bndE hf
  have t_v10 : v10.toInt = 1 - (zI S4c 3 ab).toInt := ti_sub e_v10 (show (1 : Int32).toInt = 1 from rfl) rfl (by omega) (by omega)
  obtain ⟨-, hf⟩ := m_chkE hf
  obtain ⟨r11, h_r11, hf⟩ := m_calR hf (fun _ h => ro_X0_attacked h)
  dsimp only at hf
  obtain ⟨-, b11, q11⟩ := ok_of (y_f_X0_attacked T4 ka4 b8 (by omega) (by rw [m4]; exact hM2)) h_r11
  dsimp only at b11 q11
  rw [m4, t_v10, w3, q8] at q11
  rcases m_ifE hf with ⟨c1, hf⟩ | ⟨c1, hf⟩
  · skip
    replace c1 := ti_eqP (a := r11) (b := (0 : Int32)) c1 rfl (show (0 : Int32).toInt = 0 from rfl)
    obtain ⟨-, hf⟩ := m_chkE hf
    cases hf
    try dsimp only
    refine ⟨cx_sb hC T4 (sbt_r s24), sbt_r s24, Or.inl ⟨fun g => ?_, rfl⟩⟩
    have := q11.2 g
    omega
  · skip
    replace c1 := ti_eqN (a := r11) (b := (0 : Int32)) c1 rfl (show (0 : Int32).toInt = 0 from rfl)
    obtain ⟨B5, s5, r5⟩ := cs_53 hM2 hr P4 mFuel 0 S4c (by decide) B4 sb_0 (by rw [show (0 : Int32).toInt * 64 = 0 from rfl]; exact nb_0) hf
    have s9 : SBt S o.2 tb ab := sbt_t (sbt_r s24) (sbt_l s5)
    have at1 := q11.1 (by omega)
    refine ⟨cx_sb hC B5.1 s9, s9, ?_⟩
    rcases r5 with ⟨h1, h2⟩ | ⟨h1, h2⟩
    · exact Or.inr (Or.inl ⟨at1, h1, h2⟩)
    · exact Or.inr (Or.inr ⟨at1, h1, h2⟩)
end CLS
/-- the reference's men for a moment, when a move is tried -/
theorem on_137 {x2 x3 x4 x5 x6 x7 x8 t0 : Int32} {I : Nat → Int32} {A : Nat → Nat → Int32} {o : Int32 × MS} (h2 : 0 ≤ x2.toInt ∧ x2.toInt < 64) (h3 : 0 ≤ x3.toInt ∧ x3.toInt < 64) (h6 : 0 ≤ x6.toInt ∧ x6.toInt < 64) (hf : f_isSafeOnce_137 x2 x3 x4 x5 x6 x7 x8 t0 I A = some o) : o.1 = t0 ∧ o.2.1 = I ∧ (∀ j, j ≠ 24 → o.2.2 j = A j) ∧ (x7.toInt = 0 → mR o.2.2 = up (up (mR A) x2.toInt x4.toInt) x3.toInt x5.toInt) ∧ (x7.toInt ≠ 0 → mR o.2.2 = up (up (up (mR A) x2.toInt x4.toInt) x3.toInt x5.toInt) x6.toInt x8.toInt) := by
  unfold f_isSafeOnce_137 at hf
  obtain ⟨-, hf⟩ := m_chkE hf
  obtain ⟨A1, e_A1, hf⟩ := m_bndE hf
  have y1 := mR_up e_A1 h2.1 h2.2
  have f1 : ∀ j, j ≠ 24 → A1 j = A j := fun j hj => by rw [e_A1]; exact va_up_ne _ _ hj
  obtain ⟨-, hf⟩ := m_chkE hf
  obtain ⟨A2, e_A2, hf⟩ := m_bndE hf
  have y2 := mR_up e_A2 h3.1 h3.2
  have f2 : ∀ j, j ≠ 24 → A2 j = A j := fun j hj => by rw [e_A2]; exact (va_up_ne _ _ hj).trans (f1 j hj)
  rcases m_ifE hf with ⟨c1, hf⟩ | ⟨c1, hf⟩
  · skip
    replace c1 := ti_eqP (a := x7) (b := (0 : Int32)) c1 rfl (show (0 : Int32).toInt = 0 from rfl)
    unfold f_isSafeOnce_169 at hf
    obtain ⟨-, hf⟩ := m_chkE hf
    cases hf
    try dsimp only
    exact ⟨rfl, rfl, f2, fun _ => by show mR A2 = _; rw [y2, y1], fun h => absurd c1 h⟩
  · skip
    replace c1 := ti_eqN (a := x7) (b := (0 : Int32)) c1 rfl (show (0 : Int32).toInt = 0 from rfl)
    obtain ⟨-, hf⟩ := m_chkE hf
    obtain ⟨A3, e_A3, hf⟩ := m_bndE hf
    have y3 := mR_up e_A3 h6.1 h6.2
    have f3 : ∀ j, j ≠ 24 → A3 j = A j := fun j hj => by rw [e_A3]; exact (va_up_ne _ _ hj).trans (f2 j hj)
    unfold f_isSafeOnce_169 at hf
    obtain ⟨-, hf⟩ := m_chkE hf
    cases hf
    try dsimp only
    exact ⟨rfl, rfl, f3, fun h => absurd h c1, fun _ => by show mR A3 = _; rw [y3, y2, y1]⟩
/-- the men for a moment are those behind the move -/
theorem on_men {a t : Int} (ha : 0 ≤ a ∧ a < 64) (ht : 0 ≤ t ∧ t < 64) (hP : POS m sd rt ps kw kb) (hg : goR m sd rt ps a t) (hc : attd m (if sd = 0 then kw else kb) (1 - sd)) : ((m a % 8 = 1 ∧ m t = 0 ∧ a % 8 ≠ t % 8) → (a / 8 * 8 + t % 8 ≠ a ∧ a / 8 * 8 + t % 8 ≠ t) ∧ mkR m sd a t 0 = up (up (up m a 0) t (m a)) (a / 8 * 8 + t % 8) 0) ∧ (¬ (m a % 8 = 1 ∧ m t = 0 ∧ a % 8 ≠ t % 8) → mkR m sd a t 0 = up (up m a 0) t (m a)) := by
  have hs := hP.1
  have nk : ¬ (m a % 8 = 6 ∧ a % 8 = 4 ∧ (t % 8 = 6 ∨ t % 8 = 2)) := by
    rintro ⟨g1, g2, g3⟩
    obtain ⟨⟨n0, n1⟩, -, h3⟩ := hg
    rcases h3 with h3 | ⟨-, h3⟩
    · omega
    · rcases h3 with h3 | ⟨-, h3⟩
      · rcases h3 with ⟨k, -⟩ | ⟨k, -⟩ | ⟨-, g⟩ | ⟨g, -⟩
        · omega
        · omega
        · unfold kin at g
          omega
        · unfold lin at g
          omega
      · obtain ⟨-, h4, -⟩ := h3
        apply h4
        have hMa := hP.2.1 a
        have ea : a = (if sd = 0 then kw else kb) := by
          rcases hs with e | e
          · subst e
            rw [if_pos rfl]
            exact ku_1 hP.2.2.1 ha (by omega)
          · subst e
            rw [if_neg (by decide)]
            exact ku_1 hP.2.2.2.1 ha (by omega)
        rw [ea]
        exact hc
  have e3 : ∀ f : Int → Int, k3 f sd 0 (m a) a t = up (up f a 0) t (m a) := fun f => by
    unfold k3
    rw [if_neg (by decide)]
  constructor
  · rintro ⟨g1, g2, g3⟩
    have hw : pwn m sd ps a t := hg.2.2.elim (fun z => z.2) (fun z => absurd g1 z.1)
    have hb : t / 8 ≠ a / 8 := by
      rcases pwn_3 hw with w | w | w
      · rcases hs with e | e <;> subst e <;> omega
      · rcases hs with e | e <;> subst e <;> omega
      · rcases hs with e | e <;> subst e <;> omega
    refine ⟨⟨by omega, by omega⟩, ?_⟩
    unfold mkR
    rw [k2_n nk, e3, k1_y ⟨by unfold pwb; rw [if_pos g1], g2, g3⟩]
    rw [up_c (a := a / 8 * 8 + t % 8) (b := a) (by omega), up_c (a := a / 8 * 8 + t % 8) (b := t) (by omega)]
  · intro h
    unfold mkR
    rw [k2_n nk, e3, k1_n (fun g => h ⟨by
      have := g.1
      unfold pwb at this
      by_cases e : m a % 8 = 1
      · exact e
      · rw [if_neg e] at this; omega, g.2⟩)]
/-- what the reference looks at: its men, side, rights, passed square -/
noncomputable def RJ (m : Int → Int) (sd rt ps : Int) (I : Nat → Int32) (A : Nat → Nat → Int32) : Prop := TJ I ∧ TK A ∧ mR A = m ∧ (I 25).toInt = sd ∧ (I 26).toInt = rt ∧ (I 27).toInt = ps
theorem tk_24 {A A1 : Nat → Nat → Int32} (h : TK A) (hA : TK A1) (hj : ∀ j, j ≠ 24 → A1 j = A j) : TK A1 := hA
theorem on_121 {x2 x3 x4 x5 x6 x7 x8 : Int32} {I : Nat → Int32} {A : Nat → Nat → Int32} {o : Int32 × MS} {B : Int → Int} {k : Int} (hI : TJ I) (hA : TK A) (hB : mR A = B) (hs : (I 25).toInt = sd) (hs2 : sd = 0 ∨ sd = 1) (hk : KU B sd k) (hM : MBd B) (hf : f_isSafeOnce_121 x2 x3 x4 x5 x6 x7 x8 I A = some o) : ∃ y : Int32, (y.toInt = 0 ∨ y.toInt = 1) ∧ (y.toInt = 1 ↔ ¬ attd B k (1 - sd)) ∧ f_isSafeOnce_137 x2 x3 x4 x5 x6 x7 x8 y I A = some o := by
  have z0 : (0 : Int32).toInt = 0 := rfl
  unfold f_isSafeOnce_121 at hf
  obtain ⟨r1, h_r1, hf⟩ := m_clR hf (fun _ h => rro_isInCheck h)
  obtain ⟨-, b1, q1⟩ := ok_of (x_isInCheck (k := k) (x1 := I 25) hI hA (by omega) (by rw [hB, hs]; exact hk) (by rw [hB]; exact hM)) h_r1
  dsimp only at b1 q1
  rw [hB, hs] at q1
  rcases m_ifE hf with ⟨c1, hf⟩ | ⟨c1, hf⟩
  · skip
    replace c1 := ti_eqP (a := r1) (b := (0 : Int32)) c1 rfl (show (0 : Int32).toInt = 0 from rfl)
    exact ⟨1, Or.inr rfl, ⟨fun _ g => by have := q1.2 g; omega, fun _ => rfl⟩, hf⟩
  · skip
    replace c1 := ti_eqN (a := r1) (b := (0 : Int32)) c1 rfl (show (0 : Int32).toInt = 0 from rfl)
    exact ⟨0, Or.inl rfl, ⟨fun h => absurd h (by decide), fun g => absurd (q1.1 (by omega)) g⟩, hf⟩
theorem p_once {x1 : Int32} {I : Nat → Int32} {A : Nat → Nat → Int32} {o : Int32 × MS} {a t : Int} (hJ : RJ m sd rt ps I A) (hP : POS m sd rt ps kw kb) (ha : 0 ≤ a ∧ a < 64) (ht : 0 ≤ t ∧ t < 64) (hg : goR m sd rt ps a t) (hc : attd m (if sd = 0 then kw else kb) (1 - sd)) (hx : x1.toInt = a + 64 * t) (hf : f_isSafeOnce x1 I A = some o) : RJ m sd rt ps o.2.1 o.2.2 ∧ o.2.1 = I ∧ (∀ j, j ≠ 24 → o.2.2 j = A j) ∧ (o.1.toInt = 0 ∨ o.1.toInt = 1) ∧ (o.1.toInt = 1 ↔ safC m sd ps (if sd = 0 then kw else kb) a t 0) := by
  obtain ⟨hI, hA, hm, i25, i26, i27⟩ := id hJ
  have hs := hP.1
  have hM := hP.2.1
  have T9 : TK o.2.2 := (ok_of (t_isSafeOnce hI hA (by omega)) hf).2.1
  have hr := ((go_rch hs).1 hg).1
  have hL := leg_eq (p := 0) hP ha ht (by decide)
  have hmk := mk_pl (p := 0) hs ha ht (by decide) hP.2.2.2.2.1 hr
  have kg : KU (mkR m sd a t 0) sd (kgB m sd ps a t 0 sd (if sd = 0 then kw else kb)) := by
    rw [hmk]
    exact ku_p0 hP ha ht hr rfl
  have hM0 : MBd (mkR m sd a t 0) := by
    rw [hmk]
    exact mbd_pl hM hs (by decide)
  obtain ⟨oy, on⟩ := on_men ha ht hP hg hc
  have hat : a ≠ t := fun e => by rw [e] at hr; exact hr.2.1 hr.1
  have fin : ∀ {v1 v3 v4 v5 v9 t0 : Int32} , v1.toInt = a → v3.toInt = t → v4.toInt = m a → v5.toInt = m t → v9.toInt = a / 8 * 8 + t % 8 → (t0.toInt = 0 ∨ t0.toInt = 1) → (t0.toInt = 1 ↔ (m a % 8 = 1 ∧ m t = 0 ∧ a % 8 ≠ t % 8)) → f_isSafeOnce_73 v1 v3 v4 v5 v9 t0 I A = some o → RJ m sd rt ps o.2.1 o.2.2 ∧ o.2.1 = I ∧ (∀ j, j ≠ 24 → o.2.2 j = A j) ∧ (o.1.toInt = 0 ∨ o.1.toInt = 1) ∧ (o.1.toInt = 1 ↔ safC m sd ps (if sd = 0 then kw else kb) a t 0) := by
    intro v1 v3 v4 v5 v9 t0 w1 w3 w4 w5 w9 b0 q0 hf
    have z0 : (0 : Int32).toInt = 0 := rfl
    -- the end: men as they were
    have last : ∀ (A2 : Nat → Nat → Int32) (x8 : Int32), (∀ j, j ≠ 24 → A2 j = A j) → TK A2 → mR A2 = mkR m sd a t 0 → (t0.toInt = 1 → x8.toInt = m (a / 8 * 8 + t % 8)) → f_isSafeOnce_121 v1 v3 v4 v5 v9 t0 x8 I A2 = some o → RJ m sd rt ps o.2.1 o.2.2 ∧ o.2.1 = I ∧ (∀ j, j ≠ 24 → o.2.2 j = A j) ∧ (o.1.toInt = 0 ∨ o.1.toInt = 1) ∧ (o.1.toInt = 1 ↔ safC m sd ps (if sd = 0 then kw else kb) a t 0) := by
      intro A2 x8 f2 k2 m2 h8 hf
      obtain ⟨y, y1, y2, hf⟩ := on_121 hI k2 m2 i25 hs kg hM0 hf
      obtain ⟨r1, r2, r3, r4, r5⟩ := on_137 (by omega) (by omega) (by omega) hf
      have back : mR o.2.2 = m := by
        by_cases c : t0.toInt = 0
        · rw [r4 c, m2, on (fun g => by have := q0.2 g; omega), w1, w3, w4, w5]
          funext s
          by_cases e1 : s = t
          · rw [e1, up_s]
          · rw [up_n e1]
            by_cases e2 : s = a
            · rw [e2, up_s]
            · rw [up_n e2, up_n e1, up_n e2]
        · have c1 : t0.toInt = 1 := by omega
          obtain ⟨⟨n1, n2⟩, hb⟩ := oy (q0.1 c1)
          rw [r5 c, m2, hb, w1, w3, w4, w5, w9, h8 c1]
          funext s
          by_cases e3 : s = a / 8 * 8 + t % 8
          · rw [e3, up_s]
          · rw [up_n e3]
            by_cases e1 : s = t
            · rw [e1, up_s]
            · rw [up_n e1]
              by_cases e2 : s = a
              · rw [e2, up_s]
              · rw [up_n e2, up_n e3, up_n e1, up_n e2]
      refine ⟨⟨by rw [r2]; exact hI, T9, back, by rw [r2]; exact i25, by rw [r2]; exact i26, by rw [r2]; exact i27⟩, r2, fun j hj => (r3 j hj).trans (f2 j hj), by rw [r1]; exact y1, ?_⟩
      rw [r1, y2]
      exact ⟨fun g => (hL.1 ⟨hg, g⟩).2, fun g => (hL.2 ⟨hr, g⟩).2⟩
    have mid : ∀ x8 : Int32, (t0.toInt = 1 → x8.toInt = m (a / 8 * 8 + t % 8)) → f_isSafeOnce_91 v1 v3 v4 v5 v9 t0 x8 I A = some o → RJ m sd rt ps o.2.1 o.2.2 ∧ o.2.1 = I ∧ (∀ j, j ≠ 24 → o.2.2 j = A j) ∧ (o.1.toInt = 0 ∨ o.1.toInt = 1) ∧ (o.1.toInt = 1 ↔ safC m sd ps (if sd = 0 then kw else kb) a t 0) := by
      intro x8 h8 hf
      unfold f_isSafeOnce_91 at hf
      obtain ⟨-, hf⟩ := m_chkE hf
      obtain ⟨A1, e_A1, hf⟩ := m_bndE hf
      have y1 := mR_up e_A1 (by omega) (by omega)
      have f1 : ∀ j, j ≠ 24 → A1 j = A j := fun j hj => by rw [e_A1]; exact va_up_ne _ _ hj
      have k1 : TK A1 := by
        rw [e_A1]
        exact tk_w hA (j := 24) rfl
      obtain ⟨-, hf⟩ := m_chkE hf
      obtain ⟨A2, e_A2, hf⟩ := m_bndE hf
      have y2 := mR_up e_A2 (by omega) (by omega)
      have f2 : ∀ j, j ≠ 24 → A2 j = A j := fun j hj => by rw [e_A2]; exact (va_up_ne _ _ hj).trans (f1 j hj)
      have k2 : TK A2 := by
        rw [e_A2]
        exact tk_w k1 (j := 24) rfl
      have m2 : mR A2 = up (up m a 0) t (m a) := by rw [y2, y1, hm, w1, w3, w4]; rfl
      rcases m_ifE hf with ⟨c1, hf⟩ | ⟨c1, hf⟩
      · skip
        replace c1 := ti_eqP (a := t0) (b := (0 : Int32)) c1 rfl (show (0 : Int32).toInt = 0 from rfl)
        exact last A2 x8 f2 k2 (by rw [m2, on (fun g => by have := q0.2 g; omega)]) h8 hf
      · skip
        replace c1 := ti_eqN (a := t0) (b := (0 : Int32)) c1 rfl (show (0 : Int32).toInt = 0 from rfl)
        obtain ⟨-, hf⟩ := m_chkE hf
        obtain ⟨A3, e_A3, hf⟩ := m_bndE hf
        have y3 := mR_up e_A3 (by omega) (by omega)
        have f3 : ∀ j, j ≠ 24 → A3 j = A j := fun j hj => by rw [e_A3]; exact (va_up_ne _ _ hj).trans (f2 j hj)
        have k3 : TK A3 := by
          rw [e_A3]
          exact tk_w k2 (j := 24) rfl
        exact last A3 x8 f3 k3 (by rw [y3, m2, w9, (oy (q0.1 (by omega))).2]; rfl) h8 hf
    unfold f_isSafeOnce_73 at hf
    rcases m_ifE hf with ⟨c1, hf⟩ | ⟨c1, hf⟩
    · skip
      replace c1 := ti_eqP (a := t0) (b := (0 : Int32)) c1 rfl (show (0 : Int32).toInt = 0 from rfl)
      exact mid _ (fun h => by omega) hf
    · skip
      replace c1 := ti_eqN (a := t0) (b := (0 : Int32)) c1 rfl (show (0 : Int32).toInt = 0 from rfl)
      obtain ⟨-, hf⟩ := m_chkE hf
      obtain ⟨v901, e_v901, hf⟩ := m_bndE hf
      exact mid _ (fun _ => by rw [mR_at e_v901 (by omega) (by omega), hm, w9]) hf
  have hf : f_isSafeOnce_0 x1 I A = some o := hf
  have z0 : (0 : Int32).toInt = 0 := rfl
  unfold f_isSafeOnce_0 at hf
  obtain ⟨v1, e_v1, hf⟩ := m_bndE hf
  have t_v1 : v1.toInt = x1.toInt % 64 := ti_rem e_v1 rfl (show (64 : Int32).toInt = 64 from rfl) (by omega) (by decide)
  obtain ⟨v2, e_v2, hf⟩ := m_bndE hf
  have t_v2 : v2.toInt = x1.toInt / 64 := ti_div e_v2 rfl (show (64 : Int32).toInt = 64 from rfl) (by omega) (by decide)
  obtain ⟨v3, e_v3, hf⟩ := m_bndE hf
  have t_v3 : v3.toInt = v2.toInt % 64 := ti_rem e_v3 rfl (show (64 : Int32).toInt = 64 from rfl) (by omega) (by decide)
  have u1 : v1.toInt = a := by omega
  have u3 : v3.toInt = t := by omega
  obtain ⟨-, hf⟩ := m_chkE hf
  obtain ⟨v4, e_v4, hf⟩ := m_bndE hf
  have w4 := mR_at e_v4 (by omega) (by omega)
  rw [hm, show v1.toInt = a by omega] at w4
  obtain ⟨-, hf⟩ := m_chkE hf
  obtain ⟨v5, e_v5, hf⟩ := m_bndE hf
  have w5 := mR_at e_v5 (by omega) (by omega)
  rw [hm, show v3.toInt = t by omega] at w5
  have wa := hM a
  obtain ⟨v6, e_v6, hf⟩ := m_bndE hf
  have t_v6 : v6.toInt = v1.toInt / 8 := ti_div e_v6 rfl (show (8 : Int32).toInt = 8 from rfl) (by omega) (by decide)
  obtain ⟨v7, e_v7, hf⟩ := m_bndE hf
  have t_v7 : v7.toInt = v6.toInt * 8 := ti_mul e_v7 rfl (show (8 : Int32).toInt = 8 from rfl) (by omega) (by omega)
  obtain ⟨v8, e_v8, hf⟩ := m_bndE hf
  have t_v8 : v8.toInt = v3.toInt % 8 := ti_rem e_v8 rfl (show (8 : Int32).toInt = 8 from rfl) (by omega) (by decide)
  obtain ⟨v9, e_v9, hf⟩ := m_bndE hf
  have t_v9 : v9.toInt = v7.toInt + v8.toInt := ti_add e_v9 rfl rfl (by omega) (by omega)
  have u9 : v9.toInt = a / 8 * 8 + t % 8 := by omega
  obtain ⟨r10, h_r10, hf⟩ := m_clR hf (fun _ h => rro_kind h)
  have p_r10 := pc_kind h_r10
  dsimp only at p_r10
  have p10 := p_r10 hI hA (by omega)
  rcases m_ifE hf with ⟨c1, hf⟩ | ⟨c1, hf⟩
  · skip
    replace c1 := ti_eqP (a := r10) (b := (1 : Int32)) c1 rfl (show (1 : Int32).toInt = 1 from rfl)
    rcases m_ifE hf with ⟨c2, hf⟩ | ⟨c2, hf⟩
    · skip
      replace c2 := ti_eqP (a := v5) (b := (0 : Int32)) c2 rfl (show (0 : Int32).toInt = 0 from rfl)
      obtain ⟨v11, e_v11, hf⟩ := m_bndE hf
      have t_v11 : v11.toInt = v1.toInt % 8 := ti_rem e_v11 rfl (show (8 : Int32).toInt = 8 from rfl) (by omega) (by decide)
      obtain ⟨v12, e_v12, hf⟩ := m_bndE hf
      have t_v12 : v12.toInt = v3.toInt % 8 := ti_rem e_v12 rfl (show (8 : Int32).toInt = 8 from rfl) (by omega) (by decide)
      rw [u1] at t_v11
      rw [u3] at t_v12
      rcases m_ifE hf with ⟨c3, hf⟩ | ⟨c3, hf⟩
      · skip
        replace c3 := ti_eqP (a := v11) (b := v12) c3 rfl rfl
        unfold f_isSafeOnce_72 at hf
        exact fin u1 u3 w4 w5 u9 (Or.inl rfl) ⟨fun h => absurd h (by decide), fun h => by clear t_v1 t_v2 t_v3 hx; omega⟩ hf
      · skip
        replace c3 := ti_eqN (a := v11) (b := v12) c3 rfl rfl
        exact fin u1 u3 w4 w5 u9 (Or.inr rfl) ⟨fun _ => ⟨by clear t_v1 t_v2 t_v3 hx; omega, by clear t_v1 t_v2 t_v3 hx; omega, by clear t_v1 t_v2 t_v3 hx; omega⟩, fun _ => rfl⟩ hf
    · skip
      replace c2 := ti_eqN (a := v5) (b := (0 : Int32)) c2 rfl (show (0 : Int32).toInt = 0 from rfl)
      unfold f_isSafeOnce_72 at hf
      exact fin u1 u3 w4 w5 u9 (Or.inl rfl) ⟨fun h => absurd h (by decide), fun h => by clear t_v1 t_v2 t_v3 hx; omega⟩ hf
  · skip
    replace c1 := ti_eqN (a := r10) (b := (1 : Int32)) c1 rfl (show (1 : Int32).toInt = 1 from rfl)
    unfold f_isSafeOnce_72 at hf
    exact fin u1 u3 w4 w5 u9 (Or.inl rfl) ⟨fun h => absurd h (by decide), fun h => by clear t_v1 t_v2 t_v3 hx; omega⟩ hf
section BHD
variable {I0 : Nat → Int32} {A0 : Nat → Nat → Int32} {o : Int32 × MS}
/-- while answers to a check are looked for -/
noncomputable def BJ (m : Int → Int) (sd rt ps : Int) (I0 : Nat → Int32) (A0 : Nat → Nat → Int32) (I : Nat → Int32) (A : Nat → Nat → Int32) : Prop := RJ m sd rt ps I A ∧ I = I0 ∧ ∀ j, j ≠ 24 → A j = A0 j
theorem bh_98 {x2 : Int32} {I : Nat → Int32} {A : Nat → Nat → Int32} (hf : f_behind_98 x2 I A = some o) : o = (x2, (nB I A, va_up A 24 (A 30))) := by
  unfold f_behind_98 at hf
  obtain ⟨o1, h1, hf⟩ := m_clE hf
  have e : f_bringBack I A = some (0, (nB I A, va_up A 24 (A 30))) := rfl
  rw [e] at h1
  have e2 := Option.some.inj h1
  subst e2
  obtain ⟨-, hf⟩ := m_chkE hf
  exact (Option.some.inj hf).symm
theorem bh_27 {I : Nat → Int32} {A : Nat → Nat → Int32} {x2 x3 : Int32} : ∀ n, x2.toInt ≠ 35 → f_behind_27 n x2 x3 I A = some o → o = (x2, (nB I A, va_up A 24 (A 30))) := by
  intro n h hf
  cases n with
  | zero => cases hf
  | succ n =>
    have hf : f_behind_27s (f_behind_27 n) x2 x3 I A = some o := hf
    unfold f_behind_27s at hf
    rcases m_ifE hf with ⟨c1, hf⟩ | ⟨c1, hf⟩
    · skip
      replace c1 := ti_leP (a := (64 : Int32)) (b := x3) c1 (show (64 : Int32).toInt = 64 from rfl) rfl
      exact bh_98 hf
    · skip
      replace c1 := ti_leN (a := (64 : Int32)) (b := x3) c1 (show (64 : Int32).toInt = 64 from rfl) rfl
      rcases m_ifE hf with ⟨c2, hf⟩ | ⟨c2, hf⟩
      · skip
        replace c2 := ti_eqP (a := x2) (b := (35 : Int32)) c2 rfl (show (35 : Int32).toInt = 35 from rfl)
        omega
      · skip
        replace c2 := ti_eqN (a := x2) (b := (35 : Int32)) c2 rfl (show (35 : Int32).toInt = 35 from rfl)
        exact bh_98 hf
theorem bh_42 {G : Int32 × MS → Prop} {x3 : Int32} {self27 : Int32 → Int32 → (Nat → Int32) → (Nat → Nat → Int32) → Option (Int32 × MS)} (hP : POS m sd rt ps kw kb) (hc : attd m (if sd = 0 then kw else kb) (1 - sd)) (h3 : 0 ≤ x3.toInt ∧ x3.toInt < 64) (H : ∀ (v : Int32) (I : Nat → Int32) (A : Nat → Nat → Int32), v.toInt = x3.toInt + 1 → BJ m sd rt ps I0 A0 I A → NBf m sd rt ps kw kb (x3.toInt * 64 + 64) → self27 35 v I A = some o → G o) (H4 : ∀ (v : Int32) (I : Nat → Int32) (A : Nat → Nat → Int32), BJ m sd rt ps I0 A0 I A → ANY m sd rt ps kw kb → self27 43 v I A = some o → G o) : ∀ (n : Nat) (x2 x4 : Int32) (I : Nat → Int32) (A : Nat → Nat → Int32), (x2 = 35 ∨ (x2 = 43 ∧ ANY m sd rt ps kw kb)) → (0 ≤ x4.toInt ∧ x4.toInt ≤ 64) → BJ m sd rt ps I0 A0 I A → (x2 = 35 → NBf m sd rt ps kw kb (x3.toInt * 64 + x4.toInt)) → f_behind_42 self27 n x2 x3 x4 I A = some o → G o := by
  intro n
  induction n with
  | zero => intro x2 x4 I A _ _ _ _ hf; cases hf
  | succ n ih =>
    intro x2 x4 I A h2 h4 hB hN hf
    have hf : f_behind_42s self27 (f_behind_42 self27 n) x2 x3 x4 I A = some o := hf
    have z35 : (35 : Int32).toInt = 35 := rfl
    have z43 : (43 : Int32).toInt = 43 := rfl
    have nx : ∀ Iq Aq, BJ m sd rt ps I0 A0 Iq Aq → x2 = 35 → ¬ LG m sd rt ps kw kb x3.toInt x4.toInt → x4.toInt < 64 → f_behind_84 self27 (f_behind_42 self27 n) x2 x3 x4 Iq Aq = some o → G o := by
      intro Iq Aq hB2 e2 hn hlt hf
      unfold f_behind_84 at hf
      unfold f_behind_85 at hf
      obtain ⟨v1, e_v1, hf⟩ := m_bndE hf
      have t_v1 : v1.toInt = x4.toInt + 1 := ti_add e_v1 rfl (show (1 : Int32).toInt = 1 from rfl) (by omega) (by omega)
      refine ih x2 v1 Iq Aq h2 (by omega) hB2 (fun _ => ?_) hf
      have e : x3.toInt * 64 + v1.toInt = x3.toInt * 64 + x4.toInt + 1 := by omega
      rw [e]
      exact nb_s (hN e2) hn h3 ⟨h4.1, hlt⟩
    obtain ⟨⟨hI, hA, hm, i25, i26, i27⟩, eI, eA⟩ := id hB
    unfold f_behind_42s at hf
    rcases m_ifE hf with ⟨c1, hf⟩ | ⟨c1, hf⟩
    · skip
      replace c1 := ti_leP (a := (64 : Int32)) (b := x4) c1 (show (64 : Int32).toInt = 64 from rfl) rfl
      unfold f_behind_92 at hf
      obtain ⟨v1, e_v1, hf⟩ := m_bndE hf
      have t_v1 : v1.toInt = x3.toInt + 1 := ti_add e_v1 rfl (show (1 : Int32).toInt = 1 from rfl) (by omega) (by omega)
      rcases h2 with h2 | ⟨h2, hA1⟩
      · subst h2
        have e : x4.toInt = 64 := by omega
        have hN2 := hN rfl
        rw [e] at hN2
        exact H v1 I A t_v1 hB hN2 hf
      · subst h2
        exact H4 v1 I A hB hA1 hf
    · skip
      replace c1 := ti_leN (a := (64 : Int32)) (b := x4) c1 (show (64 : Int32).toInt = 64 from rfl) rfl
      rcases m_ifE hf with ⟨c2, hf⟩ | ⟨c2, hf⟩
      · skip
        replace c2 := ti_eqP (a := x2) (b := (35 : Int32)) c2 rfl (show (35 : Int32).toInt = 35 from rfl)
        have e35 : x2 = 35 := Int32.toInt_inj.1 (by omega)
        obtain ⟨r1, h_r1, hf⟩ := m_clR hf (fun _ h => rro_goes h)
        obtain ⟨-, b1, q1⟩ := ok_of (x_goes (P := goR m sd rt ps x3.toInt x4.toInt) hI hA (by omega) (by omega) (by rw [hm, i25, i26, i27]) (by rw [hm]; exact hP.2.1) (by rw [i26]; exact hP.2.2.2.2.2.2.1)) h_r1
        dsimp only at b1 q1
        rcases m_ifE hf with ⟨c3, hf⟩ | ⟨c3, hf⟩
        · skip
          replace c3 := ti_eqP (a := r1) (b := (0 : Int32)) c3 rfl (show (0 : Int32).toInt = 0 from rfl)
          exact nx I A hB e35 (fun h => by
            have := q1.2 ((leg_eq (p := 0) hP h3 ⟨h4.1, by omega⟩ (by decide)).2 h).1
            omega) (by omega) hf
        · skip
          replace c3 := ti_eqN (a := r1) (b := (0 : Int32)) c3 rfl (show (0 : Int32).toInt = 0 from rfl)
          obtain ⟨v2, e_v2, hf⟩ := m_bndE hf
          have t_v2 : v2.toInt = 64 * x4.toInt := ti_mul e_v2 (show (64 : Int32).toInt = 64 from rfl) rfl (by omega) (by omega)
          obtain ⟨v3, e_v3, hf⟩ := m_bndE hf
          have t_v3 : v3.toInt = x3.toInt + v2.toInt := ti_add e_v3 rfl rfl (by omega) (by omega)
          obtain ⟨⟨r4, Ic4, Ac4⟩, h_r4, hf⟩ := m_clE hf
          dsimp only at hf
          obtain ⟨J4, f4, g4, b4, q4⟩ := p_once hB.1 hP h3 ⟨h4.1, by omega⟩ (q1.1 (by omega)) hc (by omega) h_r4
          dsimp only at J4 f4 g4 b4 q4
          have B4 : BJ m sd rt ps I0 A0 Ic4 Ac4 := ⟨J4, f4.trans eI, fun j hj => (g4 j hj).trans (eA j hj)⟩
          rcases m_ifE hf with ⟨c4, hf⟩ | ⟨c4, hf⟩
          · skip
            replace c4 := ti_eqP (a := r4) (b := (0 : Int32)) c4 rfl (show (0 : Int32).toInt = 0 from rfl)
            exact nx Ic4 Ac4 B4 e35 (fun h => by have := q4.2 h.2; omega) (by omega) hf
          · skip
            replace c4 := ti_eqN (a := r4) (b := (0 : Int32)) c4 rfl (show (0 : Int32).toInt = 0 from rfl)
            unfold f_behind_85 at hf
            obtain ⟨v1, e_v1, hf⟩ := m_bndE hf
            have t_v1 : v1.toInt = x4.toInt + 1 := ti_add e_v1 rfl (show (1 : Int32).toInt = 1 from rfl) (by omega) (by omega)
            have hr := ((go_rch hP.1).1 (q1.1 (by omega))).1
            exact ih 43 v1 Ic4 Ac4 (Or.inr ⟨rfl, ⟨x3.toInt, x4.toInt, h3.1, h3.2, h4.1, by omega, hr, q4.1 (by omega)⟩⟩) (by omega) B4 (fun h => absurd h (by decide)) hf
      · skip
        replace c2 := ti_eqN (a := x2) (b := (35 : Int32)) c2 rfl (show (35 : Int32).toInt = 35 from rfl)
        unfold f_behind_92 at hf
        obtain ⟨v1, e_v1, hf⟩ := m_bndE hf
        rcases h2 with h2 | ⟨h2, hA1⟩
        · subst h2
          omega
        · subst h2
          exact H4 v1 I A hB hA1 hf
theorem bh_27c (hP : POS m sd rt ps kw kb) (hc : attd m (if sd = 0 then kw else kb) (1 - sd)) : ∀ (n : Nat) (x3 : Int32) (I : Nat → Int32) (A : Nat → Nat → Int32), (0 ≤ x3.toInt ∧ x3.toInt ≤ 64) → BJ m sd rt ps I0 A0 I A → NBf m sd rt ps kw kb (x3.toInt * 64) → f_behind_27 n 35 x3 I A = some o → ∃ I A, BJ m sd rt ps I0 A0 I A ∧ o.2 = (nB I A, va_up A 24 (A 30)) ∧ ((ANY m sd rt ps kw kb ∧ o.1.toInt = 43) ∨ (¬ ANY m sd rt ps kw kb ∧ o.1.toInt = 35)) := by
  intro n
  induction n with
  | zero => intro x3 I A _ _ _ hf; cases hf
  | succ n ih =>
    intro x3 I A h3 hB hN hf
    have hf : f_behind_27s (f_behind_27 n) 35 x3 I A = some o := hf
    have z0 : (0 : Int32).toInt = 0 := rfl
    unfold f_behind_27s at hf
    rcases m_ifE hf with ⟨c1, hf⟩ | ⟨c1, hf⟩
    · skip
      replace c1 := ti_leP (a := (64 : Int32)) (b := x3) c1 (show (64 : Int32).toInt = 64 from rfl) rfl
      have := bh_98 hf
      subst this
      exact ⟨I, A, hB, rfl, Or.inr ⟨nb_any hN (by omega), rfl⟩⟩
    · skip
      replace c1 := ti_leN (a := (64 : Int32)) (b := x3) c1 (show (64 : Int32).toInt = 64 from rfl) rfl
      rcases m_ifE hf with ⟨c2, hf⟩ | ⟨c2, hf⟩
      · skip
        replace c2 := ti_eqP (a := (35 : Int32)) (b := (35 : Int32)) c2 (show (35 : Int32).toInt = 35 from rfl) (show (35 : Int32).toInt = 35 from rfl)
        refine bh_42 (G := fun o => ∃ I A, BJ m sd rt ps I0 A0 I A ∧ o.2 = (nB I A, va_up A 24 (A 30)) ∧ ((ANY m sd rt ps kw kb ∧ o.1.toInt = 43) ∨ (¬ ANY m sd rt ps kw kb ∧ o.1.toInt = 35))) hP hc (by omega) (fun v I A ev hB hN hf => ih v I A (by omega) hB (by rw [show v.toInt * 64 = x3.toInt * 64 + 64 by omega]; exact hN) hf) (fun v I A hB hA hf => ?_) mFuel 35 0 I A (Or.inl rfl) (by omega) hB (fun _ => by rw [show x3.toInt * 64 + (0 : Int32).toInt = x3.toInt * 64 by omega]; exact hN) hf
        have := bh_27 n (by decide) hf
        subst this
        exact ⟨I, A, hB, rfl, Or.inl ⟨hA, rfl⟩⟩
      · skip
        replace c2 := ti_eqN (a := (35 : Int32)) (b := (35 : Int32)) c2 (show (35 : Int32).toInt = 35 from rfl) (show (35 : Int32).toInt = 35 from rfl)
        exact absurd rfl c2
end BHD
end CSG
end
section
/-- the letter of a kind of man, and back -/
noncomputable def ltK (k : Int) : Int := if k = 2 then 78 else if k = 3 then 66 else if k = 4 then 82 else if k = 5 then 81 else if k = 6 then 75 else 80
noncomputable def kO (c : Int) : Int := if c = 80 then 1 else if c = 78 then 2 else if c = 66 then 3 else if c = 82 then 4 else if c = 81 then 5 else if c = 75 then 6 else 0
noncomputable def wA (w : List Int) (i : Int) : Int := if 0 ≤ i then w.getD i.toNat 0 else 0
/-- a word of its parts: kind, file, rank, x, square, what it becomes -/
noncomputable def rend (kd fl rk tk to bc : Int) : List Int := (if 2 ≤ kd then [ltK kd] else []) ++ ((if 0 ≤ fl then [97 + fl] else []) ++ ((if 0 ≤ rk then [49 + rk] else []) ++ ((if tk = 1 then [120] else []) ++ ([97 + to % 8, 49 + to / 8] ++ (if 2 ≤ bc then [61, ltK bc] else [])))))
noncomputable def vld (kd fl rk tk to bc : Int) : Prop := (1 ≤ kd ∧ kd ≤ 6) ∧ (-1 ≤ fl ∧ fl ≤ 7) ∧ (-1 ≤ rk ∧ rk ≤ 7) ∧ (kd = 1 → rk = -1) ∧ (tk = 0 ∨ tk = 1) ∧ (0 ≤ to ∧ to ≤ 63) ∧ (bc = 0 ∨ (2 ≤ bc ∧ bc ≤ 5 ∧ kd = 1))
noncomputable def paF (w : List Int) (st s : Int) : Int := if st < s ∧ 97 ≤ wA w st ∧ wA w st ≤ 104 then wA w st - 97 else -1
noncomputable def paI (w : List Int) (st s : Int) : Int := if st < s ∧ 97 ≤ wA w st ∧ wA w st ≤ 104 then st + 1 else st
noncomputable def paR (w : List Int) (kd i s : Int) : Int := if i < s ∧ kd ≠ 1 ∧ 49 ≤ wA w i ∧ wA w i ≤ 56 then wA w i - 49 else -1
noncomputable def paJ (w : List Int) (kd i s : Int) : Int := if i < s ∧ kd ≠ 1 ∧ 49 ≤ wA w i ∧ wA w i ≤ 56 then i + 1 else i
noncomputable def prK (w : List Int) : Int := if 2 ≤ kO (wA w 0) then kO (wA w 0) else 1
noncomputable def prS (w : List Int) : Int := if 2 ≤ kO (wA w 0) then 1 else 0
noncomputable def prB (w : List Int) : Int := if prK w = 1 ∧ wA w ((w.length : Int) - 2) = 61 then kO (wA w ((w.length : Int) - 1)) else 0
noncomputable def prN (w : List Int) : Int := if prK w = 1 ∧ wA w ((w.length : Int) - 2) = 61 then (w.length : Int) - 2 else (w.length : Int)
noncomputable def prT (w : List Int) : Int := sqO (wA w (prN w - 2)) (wA w (prN w - 1))
noncomputable def prX (w : List Int) : Int := if prS w < prN w - 2 ∧ wA w (prN w - 2 - 1) = 120 then 1 else 0
noncomputable def prZ (w : List Int) : Int := prN w - 2 - prX w
noncomputable def prF (w : List Int) : Int := paF w (prS w) (prZ w)
noncomputable def prI (w : List Int) : Int := paI w (prS w) (prZ w)
noncomputable def prR (w : List Int) : Int := paR w (prK w) (prI w) (prZ w)
noncomputable def prJ (w : List Int) : Int := paJ w (prK w) (prI w) (prZ w)
noncomputable def PRSok (w : List Int) : Prop := (prK w = 1 ∧ wA w ((w.length : Int) - 2) = 61 → 2 ≤ prB w ∧ prB w ≤ 5) ∧ prT w ≠ -1 ∧ prJ w = prZ w
theorem kO_b (c : Int) : 0 ≤ kO c ∧ kO c ≤ 6 := by
  unfold kO
  omega
theorem lt_kO {c : Int} (h : 2 ≤ kO c) : ltK (kO c) = c := by
  unfold kO at h ⊢
  split at h
  · omega
  · split at h
    · rename_i e; rw [if_neg (by omega), if_pos e, e]; rfl
    · split at h
      · rename_i e; rw [if_neg (by omega), if_neg (by omega), if_pos e, e]; rfl
      · split at h
        · rename_i e; rw [if_neg (by omega), if_neg (by omega), if_neg (by omega), if_pos e, e]; rfl
        · split at h
          · rename_i e; rw [if_neg (by omega), if_neg (by omega), if_neg (by omega), if_neg (by omega), if_pos e, e]; rfl
          · split at h
            · rename_i e; rw [if_neg (by omega), if_neg (by omega), if_neg (by omega), if_neg (by omega), if_neg (by omega), if_pos e, e]; rfl
            · omega
theorem kO_lt {k : Int} (h : 2 ≤ k ∧ k ≤ 6) : kO (ltK k) = k := by
  have e : k = 2 ∨ k = 3 ∨ k = 4 ∨ k = 5 ∨ k = 6 := by omega
  rcases e with e | e | e | e | e <;> subst e <;> decide
theorem kO_big {c : Int} (h : 97 ≤ c ∨ c < 66) : kO c = 0 := by
  unfold kO
  omega
theorem sqO_ok {f r : Int} (h : sqO f r ≠ -1) : (97 ≤ f ∧ f ≤ 104) ∧ (49 ≤ r ∧ r ≤ 56) ∧ sqO f r = f - 97 + 8 * (r - 49) := by
  unfold sqO at h ⊢
  split at h
  · rename_i c
    rw [if_pos c]
    omega
  · omega
theorem sqO_to {to : Int} (h : 0 ≤ to ∧ to ≤ 63) : sqO (97 + to % 8) (49 + to / 8) = to := by
  unfold sqO
  rw [if_pos (by omega)]
  omega
theorem len_0 {w : List Int} (h : (w.length : Int) = 0) : w = [] := List.length_eq_zero_iff.1 (by omega)
theorem len_c {w : List Int} {n : Int} (h : (w.length : Int) = n + 1) (hn : 0 ≤ n) : ∃ a u, w = a :: u ∧ (u.length : Int) = n := by
  cases w with
  | nil => exact absurd h (by show ((0 : Nat) : Int) ≠ n + 1; omega)
  | cons a u =>
    refine ⟨a, u, rfl, ?_⟩
    have e : ((a :: u).length : Int) = (u.length : Int) + 1 := by rw [List.length_cons]; omega
    omega

theorem len_1 {w : List Int} (h : (w.length : Int) = 1) : ∃ a0, w = [a0] := by
  obtain ⟨a0, u, rfl, hu⟩ := len_c (n := 0) h (by decide)
  rw [len_0 hu]
  exact ⟨a0, rfl⟩
theorem len_2 {w : List Int} (h : (w.length : Int) = 2) : ∃ a0 a1, w = [a0, a1] := by
  obtain ⟨a0, u, rfl, hu⟩ := len_c (n := 1) h (by decide)
  obtain ⟨a1, rfl⟩ := len_1 hu
  exact ⟨a0, a1, rfl⟩
theorem len_3 {w : List Int} (h : (w.length : Int) = 3) : ∃ a0 a1 a2, w = [a0, a1, a2] := by
  obtain ⟨a0, u, rfl, hu⟩ := len_c (n := 2) h (by decide)
  obtain ⟨a1, a2, rfl⟩ := len_2 hu
  exact ⟨a0, a1, a2, rfl⟩
theorem len_4 {w : List Int} (h : (w.length : Int) = 4) : ∃ a0 a1 a2 a3, w = [a0, a1, a2, a3] := by
  obtain ⟨a0, u, rfl, hu⟩ := len_c (n := 3) h (by decide)
  obtain ⟨a1, a2, a3, rfl⟩ := len_3 hu
  exact ⟨a0, a1, a2, a3, rfl⟩
theorem len_5 {w : List Int} (h : (w.length : Int) = 5) : ∃ a0 a1 a2 a3 a4, w = [a0, a1, a2, a3, a4] := by
  obtain ⟨a0, u, rfl, hu⟩ := len_c (n := 4) h (by decide)
  obtain ⟨a1, a2, a3, a4, rfl⟩ := len_4 hu
  exact ⟨a0, a1, a2, a3, a4, rfl⟩
theorem len_6 {w : List Int} (h : (w.length : Int) = 6) : ∃ a0 a1 a2 a3 a4 a5, w = [a0, a1, a2, a3, a4, a5] := by
  obtain ⟨a0, u, rfl, hu⟩ := len_c (n := 5) h (by decide)
  obtain ⟨a1, a2, a3, a4, a5, rfl⟩ := len_5 hu
  exact ⟨a0, a1, a2, a3, a4, a5, rfl⟩
theorem of_00000 {a0 a1 : Int} (hK : kO a0 < 2) (ha : 97 ≤ a0 ∧ a0 ≤ 104) (hb : 49 ≤ a1 ∧ a1 ≤ 56) : PRSok [a0, a1] ∧ prK [a0, a1] = 1 ∧ prF [a0, a1] = -1 ∧ prR [a0, a1] = -1 ∧ prX [a0, a1] = 0 ∧ prT [a0, a1] = a0 - 97 + 8 * (a1 - 49) ∧ prB [a0, a1] = 0 := by
  have w0 : wA [a0, a1] 0 = a0 := rfl
  have w1 : wA [a0, a1] 1 = a1 := rfl
  have ln : (([a0, a1] : List Int).length : Int) = 2 := rfl
  have eK : prK [a0, a1] = 1 := by unfold prK; rw [w0, if_neg (by omega)]
  have eS : prS [a0, a1] = 0 := by unfold prS; rw [w0, if_neg (by omega)]
  have m2 : wA [a0, a1] ((([a0, a1] : List Int).length : Int) - 2) = a0 := rfl
  have m1 : wA [a0, a1] ((([a0, a1] : List Int).length : Int) - 1) = a1 := rfl
  have nE : ¬ (prK [a0, a1] = 1 ∧ wA [a0, a1] ((([a0, a1] : List Int).length : Int) - 2) = 61) := by rw [m2, eK]; omega
  have eB : prB [a0, a1] = 0 := if_neg nE
  have eN : prN [a0, a1] = 2 := if_neg nE
  have eT : prT [a0, a1] = a0 - 97 + 8 * (a1 - 49) := by
    unfold prT
    rw [eN, show wA [a0, a1] (2 - 2) = a0 from rfl, show wA [a0, a1] (2 - 1) = a1 from rfl]
    unfold sqO
    rw [if_pos (by omega)]
  have eX : prX [a0, a1] = 0 := by
    unfold prX
    rw [eN, eS, if_neg (fun h => absurd h.1 (by decide))]
  have eZ : prZ [a0, a1] = 0 := by unfold prZ; rw [eN, eX]; rfl
  have eF : prF [a0, a1] = -1 := by
    unfold prF paF
    rw [eS, eZ]
    rw [if_neg (fun h => absurd h.1 (by decide))]
  have eI : prI [a0, a1] = 0 := by
    unfold prI paI
    rw [eS, eZ]
    rw [if_neg (fun h => absurd h.1 (by decide))]
  have eR2 : prR [a0, a1] = -1 := by
    unfold prR paR
    rw [eI, eZ, eK]
    rw [if_neg (fun h => absurd h.1 (by decide))]
  have eJ2 : prJ [a0, a1] = 0 := by
    unfold prJ paJ
    rw [eI, eZ, eK]
    rw [if_neg (fun h => absurd h.1 (by decide))]
  refine ⟨⟨fun h => absurd h nE, by rw [eT]; omega, by rw [eJ2, eZ]⟩, eK, eF, eR2, eX, eT, eB⟩
theorem of_00001 {a0 a1 a2 a3 : Int} (hK : kO a0 < 2) (ha : 97 ≤ a0 ∧ a0 ≤ 104) (hb : 49 ≤ a1 ∧ a1 ≤ 56) (hE : a2 = 61) (hQ : 2 ≤ kO a3 ∧ kO a3 ≤ 5) : PRSok [a0, a1, a2, a3] ∧ prK [a0, a1, a2, a3] = 1 ∧ prF [a0, a1, a2, a3] = -1 ∧ prR [a0, a1, a2, a3] = -1 ∧ prX [a0, a1, a2, a3] = 0 ∧ prT [a0, a1, a2, a3] = a0 - 97 + 8 * (a1 - 49) ∧ prB [a0, a1, a2, a3] = kO a3 := by
  have w0 : wA [a0, a1, a2, a3] 0 = a0 := rfl
  have w1 : wA [a0, a1, a2, a3] 1 = a1 := rfl
  have w2 : wA [a0, a1, a2, a3] 2 = a2 := rfl
  have w3 : wA [a0, a1, a2, a3] 3 = a3 := rfl
  have ln : (([a0, a1, a2, a3] : List Int).length : Int) = 4 := rfl
  have eK : prK [a0, a1, a2, a3] = 1 := by unfold prK; rw [w0, if_neg (by omega)]
  have eS : prS [a0, a1, a2, a3] = 0 := by unfold prS; rw [w0, if_neg (by omega)]
  have m2 : wA [a0, a1, a2, a3] ((([a0, a1, a2, a3] : List Int).length : Int) - 2) = a2 := rfl
  have m1 : wA [a0, a1, a2, a3] ((([a0, a1, a2, a3] : List Int).length : Int) - 1) = a3 := rfl
  have eB : prB [a0, a1, a2, a3] = kO a3 := by unfold prB; rw [m2, m1, if_pos ⟨eK, hE⟩]
  have eN : prN [a0, a1, a2, a3] = 2 := by unfold prN; rw [m2, if_pos ⟨eK, hE⟩]; rfl
  have eT : prT [a0, a1, a2, a3] = a0 - 97 + 8 * (a1 - 49) := by
    unfold prT
    rw [eN, show wA [a0, a1, a2, a3] (2 - 2) = a0 from rfl, show wA [a0, a1, a2, a3] (2 - 1) = a1 from rfl]
    unfold sqO
    rw [if_pos (by omega)]
  have eX : prX [a0, a1, a2, a3] = 0 := by
    unfold prX
    rw [eN, eS, if_neg (fun h => absurd h.1 (by decide))]
  have eZ : prZ [a0, a1, a2, a3] = 0 := by unfold prZ; rw [eN, eX]; rfl
  have eF : prF [a0, a1, a2, a3] = -1 := by
    unfold prF paF
    rw [eS, eZ]
    rw [if_neg (fun h => absurd h.1 (by decide))]
  have eI : prI [a0, a1, a2, a3] = 0 := by
    unfold prI paI
    rw [eS, eZ]
    rw [if_neg (fun h => absurd h.1 (by decide))]
  have eR2 : prR [a0, a1, a2, a3] = -1 := by
    unfold prR paR
    rw [eI, eZ, eK]
    rw [if_neg (fun h => absurd h.1 (by decide))]
  have eJ2 : prJ [a0, a1, a2, a3] = 0 := by
    unfold prJ paJ
    rw [eI, eZ, eK]
    rw [if_neg (fun h => absurd h.1 (by decide))]
  refine ⟨⟨fun _ => by rw [eB]; omega, by rw [eT]; omega, by rw [eJ2, eZ]⟩, eK, eF, eR2, eX, eT, eB⟩
theorem of_00010 {a0 a1 a2 : Int} (hK : kO a0 < 2) (hX : a0 = 120) (ha : 97 ≤ a1 ∧ a1 ≤ 104) (hb : 49 ≤ a2 ∧ a2 ≤ 56) : PRSok [a0, a1, a2] ∧ prK [a0, a1, a2] = 1 ∧ prF [a0, a1, a2] = -1 ∧ prR [a0, a1, a2] = -1 ∧ prX [a0, a1, a2] = 1 ∧ prT [a0, a1, a2] = a1 - 97 + 8 * (a2 - 49) ∧ prB [a0, a1, a2] = 0 := by
  have w0 : wA [a0, a1, a2] 0 = a0 := rfl
  have w1 : wA [a0, a1, a2] 1 = a1 := rfl
  have w2 : wA [a0, a1, a2] 2 = a2 := rfl
  have ln : (([a0, a1, a2] : List Int).length : Int) = 3 := rfl
  have eK : prK [a0, a1, a2] = 1 := by unfold prK; rw [w0, if_neg (by omega)]
  have eS : prS [a0, a1, a2] = 0 := by unfold prS; rw [w0, if_neg (by omega)]
  have m2 : wA [a0, a1, a2] ((([a0, a1, a2] : List Int).length : Int) - 2) = a1 := rfl
  have m1 : wA [a0, a1, a2] ((([a0, a1, a2] : List Int).length : Int) - 1) = a2 := rfl
  have nE : ¬ (prK [a0, a1, a2] = 1 ∧ wA [a0, a1, a2] ((([a0, a1, a2] : List Int).length : Int) - 2) = 61) := by rw [m2, eK]; omega
  have eB : prB [a0, a1, a2] = 0 := if_neg nE
  have eN : prN [a0, a1, a2] = 3 := if_neg nE
  have eT : prT [a0, a1, a2] = a1 - 97 + 8 * (a2 - 49) := by
    unfold prT
    rw [eN, show wA [a0, a1, a2] (3 - 2) = a1 from rfl, show wA [a0, a1, a2] (3 - 1) = a2 from rfl]
    unfold sqO
    rw [if_pos (by omega)]
  have eX : prX [a0, a1, a2] = 1 := by
    unfold prX
    rw [eN, eS, show wA [a0, a1, a2] (3 - 2 - 1) = a0 from rfl, if_pos ⟨by decide, hX⟩]
  have eZ : prZ [a0, a1, a2] = 0 := by unfold prZ; rw [eN, eX]; rfl
  have eF : prF [a0, a1, a2] = -1 := by
    unfold prF paF
    rw [eS, eZ]
    rw [if_neg (fun h => absurd h.1 (by decide))]
  have eI : prI [a0, a1, a2] = 0 := by
    unfold prI paI
    rw [eS, eZ]
    rw [if_neg (fun h => absurd h.1 (by decide))]
  have eR2 : prR [a0, a1, a2] = -1 := by
    unfold prR paR
    rw [eI, eZ, eK]
    rw [if_neg (fun h => absurd h.1 (by decide))]
  have eJ2 : prJ [a0, a1, a2] = 0 := by
    unfold prJ paJ
    rw [eI, eZ, eK]
    rw [if_neg (fun h => absurd h.1 (by decide))]
  refine ⟨⟨fun h => absurd h nE, by rw [eT]; omega, by rw [eJ2, eZ]⟩, eK, eF, eR2, eX, eT, eB⟩
theorem of_00011 {a0 a1 a2 a3 a4 : Int} (hK : kO a0 < 2) (hX : a0 = 120) (ha : 97 ≤ a1 ∧ a1 ≤ 104) (hb : 49 ≤ a2 ∧ a2 ≤ 56) (hE : a3 = 61) (hQ : 2 ≤ kO a4 ∧ kO a4 ≤ 5) : PRSok [a0, a1, a2, a3, a4] ∧ prK [a0, a1, a2, a3, a4] = 1 ∧ prF [a0, a1, a2, a3, a4] = -1 ∧ prR [a0, a1, a2, a3, a4] = -1 ∧ prX [a0, a1, a2, a3, a4] = 1 ∧ prT [a0, a1, a2, a3, a4] = a1 - 97 + 8 * (a2 - 49) ∧ prB [a0, a1, a2, a3, a4] = kO a4 := by
  have w0 : wA [a0, a1, a2, a3, a4] 0 = a0 := rfl
  have w1 : wA [a0, a1, a2, a3, a4] 1 = a1 := rfl
  have w2 : wA [a0, a1, a2, a3, a4] 2 = a2 := rfl
  have w3 : wA [a0, a1, a2, a3, a4] 3 = a3 := rfl
  have w4 : wA [a0, a1, a2, a3, a4] 4 = a4 := rfl
  have ln : (([a0, a1, a2, a3, a4] : List Int).length : Int) = 5 := rfl
  have eK : prK [a0, a1, a2, a3, a4] = 1 := by unfold prK; rw [w0, if_neg (by omega)]
  have eS : prS [a0, a1, a2, a3, a4] = 0 := by unfold prS; rw [w0, if_neg (by omega)]
  have m2 : wA [a0, a1, a2, a3, a4] ((([a0, a1, a2, a3, a4] : List Int).length : Int) - 2) = a3 := rfl
  have m1 : wA [a0, a1, a2, a3, a4] ((([a0, a1, a2, a3, a4] : List Int).length : Int) - 1) = a4 := rfl
  have eB : prB [a0, a1, a2, a3, a4] = kO a4 := by unfold prB; rw [m2, m1, if_pos ⟨eK, hE⟩]
  have eN : prN [a0, a1, a2, a3, a4] = 3 := by unfold prN; rw [m2, if_pos ⟨eK, hE⟩]; rfl
  have eT : prT [a0, a1, a2, a3, a4] = a1 - 97 + 8 * (a2 - 49) := by
    unfold prT
    rw [eN, show wA [a0, a1, a2, a3, a4] (3 - 2) = a1 from rfl, show wA [a0, a1, a2, a3, a4] (3 - 1) = a2 from rfl]
    unfold sqO
    rw [if_pos (by omega)]
  have eX : prX [a0, a1, a2, a3, a4] = 1 := by
    unfold prX
    rw [eN, eS, show wA [a0, a1, a2, a3, a4] (3 - 2 - 1) = a0 from rfl, if_pos ⟨by decide, hX⟩]
  have eZ : prZ [a0, a1, a2, a3, a4] = 0 := by unfold prZ; rw [eN, eX]; rfl
  have eF : prF [a0, a1, a2, a3, a4] = -1 := by
    unfold prF paF
    rw [eS, eZ]
    rw [if_neg (fun h => absurd h.1 (by decide))]
  have eI : prI [a0, a1, a2, a3, a4] = 0 := by
    unfold prI paI
    rw [eS, eZ]
    rw [if_neg (fun h => absurd h.1 (by decide))]
  have eR2 : prR [a0, a1, a2, a3, a4] = -1 := by
    unfold prR paR
    rw [eI, eZ, eK]
    rw [if_neg (fun h => absurd h.1 (by decide))]
  have eJ2 : prJ [a0, a1, a2, a3, a4] = 0 := by
    unfold prJ paJ
    rw [eI, eZ, eK]
    rw [if_neg (fun h => absurd h.1 (by decide))]
  refine ⟨⟨fun _ => by rw [eB]; omega, by rw [eT]; omega, by rw [eJ2, eZ]⟩, eK, eF, eR2, eX, eT, eB⟩
theorem of_01000 {a0 a1 a2 : Int} (hK : kO a0 < 2) (hF : 97 ≤ a0 ∧ a0 ≤ 104) (ha : 97 ≤ a1 ∧ a1 ≤ 104) (hb : 49 ≤ a2 ∧ a2 ≤ 56) : PRSok [a0, a1, a2] ∧ prK [a0, a1, a2] = 1 ∧ prF [a0, a1, a2] = a0 - 97 ∧ prR [a0, a1, a2] = -1 ∧ prX [a0, a1, a2] = 0 ∧ prT [a0, a1, a2] = a1 - 97 + 8 * (a2 - 49) ∧ prB [a0, a1, a2] = 0 := by
  have w0 : wA [a0, a1, a2] 0 = a0 := rfl
  have w1 : wA [a0, a1, a2] 1 = a1 := rfl
  have w2 : wA [a0, a1, a2] 2 = a2 := rfl
  have ln : (([a0, a1, a2] : List Int).length : Int) = 3 := rfl
  have eK : prK [a0, a1, a2] = 1 := by unfold prK; rw [w0, if_neg (by omega)]
  have eS : prS [a0, a1, a2] = 0 := by unfold prS; rw [w0, if_neg (by omega)]
  have m2 : wA [a0, a1, a2] ((([a0, a1, a2] : List Int).length : Int) - 2) = a1 := rfl
  have m1 : wA [a0, a1, a2] ((([a0, a1, a2] : List Int).length : Int) - 1) = a2 := rfl
  have nE : ¬ (prK [a0, a1, a2] = 1 ∧ wA [a0, a1, a2] ((([a0, a1, a2] : List Int).length : Int) - 2) = 61) := by rw [m2, eK]; omega
  have eB : prB [a0, a1, a2] = 0 := if_neg nE
  have eN : prN [a0, a1, a2] = 3 := if_neg nE
  have eT : prT [a0, a1, a2] = a1 - 97 + 8 * (a2 - 49) := by
    unfold prT
    rw [eN, show wA [a0, a1, a2] (3 - 2) = a1 from rfl, show wA [a0, a1, a2] (3 - 1) = a2 from rfl]
    unfold sqO
    rw [if_pos (by omega)]
  have eX : prX [a0, a1, a2] = 0 := by
    unfold prX
    rw [eN, eS, show wA [a0, a1, a2] (3 - 2 - 1) = a0 from rfl, if_neg (fun h => by have := h.2; omega)]
  have eZ : prZ [a0, a1, a2] = 1 := by unfold prZ; rw [eN, eX]; rfl
  have eF : prF [a0, a1, a2] = a0 - 97 := by
    unfold prF paF
    rw [eS, eZ]
    rw [show wA [a0, a1, a2] 0 = a0 from rfl, if_pos ⟨by decide, hF⟩]
  have eI : prI [a0, a1, a2] = 1 := by
    unfold prI paI
    rw [eS, eZ]
    rw [show wA [a0, a1, a2] 0 = a0 from rfl, if_pos ⟨by decide, hF⟩]; rfl
  have eR2 : prR [a0, a1, a2] = -1 := by
    unfold prR paR
    rw [eI, eZ, eK]
    rw [if_neg (fun h => absurd h.1 (by decide))]
  have eJ2 : prJ [a0, a1, a2] = 1 := by
    unfold prJ paJ
    rw [eI, eZ, eK]
    rw [if_neg (fun h => absurd h.1 (by decide))]
  refine ⟨⟨fun h => absurd h nE, by rw [eT]; omega, by rw [eJ2, eZ]⟩, eK, eF, eR2, eX, eT, eB⟩
theorem of_01001 {a0 a1 a2 a3 a4 : Int} (hK : kO a0 < 2) (hF : 97 ≤ a0 ∧ a0 ≤ 104) (ha : 97 ≤ a1 ∧ a1 ≤ 104) (hb : 49 ≤ a2 ∧ a2 ≤ 56) (hE : a3 = 61) (hQ : 2 ≤ kO a4 ∧ kO a4 ≤ 5) : PRSok [a0, a1, a2, a3, a4] ∧ prK [a0, a1, a2, a3, a4] = 1 ∧ prF [a0, a1, a2, a3, a4] = a0 - 97 ∧ prR [a0, a1, a2, a3, a4] = -1 ∧ prX [a0, a1, a2, a3, a4] = 0 ∧ prT [a0, a1, a2, a3, a4] = a1 - 97 + 8 * (a2 - 49) ∧ prB [a0, a1, a2, a3, a4] = kO a4 := by
  have w0 : wA [a0, a1, a2, a3, a4] 0 = a0 := rfl
  have w1 : wA [a0, a1, a2, a3, a4] 1 = a1 := rfl
  have w2 : wA [a0, a1, a2, a3, a4] 2 = a2 := rfl
  have w3 : wA [a0, a1, a2, a3, a4] 3 = a3 := rfl
  have w4 : wA [a0, a1, a2, a3, a4] 4 = a4 := rfl
  have ln : (([a0, a1, a2, a3, a4] : List Int).length : Int) = 5 := rfl
  have eK : prK [a0, a1, a2, a3, a4] = 1 := by unfold prK; rw [w0, if_neg (by omega)]
  have eS : prS [a0, a1, a2, a3, a4] = 0 := by unfold prS; rw [w0, if_neg (by omega)]
  have m2 : wA [a0, a1, a2, a3, a4] ((([a0, a1, a2, a3, a4] : List Int).length : Int) - 2) = a3 := rfl
  have m1 : wA [a0, a1, a2, a3, a4] ((([a0, a1, a2, a3, a4] : List Int).length : Int) - 1) = a4 := rfl
  have eB : prB [a0, a1, a2, a3, a4] = kO a4 := by unfold prB; rw [m2, m1, if_pos ⟨eK, hE⟩]
  have eN : prN [a0, a1, a2, a3, a4] = 3 := by unfold prN; rw [m2, if_pos ⟨eK, hE⟩]; rfl
  have eT : prT [a0, a1, a2, a3, a4] = a1 - 97 + 8 * (a2 - 49) := by
    unfold prT
    rw [eN, show wA [a0, a1, a2, a3, a4] (3 - 2) = a1 from rfl, show wA [a0, a1, a2, a3, a4] (3 - 1) = a2 from rfl]
    unfold sqO
    rw [if_pos (by omega)]
  have eX : prX [a0, a1, a2, a3, a4] = 0 := by
    unfold prX
    rw [eN, eS, show wA [a0, a1, a2, a3, a4] (3 - 2 - 1) = a0 from rfl, if_neg (fun h => by have := h.2; omega)]
  have eZ : prZ [a0, a1, a2, a3, a4] = 1 := by unfold prZ; rw [eN, eX]; rfl
  have eF : prF [a0, a1, a2, a3, a4] = a0 - 97 := by
    unfold prF paF
    rw [eS, eZ]
    rw [show wA [a0, a1, a2, a3, a4] 0 = a0 from rfl, if_pos ⟨by decide, hF⟩]
  have eI : prI [a0, a1, a2, a3, a4] = 1 := by
    unfold prI paI
    rw [eS, eZ]
    rw [show wA [a0, a1, a2, a3, a4] 0 = a0 from rfl, if_pos ⟨by decide, hF⟩]; rfl
  have eR2 : prR [a0, a1, a2, a3, a4] = -1 := by
    unfold prR paR
    rw [eI, eZ, eK]
    rw [if_neg (fun h => absurd h.1 (by decide))]
  have eJ2 : prJ [a0, a1, a2, a3, a4] = 1 := by
    unfold prJ paJ
    rw [eI, eZ, eK]
    rw [if_neg (fun h => absurd h.1 (by decide))]
  refine ⟨⟨fun _ => by rw [eB]; omega, by rw [eT]; omega, by rw [eJ2, eZ]⟩, eK, eF, eR2, eX, eT, eB⟩
theorem of_01010 {a0 a1 a2 a3 : Int} (hK : kO a0 < 2) (hF : 97 ≤ a0 ∧ a0 ≤ 104) (hX : a1 = 120) (ha : 97 ≤ a2 ∧ a2 ≤ 104) (hb : 49 ≤ a3 ∧ a3 ≤ 56) : PRSok [a0, a1, a2, a3] ∧ prK [a0, a1, a2, a3] = 1 ∧ prF [a0, a1, a2, a3] = a0 - 97 ∧ prR [a0, a1, a2, a3] = -1 ∧ prX [a0, a1, a2, a3] = 1 ∧ prT [a0, a1, a2, a3] = a2 - 97 + 8 * (a3 - 49) ∧ prB [a0, a1, a2, a3] = 0 := by
  have w0 : wA [a0, a1, a2, a3] 0 = a0 := rfl
  have w1 : wA [a0, a1, a2, a3] 1 = a1 := rfl
  have w2 : wA [a0, a1, a2, a3] 2 = a2 := rfl
  have w3 : wA [a0, a1, a2, a3] 3 = a3 := rfl
  have ln : (([a0, a1, a2, a3] : List Int).length : Int) = 4 := rfl
  have eK : prK [a0, a1, a2, a3] = 1 := by unfold prK; rw [w0, if_neg (by omega)]
  have eS : prS [a0, a1, a2, a3] = 0 := by unfold prS; rw [w0, if_neg (by omega)]
  have m2 : wA [a0, a1, a2, a3] ((([a0, a1, a2, a3] : List Int).length : Int) - 2) = a2 := rfl
  have m1 : wA [a0, a1, a2, a3] ((([a0, a1, a2, a3] : List Int).length : Int) - 1) = a3 := rfl
  have nE : ¬ (prK [a0, a1, a2, a3] = 1 ∧ wA [a0, a1, a2, a3] ((([a0, a1, a2, a3] : List Int).length : Int) - 2) = 61) := by rw [m2, eK]; omega
  have eB : prB [a0, a1, a2, a3] = 0 := if_neg nE
  have eN : prN [a0, a1, a2, a3] = 4 := if_neg nE
  have eT : prT [a0, a1, a2, a3] = a2 - 97 + 8 * (a3 - 49) := by
    unfold prT
    rw [eN, show wA [a0, a1, a2, a3] (4 - 2) = a2 from rfl, show wA [a0, a1, a2, a3] (4 - 1) = a3 from rfl]
    unfold sqO
    rw [if_pos (by omega)]
  have eX : prX [a0, a1, a2, a3] = 1 := by
    unfold prX
    rw [eN, eS, show wA [a0, a1, a2, a3] (4 - 2 - 1) = a1 from rfl, if_pos ⟨by decide, hX⟩]
  have eZ : prZ [a0, a1, a2, a3] = 1 := by unfold prZ; rw [eN, eX]; rfl
  have eF : prF [a0, a1, a2, a3] = a0 - 97 := by
    unfold prF paF
    rw [eS, eZ]
    rw [show wA [a0, a1, a2, a3] 0 = a0 from rfl, if_pos ⟨by decide, hF⟩]
  have eI : prI [a0, a1, a2, a3] = 1 := by
    unfold prI paI
    rw [eS, eZ]
    rw [show wA [a0, a1, a2, a3] 0 = a0 from rfl, if_pos ⟨by decide, hF⟩]; rfl
  have eR2 : prR [a0, a1, a2, a3] = -1 := by
    unfold prR paR
    rw [eI, eZ, eK]
    rw [if_neg (fun h => absurd h.1 (by decide))]
  have eJ2 : prJ [a0, a1, a2, a3] = 1 := by
    unfold prJ paJ
    rw [eI, eZ, eK]
    rw [if_neg (fun h => absurd h.1 (by decide))]
  refine ⟨⟨fun h => absurd h nE, by rw [eT]; omega, by rw [eJ2, eZ]⟩, eK, eF, eR2, eX, eT, eB⟩
theorem of_01011 {a0 a1 a2 a3 a4 a5 : Int} (hK : kO a0 < 2) (hF : 97 ≤ a0 ∧ a0 ≤ 104) (hX : a1 = 120) (ha : 97 ≤ a2 ∧ a2 ≤ 104) (hb : 49 ≤ a3 ∧ a3 ≤ 56) (hE : a4 = 61) (hQ : 2 ≤ kO a5 ∧ kO a5 ≤ 5) : PRSok [a0, a1, a2, a3, a4, a5] ∧ prK [a0, a1, a2, a3, a4, a5] = 1 ∧ prF [a0, a1, a2, a3, a4, a5] = a0 - 97 ∧ prR [a0, a1, a2, a3, a4, a5] = -1 ∧ prX [a0, a1, a2, a3, a4, a5] = 1 ∧ prT [a0, a1, a2, a3, a4, a5] = a2 - 97 + 8 * (a3 - 49) ∧ prB [a0, a1, a2, a3, a4, a5] = kO a5 := by
  have w0 : wA [a0, a1, a2, a3, a4, a5] 0 = a0 := rfl
  have w1 : wA [a0, a1, a2, a3, a4, a5] 1 = a1 := rfl
  have w2 : wA [a0, a1, a2, a3, a4, a5] 2 = a2 := rfl
  have w3 : wA [a0, a1, a2, a3, a4, a5] 3 = a3 := rfl
  have w4 : wA [a0, a1, a2, a3, a4, a5] 4 = a4 := rfl
  have w5 : wA [a0, a1, a2, a3, a4, a5] 5 = a5 := rfl
  have ln : (([a0, a1, a2, a3, a4, a5] : List Int).length : Int) = 6 := rfl
  have eK : prK [a0, a1, a2, a3, a4, a5] = 1 := by unfold prK; rw [w0, if_neg (by omega)]
  have eS : prS [a0, a1, a2, a3, a4, a5] = 0 := by unfold prS; rw [w0, if_neg (by omega)]
  have m2 : wA [a0, a1, a2, a3, a4, a5] ((([a0, a1, a2, a3, a4, a5] : List Int).length : Int) - 2) = a4 := rfl
  have m1 : wA [a0, a1, a2, a3, a4, a5] ((([a0, a1, a2, a3, a4, a5] : List Int).length : Int) - 1) = a5 := rfl
  have eB : prB [a0, a1, a2, a3, a4, a5] = kO a5 := by unfold prB; rw [m2, m1, if_pos ⟨eK, hE⟩]
  have eN : prN [a0, a1, a2, a3, a4, a5] = 4 := by unfold prN; rw [m2, if_pos ⟨eK, hE⟩]; rfl
  have eT : prT [a0, a1, a2, a3, a4, a5] = a2 - 97 + 8 * (a3 - 49) := by
    unfold prT
    rw [eN, show wA [a0, a1, a2, a3, a4, a5] (4 - 2) = a2 from rfl, show wA [a0, a1, a2, a3, a4, a5] (4 - 1) = a3 from rfl]
    unfold sqO
    rw [if_pos (by omega)]
  have eX : prX [a0, a1, a2, a3, a4, a5] = 1 := by
    unfold prX
    rw [eN, eS, show wA [a0, a1, a2, a3, a4, a5] (4 - 2 - 1) = a1 from rfl, if_pos ⟨by decide, hX⟩]
  have eZ : prZ [a0, a1, a2, a3, a4, a5] = 1 := by unfold prZ; rw [eN, eX]; rfl
  have eF : prF [a0, a1, a2, a3, a4, a5] = a0 - 97 := by
    unfold prF paF
    rw [eS, eZ]
    rw [show wA [a0, a1, a2, a3, a4, a5] 0 = a0 from rfl, if_pos ⟨by decide, hF⟩]
  have eI : prI [a0, a1, a2, a3, a4, a5] = 1 := by
    unfold prI paI
    rw [eS, eZ]
    rw [show wA [a0, a1, a2, a3, a4, a5] 0 = a0 from rfl, if_pos ⟨by decide, hF⟩]; rfl
  have eR2 : prR [a0, a1, a2, a3, a4, a5] = -1 := by
    unfold prR paR
    rw [eI, eZ, eK]
    rw [if_neg (fun h => absurd h.1 (by decide))]
  have eJ2 : prJ [a0, a1, a2, a3, a4, a5] = 1 := by
    unfold prJ paJ
    rw [eI, eZ, eK]
    rw [if_neg (fun h => absurd h.1 (by decide))]
  refine ⟨⟨fun _ => by rw [eB]; omega, by rw [eT]; omega, by rw [eJ2, eZ]⟩, eK, eF, eR2, eX, eT, eB⟩
theorem of_10000 {a0 a1 a2 : Int} (hK : 2 ≤ kO a0) (ha : 97 ≤ a1 ∧ a1 ≤ 104) (hb : 49 ≤ a2 ∧ a2 ≤ 56) : PRSok [a0, a1, a2] ∧ prK [a0, a1, a2] = kO a0 ∧ prF [a0, a1, a2] = -1 ∧ prR [a0, a1, a2] = -1 ∧ prX [a0, a1, a2] = 0 ∧ prT [a0, a1, a2] = a1 - 97 + 8 * (a2 - 49) ∧ prB [a0, a1, a2] = 0 := by
  have w0 : wA [a0, a1, a2] 0 = a0 := rfl
  have w1 : wA [a0, a1, a2] 1 = a1 := rfl
  have w2 : wA [a0, a1, a2] 2 = a2 := rfl
  have ln : (([a0, a1, a2] : List Int).length : Int) = 3 := rfl
  have eK : prK [a0, a1, a2] = kO a0 := by unfold prK; rw [w0, if_pos hK]
  have eS : prS [a0, a1, a2] = 1 := by unfold prS; rw [w0, if_pos hK]
  have m2 : wA [a0, a1, a2] ((([a0, a1, a2] : List Int).length : Int) - 2) = a1 := rfl
  have m1 : wA [a0, a1, a2] ((([a0, a1, a2] : List Int).length : Int) - 1) = a2 := rfl
  have nE : ¬ (prK [a0, a1, a2] = 1 ∧ wA [a0, a1, a2] ((([a0, a1, a2] : List Int).length : Int) - 2) = 61) := by rw [m2, eK]; omega
  have eB : prB [a0, a1, a2] = 0 := if_neg nE
  have eN : prN [a0, a1, a2] = 3 := if_neg nE
  have eT : prT [a0, a1, a2] = a1 - 97 + 8 * (a2 - 49) := by
    unfold prT
    rw [eN, show wA [a0, a1, a2] (3 - 2) = a1 from rfl, show wA [a0, a1, a2] (3 - 1) = a2 from rfl]
    unfold sqO
    rw [if_pos (by omega)]
  have eX : prX [a0, a1, a2] = 0 := by
    unfold prX
    rw [eN, eS, if_neg (fun h => absurd h.1 (by decide))]
  have eZ : prZ [a0, a1, a2] = 1 := by unfold prZ; rw [eN, eX]; rfl
  have eF : prF [a0, a1, a2] = -1 := by
    unfold prF paF
    rw [eS, eZ]
    rw [if_neg (fun h => absurd h.1 (by decide))]
  have eI : prI [a0, a1, a2] = 1 := by
    unfold prI paI
    rw [eS, eZ]
    rw [if_neg (fun h => absurd h.1 (by decide))]
  have eR2 : prR [a0, a1, a2] = -1 := by
    unfold prR paR
    rw [eI, eZ, eK]
    rw [if_neg (fun h => absurd h.1 (by decide))]
  have eJ2 : prJ [a0, a1, a2] = 1 := by
    unfold prJ paJ
    rw [eI, eZ, eK]
    rw [if_neg (fun h => absurd h.1 (by decide))]
  refine ⟨⟨fun h => absurd h nE, by rw [eT]; omega, by rw [eJ2, eZ]⟩, eK, eF, eR2, eX, eT, eB⟩
theorem of_10010 {a0 a1 a2 a3 : Int} (hK : 2 ≤ kO a0) (hX : a1 = 120) (ha : 97 ≤ a2 ∧ a2 ≤ 104) (hb : 49 ≤ a3 ∧ a3 ≤ 56) : PRSok [a0, a1, a2, a3] ∧ prK [a0, a1, a2, a3] = kO a0 ∧ prF [a0, a1, a2, a3] = -1 ∧ prR [a0, a1, a2, a3] = -1 ∧ prX [a0, a1, a2, a3] = 1 ∧ prT [a0, a1, a2, a3] = a2 - 97 + 8 * (a3 - 49) ∧ prB [a0, a1, a2, a3] = 0 := by
  have w0 : wA [a0, a1, a2, a3] 0 = a0 := rfl
  have w1 : wA [a0, a1, a2, a3] 1 = a1 := rfl
  have w2 : wA [a0, a1, a2, a3] 2 = a2 := rfl
  have w3 : wA [a0, a1, a2, a3] 3 = a3 := rfl
  have ln : (([a0, a1, a2, a3] : List Int).length : Int) = 4 := rfl
  have eK : prK [a0, a1, a2, a3] = kO a0 := by unfold prK; rw [w0, if_pos hK]
  have eS : prS [a0, a1, a2, a3] = 1 := by unfold prS; rw [w0, if_pos hK]
  have m2 : wA [a0, a1, a2, a3] ((([a0, a1, a2, a3] : List Int).length : Int) - 2) = a2 := rfl
  have m1 : wA [a0, a1, a2, a3] ((([a0, a1, a2, a3] : List Int).length : Int) - 1) = a3 := rfl
  have nE : ¬ (prK [a0, a1, a2, a3] = 1 ∧ wA [a0, a1, a2, a3] ((([a0, a1, a2, a3] : List Int).length : Int) - 2) = 61) := by rw [m2, eK]; omega
  have eB : prB [a0, a1, a2, a3] = 0 := if_neg nE
  have eN : prN [a0, a1, a2, a3] = 4 := if_neg nE
  have eT : prT [a0, a1, a2, a3] = a2 - 97 + 8 * (a3 - 49) := by
    unfold prT
    rw [eN, show wA [a0, a1, a2, a3] (4 - 2) = a2 from rfl, show wA [a0, a1, a2, a3] (4 - 1) = a3 from rfl]
    unfold sqO
    rw [if_pos (by omega)]
  have eX : prX [a0, a1, a2, a3] = 1 := by
    unfold prX
    rw [eN, eS, show wA [a0, a1, a2, a3] (4 - 2 - 1) = a1 from rfl, if_pos ⟨by decide, hX⟩]
  have eZ : prZ [a0, a1, a2, a3] = 1 := by unfold prZ; rw [eN, eX]; rfl
  have eF : prF [a0, a1, a2, a3] = -1 := by
    unfold prF paF
    rw [eS, eZ]
    rw [if_neg (fun h => absurd h.1 (by decide))]
  have eI : prI [a0, a1, a2, a3] = 1 := by
    unfold prI paI
    rw [eS, eZ]
    rw [if_neg (fun h => absurd h.1 (by decide))]
  have eR2 : prR [a0, a1, a2, a3] = -1 := by
    unfold prR paR
    rw [eI, eZ, eK]
    rw [if_neg (fun h => absurd h.1 (by decide))]
  have eJ2 : prJ [a0, a1, a2, a3] = 1 := by
    unfold prJ paJ
    rw [eI, eZ, eK]
    rw [if_neg (fun h => absurd h.1 (by decide))]
  refine ⟨⟨fun h => absurd h nE, by rw [eT]; omega, by rw [eJ2, eZ]⟩, eK, eF, eR2, eX, eT, eB⟩
theorem of_10100 {a0 a1 a2 a3 : Int} (hK : 2 ≤ kO a0) (hR : 49 ≤ a1 ∧ a1 ≤ 56) (ha : 97 ≤ a2 ∧ a2 ≤ 104) (hb : 49 ≤ a3 ∧ a3 ≤ 56) : PRSok [a0, a1, a2, a3] ∧ prK [a0, a1, a2, a3] = kO a0 ∧ prF [a0, a1, a2, a3] = -1 ∧ prR [a0, a1, a2, a3] = a1 - 49 ∧ prX [a0, a1, a2, a3] = 0 ∧ prT [a0, a1, a2, a3] = a2 - 97 + 8 * (a3 - 49) ∧ prB [a0, a1, a2, a3] = 0 := by
  have w0 : wA [a0, a1, a2, a3] 0 = a0 := rfl
  have w1 : wA [a0, a1, a2, a3] 1 = a1 := rfl
  have w2 : wA [a0, a1, a2, a3] 2 = a2 := rfl
  have w3 : wA [a0, a1, a2, a3] 3 = a3 := rfl
  have ln : (([a0, a1, a2, a3] : List Int).length : Int) = 4 := rfl
  have eK : prK [a0, a1, a2, a3] = kO a0 := by unfold prK; rw [w0, if_pos hK]
  have eS : prS [a0, a1, a2, a3] = 1 := by unfold prS; rw [w0, if_pos hK]
  have m2 : wA [a0, a1, a2, a3] ((([a0, a1, a2, a3] : List Int).length : Int) - 2) = a2 := rfl
  have m1 : wA [a0, a1, a2, a3] ((([a0, a1, a2, a3] : List Int).length : Int) - 1) = a3 := rfl
  have nE : ¬ (prK [a0, a1, a2, a3] = 1 ∧ wA [a0, a1, a2, a3] ((([a0, a1, a2, a3] : List Int).length : Int) - 2) = 61) := by rw [m2, eK]; omega
  have eB : prB [a0, a1, a2, a3] = 0 := if_neg nE
  have eN : prN [a0, a1, a2, a3] = 4 := if_neg nE
  have eT : prT [a0, a1, a2, a3] = a2 - 97 + 8 * (a3 - 49) := by
    unfold prT
    rw [eN, show wA [a0, a1, a2, a3] (4 - 2) = a2 from rfl, show wA [a0, a1, a2, a3] (4 - 1) = a3 from rfl]
    unfold sqO
    rw [if_pos (by omega)]
  have eX : prX [a0, a1, a2, a3] = 0 := by
    unfold prX
    rw [eN, eS, show wA [a0, a1, a2, a3] (4 - 2 - 1) = a1 from rfl, if_neg (fun h => by have := h.2; omega)]
  have eZ : prZ [a0, a1, a2, a3] = 2 := by unfold prZ; rw [eN, eX]; rfl
  have eF : prF [a0, a1, a2, a3] = -1 := by
    unfold prF paF
    rw [eS, eZ]
    rw [show wA [a0, a1, a2, a3] 1 = a1 from rfl, if_neg (fun h => by have := h.2; omega)]
  have eI : prI [a0, a1, a2, a3] = 1 := by
    unfold prI paI
    rw [eS, eZ]
    rw [show wA [a0, a1, a2, a3] 1 = a1 from rfl, if_neg (fun h => by have := h.2; omega)]
  have eR2 : prR [a0, a1, a2, a3] = a1 - 49 := by
    unfold prR paR
    rw [eI, eZ, eK]
    rw [show wA [a0, a1, a2, a3] 1 = a1 from rfl, if_pos ⟨by decide, by omega, hR⟩]
  have eJ2 : prJ [a0, a1, a2, a3] = 2 := by
    unfold prJ paJ
    rw [eI, eZ, eK]
    rw [show wA [a0, a1, a2, a3] 1 = a1 from rfl, if_pos ⟨by decide, by omega, hR⟩]; rfl
  refine ⟨⟨fun h => absurd h nE, by rw [eT]; omega, by rw [eJ2, eZ]⟩, eK, eF, eR2, eX, eT, eB⟩
theorem of_10110 {a0 a1 a2 a3 a4 : Int} (hK : 2 ≤ kO a0) (hR : 49 ≤ a1 ∧ a1 ≤ 56) (hX : a2 = 120) (ha : 97 ≤ a3 ∧ a3 ≤ 104) (hb : 49 ≤ a4 ∧ a4 ≤ 56) : PRSok [a0, a1, a2, a3, a4] ∧ prK [a0, a1, a2, a3, a4] = kO a0 ∧ prF [a0, a1, a2, a3, a4] = -1 ∧ prR [a0, a1, a2, a3, a4] = a1 - 49 ∧ prX [a0, a1, a2, a3, a4] = 1 ∧ prT [a0, a1, a2, a3, a4] = a3 - 97 + 8 * (a4 - 49) ∧ prB [a0, a1, a2, a3, a4] = 0 := by
  have w0 : wA [a0, a1, a2, a3, a4] 0 = a0 := rfl
  have w1 : wA [a0, a1, a2, a3, a4] 1 = a1 := rfl
  have w2 : wA [a0, a1, a2, a3, a4] 2 = a2 := rfl
  have w3 : wA [a0, a1, a2, a3, a4] 3 = a3 := rfl
  have w4 : wA [a0, a1, a2, a3, a4] 4 = a4 := rfl
  have ln : (([a0, a1, a2, a3, a4] : List Int).length : Int) = 5 := rfl
  have eK : prK [a0, a1, a2, a3, a4] = kO a0 := by unfold prK; rw [w0, if_pos hK]
  have eS : prS [a0, a1, a2, a3, a4] = 1 := by unfold prS; rw [w0, if_pos hK]
  have m2 : wA [a0, a1, a2, a3, a4] ((([a0, a1, a2, a3, a4] : List Int).length : Int) - 2) = a3 := rfl
  have m1 : wA [a0, a1, a2, a3, a4] ((([a0, a1, a2, a3, a4] : List Int).length : Int) - 1) = a4 := rfl
  have nE : ¬ (prK [a0, a1, a2, a3, a4] = 1 ∧ wA [a0, a1, a2, a3, a4] ((([a0, a1, a2, a3, a4] : List Int).length : Int) - 2) = 61) := by rw [m2, eK]; omega
  have eB : prB [a0, a1, a2, a3, a4] = 0 := if_neg nE
  have eN : prN [a0, a1, a2, a3, a4] = 5 := if_neg nE
  have eT : prT [a0, a1, a2, a3, a4] = a3 - 97 + 8 * (a4 - 49) := by
    unfold prT
    rw [eN, show wA [a0, a1, a2, a3, a4] (5 - 2) = a3 from rfl, show wA [a0, a1, a2, a3, a4] (5 - 1) = a4 from rfl]
    unfold sqO
    rw [if_pos (by omega)]
  have eX : prX [a0, a1, a2, a3, a4] = 1 := by
    unfold prX
    rw [eN, eS, show wA [a0, a1, a2, a3, a4] (5 - 2 - 1) = a2 from rfl, if_pos ⟨by decide, hX⟩]
  have eZ : prZ [a0, a1, a2, a3, a4] = 2 := by unfold prZ; rw [eN, eX]; rfl
  have eF : prF [a0, a1, a2, a3, a4] = -1 := by
    unfold prF paF
    rw [eS, eZ]
    rw [show wA [a0, a1, a2, a3, a4] 1 = a1 from rfl, if_neg (fun h => by have := h.2; omega)]
  have eI : prI [a0, a1, a2, a3, a4] = 1 := by
    unfold prI paI
    rw [eS, eZ]
    rw [show wA [a0, a1, a2, a3, a4] 1 = a1 from rfl, if_neg (fun h => by have := h.2; omega)]
  have eR2 : prR [a0, a1, a2, a3, a4] = a1 - 49 := by
    unfold prR paR
    rw [eI, eZ, eK]
    rw [show wA [a0, a1, a2, a3, a4] 1 = a1 from rfl, if_pos ⟨by decide, by omega, hR⟩]
  have eJ2 : prJ [a0, a1, a2, a3, a4] = 2 := by
    unfold prJ paJ
    rw [eI, eZ, eK]
    rw [show wA [a0, a1, a2, a3, a4] 1 = a1 from rfl, if_pos ⟨by decide, by omega, hR⟩]; rfl
  refine ⟨⟨fun h => absurd h nE, by rw [eT]; omega, by rw [eJ2, eZ]⟩, eK, eF, eR2, eX, eT, eB⟩
theorem of_11000 {a0 a1 a2 a3 : Int} (hK : 2 ≤ kO a0) (hF : 97 ≤ a1 ∧ a1 ≤ 104) (ha : 97 ≤ a2 ∧ a2 ≤ 104) (hb : 49 ≤ a3 ∧ a3 ≤ 56) : PRSok [a0, a1, a2, a3] ∧ prK [a0, a1, a2, a3] = kO a0 ∧ prF [a0, a1, a2, a3] = a1 - 97 ∧ prR [a0, a1, a2, a3] = -1 ∧ prX [a0, a1, a2, a3] = 0 ∧ prT [a0, a1, a2, a3] = a2 - 97 + 8 * (a3 - 49) ∧ prB [a0, a1, a2, a3] = 0 := by
  have w0 : wA [a0, a1, a2, a3] 0 = a0 := rfl
  have w1 : wA [a0, a1, a2, a3] 1 = a1 := rfl
  have w2 : wA [a0, a1, a2, a3] 2 = a2 := rfl
  have w3 : wA [a0, a1, a2, a3] 3 = a3 := rfl
  have ln : (([a0, a1, a2, a3] : List Int).length : Int) = 4 := rfl
  have eK : prK [a0, a1, a2, a3] = kO a0 := by unfold prK; rw [w0, if_pos hK]
  have eS : prS [a0, a1, a2, a3] = 1 := by unfold prS; rw [w0, if_pos hK]
  have m2 : wA [a0, a1, a2, a3] ((([a0, a1, a2, a3] : List Int).length : Int) - 2) = a2 := rfl
  have m1 : wA [a0, a1, a2, a3] ((([a0, a1, a2, a3] : List Int).length : Int) - 1) = a3 := rfl
  have nE : ¬ (prK [a0, a1, a2, a3] = 1 ∧ wA [a0, a1, a2, a3] ((([a0, a1, a2, a3] : List Int).length : Int) - 2) = 61) := by rw [m2, eK]; omega
  have eB : prB [a0, a1, a2, a3] = 0 := if_neg nE
  have eN : prN [a0, a1, a2, a3] = 4 := if_neg nE
  have eT : prT [a0, a1, a2, a3] = a2 - 97 + 8 * (a3 - 49) := by
    unfold prT
    rw [eN, show wA [a0, a1, a2, a3] (4 - 2) = a2 from rfl, show wA [a0, a1, a2, a3] (4 - 1) = a3 from rfl]
    unfold sqO
    rw [if_pos (by omega)]
  have eX : prX [a0, a1, a2, a3] = 0 := by
    unfold prX
    rw [eN, eS, show wA [a0, a1, a2, a3] (4 - 2 - 1) = a1 from rfl, if_neg (fun h => by have := h.2; omega)]
  have eZ : prZ [a0, a1, a2, a3] = 2 := by unfold prZ; rw [eN, eX]; rfl
  have eF : prF [a0, a1, a2, a3] = a1 - 97 := by
    unfold prF paF
    rw [eS, eZ]
    rw [show wA [a0, a1, a2, a3] 1 = a1 from rfl, if_pos ⟨by decide, hF⟩]
  have eI : prI [a0, a1, a2, a3] = 2 := by
    unfold prI paI
    rw [eS, eZ]
    rw [show wA [a0, a1, a2, a3] 1 = a1 from rfl, if_pos ⟨by decide, hF⟩]; rfl
  have eR2 : prR [a0, a1, a2, a3] = -1 := by
    unfold prR paR
    rw [eI, eZ, eK]
    rw [if_neg (fun h => absurd h.1 (by decide))]
  have eJ2 : prJ [a0, a1, a2, a3] = 2 := by
    unfold prJ paJ
    rw [eI, eZ, eK]
    rw [if_neg (fun h => absurd h.1 (by decide))]
  refine ⟨⟨fun h => absurd h nE, by rw [eT]; omega, by rw [eJ2, eZ]⟩, eK, eF, eR2, eX, eT, eB⟩
theorem of_11010 {a0 a1 a2 a3 a4 : Int} (hK : 2 ≤ kO a0) (hF : 97 ≤ a1 ∧ a1 ≤ 104) (hX : a2 = 120) (ha : 97 ≤ a3 ∧ a3 ≤ 104) (hb : 49 ≤ a4 ∧ a4 ≤ 56) : PRSok [a0, a1, a2, a3, a4] ∧ prK [a0, a1, a2, a3, a4] = kO a0 ∧ prF [a0, a1, a2, a3, a4] = a1 - 97 ∧ prR [a0, a1, a2, a3, a4] = -1 ∧ prX [a0, a1, a2, a3, a4] = 1 ∧ prT [a0, a1, a2, a3, a4] = a3 - 97 + 8 * (a4 - 49) ∧ prB [a0, a1, a2, a3, a4] = 0 := by
  have w0 : wA [a0, a1, a2, a3, a4] 0 = a0 := rfl
  have w1 : wA [a0, a1, a2, a3, a4] 1 = a1 := rfl
  have w2 : wA [a0, a1, a2, a3, a4] 2 = a2 := rfl
  have w3 : wA [a0, a1, a2, a3, a4] 3 = a3 := rfl
  have w4 : wA [a0, a1, a2, a3, a4] 4 = a4 := rfl
  have ln : (([a0, a1, a2, a3, a4] : List Int).length : Int) = 5 := rfl
  have eK : prK [a0, a1, a2, a3, a4] = kO a0 := by unfold prK; rw [w0, if_pos hK]
  have eS : prS [a0, a1, a2, a3, a4] = 1 := by unfold prS; rw [w0, if_pos hK]
  have m2 : wA [a0, a1, a2, a3, a4] ((([a0, a1, a2, a3, a4] : List Int).length : Int) - 2) = a3 := rfl
  have m1 : wA [a0, a1, a2, a3, a4] ((([a0, a1, a2, a3, a4] : List Int).length : Int) - 1) = a4 := rfl
  have nE : ¬ (prK [a0, a1, a2, a3, a4] = 1 ∧ wA [a0, a1, a2, a3, a4] ((([a0, a1, a2, a3, a4] : List Int).length : Int) - 2) = 61) := by rw [m2, eK]; omega
  have eB : prB [a0, a1, a2, a3, a4] = 0 := if_neg nE
  have eN : prN [a0, a1, a2, a3, a4] = 5 := if_neg nE
  have eT : prT [a0, a1, a2, a3, a4] = a3 - 97 + 8 * (a4 - 49) := by
    unfold prT
    rw [eN, show wA [a0, a1, a2, a3, a4] (5 - 2) = a3 from rfl, show wA [a0, a1, a2, a3, a4] (5 - 1) = a4 from rfl]
    unfold sqO
    rw [if_pos (by omega)]
  have eX : prX [a0, a1, a2, a3, a4] = 1 := by
    unfold prX
    rw [eN, eS, show wA [a0, a1, a2, a3, a4] (5 - 2 - 1) = a2 from rfl, if_pos ⟨by decide, hX⟩]
  have eZ : prZ [a0, a1, a2, a3, a4] = 2 := by unfold prZ; rw [eN, eX]; rfl
  have eF : prF [a0, a1, a2, a3, a4] = a1 - 97 := by
    unfold prF paF
    rw [eS, eZ]
    rw [show wA [a0, a1, a2, a3, a4] 1 = a1 from rfl, if_pos ⟨by decide, hF⟩]
  have eI : prI [a0, a1, a2, a3, a4] = 2 := by
    unfold prI paI
    rw [eS, eZ]
    rw [show wA [a0, a1, a2, a3, a4] 1 = a1 from rfl, if_pos ⟨by decide, hF⟩]; rfl
  have eR2 : prR [a0, a1, a2, a3, a4] = -1 := by
    unfold prR paR
    rw [eI, eZ, eK]
    rw [if_neg (fun h => absurd h.1 (by decide))]
  have eJ2 : prJ [a0, a1, a2, a3, a4] = 2 := by
    unfold prJ paJ
    rw [eI, eZ, eK]
    rw [if_neg (fun h => absurd h.1 (by decide))]
  refine ⟨⟨fun h => absurd h nE, by rw [eT]; omega, by rw [eJ2, eZ]⟩, eK, eF, eR2, eX, eT, eB⟩
theorem of_11100 {a0 a1 a2 a3 a4 : Int} (hK : 2 ≤ kO a0) (hF : 97 ≤ a1 ∧ a1 ≤ 104) (hR : 49 ≤ a2 ∧ a2 ≤ 56) (ha : 97 ≤ a3 ∧ a3 ≤ 104) (hb : 49 ≤ a4 ∧ a4 ≤ 56) : PRSok [a0, a1, a2, a3, a4] ∧ prK [a0, a1, a2, a3, a4] = kO a0 ∧ prF [a0, a1, a2, a3, a4] = a1 - 97 ∧ prR [a0, a1, a2, a3, a4] = a2 - 49 ∧ prX [a0, a1, a2, a3, a4] = 0 ∧ prT [a0, a1, a2, a3, a4] = a3 - 97 + 8 * (a4 - 49) ∧ prB [a0, a1, a2, a3, a4] = 0 := by
  have w0 : wA [a0, a1, a2, a3, a4] 0 = a0 := rfl
  have w1 : wA [a0, a1, a2, a3, a4] 1 = a1 := rfl
  have w2 : wA [a0, a1, a2, a3, a4] 2 = a2 := rfl
  have w3 : wA [a0, a1, a2, a3, a4] 3 = a3 := rfl
  have w4 : wA [a0, a1, a2, a3, a4] 4 = a4 := rfl
  have ln : (([a0, a1, a2, a3, a4] : List Int).length : Int) = 5 := rfl
  have eK : prK [a0, a1, a2, a3, a4] = kO a0 := by unfold prK; rw [w0, if_pos hK]
  have eS : prS [a0, a1, a2, a3, a4] = 1 := by unfold prS; rw [w0, if_pos hK]
  have m2 : wA [a0, a1, a2, a3, a4] ((([a0, a1, a2, a3, a4] : List Int).length : Int) - 2) = a3 := rfl
  have m1 : wA [a0, a1, a2, a3, a4] ((([a0, a1, a2, a3, a4] : List Int).length : Int) - 1) = a4 := rfl
  have nE : ¬ (prK [a0, a1, a2, a3, a4] = 1 ∧ wA [a0, a1, a2, a3, a4] ((([a0, a1, a2, a3, a4] : List Int).length : Int) - 2) = 61) := by rw [m2, eK]; omega
  have eB : prB [a0, a1, a2, a3, a4] = 0 := if_neg nE
  have eN : prN [a0, a1, a2, a3, a4] = 5 := if_neg nE
  have eT : prT [a0, a1, a2, a3, a4] = a3 - 97 + 8 * (a4 - 49) := by
    unfold prT
    rw [eN, show wA [a0, a1, a2, a3, a4] (5 - 2) = a3 from rfl, show wA [a0, a1, a2, a3, a4] (5 - 1) = a4 from rfl]
    unfold sqO
    rw [if_pos (by omega)]
  have eX : prX [a0, a1, a2, a3, a4] = 0 := by
    unfold prX
    rw [eN, eS, show wA [a0, a1, a2, a3, a4] (5 - 2 - 1) = a2 from rfl, if_neg (fun h => by have := h.2; omega)]
  have eZ : prZ [a0, a1, a2, a3, a4] = 3 := by unfold prZ; rw [eN, eX]; rfl
  have eF : prF [a0, a1, a2, a3, a4] = a1 - 97 := by
    unfold prF paF
    rw [eS, eZ]
    rw [show wA [a0, a1, a2, a3, a4] 1 = a1 from rfl, if_pos ⟨by decide, hF⟩]
  have eI : prI [a0, a1, a2, a3, a4] = 2 := by
    unfold prI paI
    rw [eS, eZ]
    rw [show wA [a0, a1, a2, a3, a4] 1 = a1 from rfl, if_pos ⟨by decide, hF⟩]; rfl
  have eR2 : prR [a0, a1, a2, a3, a4] = a2 - 49 := by
    unfold prR paR
    rw [eI, eZ, eK]
    rw [show wA [a0, a1, a2, a3, a4] 2 = a2 from rfl, if_pos ⟨by decide, by omega, hR⟩]
  have eJ2 : prJ [a0, a1, a2, a3, a4] = 3 := by
    unfold prJ paJ
    rw [eI, eZ, eK]
    rw [show wA [a0, a1, a2, a3, a4] 2 = a2 from rfl, if_pos ⟨by decide, by omega, hR⟩]; rfl
  refine ⟨⟨fun h => absurd h nE, by rw [eT]; omega, by rw [eJ2, eZ]⟩, eK, eF, eR2, eX, eT, eB⟩
theorem of_11110 {a0 a1 a2 a3 a4 a5 : Int} (hK : 2 ≤ kO a0) (hF : 97 ≤ a1 ∧ a1 ≤ 104) (hR : 49 ≤ a2 ∧ a2 ≤ 56) (hX : a3 = 120) (ha : 97 ≤ a4 ∧ a4 ≤ 104) (hb : 49 ≤ a5 ∧ a5 ≤ 56) : PRSok [a0, a1, a2, a3, a4, a5] ∧ prK [a0, a1, a2, a3, a4, a5] = kO a0 ∧ prF [a0, a1, a2, a3, a4, a5] = a1 - 97 ∧ prR [a0, a1, a2, a3, a4, a5] = a2 - 49 ∧ prX [a0, a1, a2, a3, a4, a5] = 1 ∧ prT [a0, a1, a2, a3, a4, a5] = a4 - 97 + 8 * (a5 - 49) ∧ prB [a0, a1, a2, a3, a4, a5] = 0 := by
  have w0 : wA [a0, a1, a2, a3, a4, a5] 0 = a0 := rfl
  have w1 : wA [a0, a1, a2, a3, a4, a5] 1 = a1 := rfl
  have w2 : wA [a0, a1, a2, a3, a4, a5] 2 = a2 := rfl
  have w3 : wA [a0, a1, a2, a3, a4, a5] 3 = a3 := rfl
  have w4 : wA [a0, a1, a2, a3, a4, a5] 4 = a4 := rfl
  have w5 : wA [a0, a1, a2, a3, a4, a5] 5 = a5 := rfl
  have ln : (([a0, a1, a2, a3, a4, a5] : List Int).length : Int) = 6 := rfl
  have eK : prK [a0, a1, a2, a3, a4, a5] = kO a0 := by unfold prK; rw [w0, if_pos hK]
  have eS : prS [a0, a1, a2, a3, a4, a5] = 1 := by unfold prS; rw [w0, if_pos hK]
  have m2 : wA [a0, a1, a2, a3, a4, a5] ((([a0, a1, a2, a3, a4, a5] : List Int).length : Int) - 2) = a4 := rfl
  have m1 : wA [a0, a1, a2, a3, a4, a5] ((([a0, a1, a2, a3, a4, a5] : List Int).length : Int) - 1) = a5 := rfl
  have nE : ¬ (prK [a0, a1, a2, a3, a4, a5] = 1 ∧ wA [a0, a1, a2, a3, a4, a5] ((([a0, a1, a2, a3, a4, a5] : List Int).length : Int) - 2) = 61) := by rw [m2, eK]; omega
  have eB : prB [a0, a1, a2, a3, a4, a5] = 0 := if_neg nE
  have eN : prN [a0, a1, a2, a3, a4, a5] = 6 := if_neg nE
  have eT : prT [a0, a1, a2, a3, a4, a5] = a4 - 97 + 8 * (a5 - 49) := by
    unfold prT
    rw [eN, show wA [a0, a1, a2, a3, a4, a5] (6 - 2) = a4 from rfl, show wA [a0, a1, a2, a3, a4, a5] (6 - 1) = a5 from rfl]
    unfold sqO
    rw [if_pos (by omega)]
  have eX : prX [a0, a1, a2, a3, a4, a5] = 1 := by
    unfold prX
    rw [eN, eS, show wA [a0, a1, a2, a3, a4, a5] (6 - 2 - 1) = a3 from rfl, if_pos ⟨by decide, hX⟩]
  have eZ : prZ [a0, a1, a2, a3, a4, a5] = 3 := by unfold prZ; rw [eN, eX]; rfl
  have eF : prF [a0, a1, a2, a3, a4, a5] = a1 - 97 := by
    unfold prF paF
    rw [eS, eZ]
    rw [show wA [a0, a1, a2, a3, a4, a5] 1 = a1 from rfl, if_pos ⟨by decide, hF⟩]
  have eI : prI [a0, a1, a2, a3, a4, a5] = 2 := by
    unfold prI paI
    rw [eS, eZ]
    rw [show wA [a0, a1, a2, a3, a4, a5] 1 = a1 from rfl, if_pos ⟨by decide, hF⟩]; rfl
  have eR2 : prR [a0, a1, a2, a3, a4, a5] = a2 - 49 := by
    unfold prR paR
    rw [eI, eZ, eK]
    rw [show wA [a0, a1, a2, a3, a4, a5] 2 = a2 from rfl, if_pos ⟨by decide, by omega, hR⟩]
  have eJ2 : prJ [a0, a1, a2, a3, a4, a5] = 3 := by
    unfold prJ paJ
    rw [eI, eZ, eK]
    rw [show wA [a0, a1, a2, a3, a4, a5] 2 = a2 from rfl, if_pos ⟨by decide, by omega, hR⟩]; rfl
  refine ⟨⟨fun h => absurd h nE, by rw [eT]; omega, by rw [eJ2, eZ]⟩, eK, eF, eR2, eX, eT, eB⟩
theorem pr_of {kd fl rk tk to bc : Int} (h : vld kd fl rk tk to bc) : PRSok (rend kd fl rk tk to bc) ∧ prK (rend kd fl rk tk to bc) = kd ∧ prF (rend kd fl rk tk to bc) = fl ∧ prR (rend kd fl rk tk to bc) = rk ∧ prX (rend kd fl rk tk to bc) = tk ∧ prT (rend kd fl rk tk to bc) = to ∧ prB (rend kd fl rk tk to bc) = bc := by
  obtain ⟨h1, h2, h3, h4, h5, h6, h7⟩ := h
  have e6 := sqO_to h6
  by_cases cK : 2 ≤ kd
  ·
    by_cases cF : 0 ≤ fl
    ·
      by_cases cR : 0 ≤ rk
      ·
        by_cases cX : tk = 1
        ·
          by_cases cE : 2 ≤ bc
          ·
            omega
          ·
            have e : rend kd fl rk tk to bc = [ltK kd, 97 + fl, 49 + rk, 120, 97 + to % 8, 49 + to / 8] := by
              unfold rend
              rw [if_pos cK, if_pos cF, if_pos cR, if_pos cX, if_neg cE]
              rfl
            obtain ⟨g1, g2, g3, g4, g5, g6, g7⟩ := of_11110 (a0 := ltK kd) (a1 := 97 + fl) (a2 := 49 + rk) (a3 := 120) (a4 := 97 + to % 8) (a5 := 49 + to / 8) (by rw [kO_lt (by omega)]; exact cK) (by omega) (by omega) rfl (by omega) (by omega)
            rw [← e] at g1 g2 g3 g4 g5 g6 g7
            rw [kO_lt (by omega)] at g2
            exact ⟨g1, by omega, by omega, by omega, by omega, by omega, by omega⟩
        ·
          by_cases cE : 2 ≤ bc
          ·
            omega
          ·
            have e : rend kd fl rk tk to bc = [ltK kd, 97 + fl, 49 + rk, 97 + to % 8, 49 + to / 8] := by
              unfold rend
              rw [if_pos cK, if_pos cF, if_pos cR, if_neg cX, if_neg cE]
              rfl
            obtain ⟨g1, g2, g3, g4, g5, g6, g7⟩ := of_11100 (a0 := ltK kd) (a1 := 97 + fl) (a2 := 49 + rk) (a3 := 97 + to % 8) (a4 := 49 + to / 8) (by rw [kO_lt (by omega)]; exact cK) (by omega) (by omega) (by omega) (by omega)
            rw [← e] at g1 g2 g3 g4 g5 g6 g7
            rw [kO_lt (by omega)] at g2
            exact ⟨g1, by omega, by omega, by omega, by omega, by omega, by omega⟩
      ·
        by_cases cX : tk = 1
        ·
          by_cases cE : 2 ≤ bc
          ·
            omega
          ·
            have e : rend kd fl rk tk to bc = [ltK kd, 97 + fl, 120, 97 + to % 8, 49 + to / 8] := by
              unfold rend
              rw [if_pos cK, if_pos cF, if_neg cR, if_pos cX, if_neg cE]
              rfl
            obtain ⟨g1, g2, g3, g4, g5, g6, g7⟩ := of_11010 (a0 := ltK kd) (a1 := 97 + fl) (a2 := 120) (a3 := 97 + to % 8) (a4 := 49 + to / 8) (by rw [kO_lt (by omega)]; exact cK) (by omega) rfl (by omega) (by omega)
            rw [← e] at g1 g2 g3 g4 g5 g6 g7
            rw [kO_lt (by omega)] at g2
            exact ⟨g1, by omega, by omega, by omega, by omega, by omega, by omega⟩
        ·
          by_cases cE : 2 ≤ bc
          ·
            omega
          ·
            have e : rend kd fl rk tk to bc = [ltK kd, 97 + fl, 97 + to % 8, 49 + to / 8] := by
              unfold rend
              rw [if_pos cK, if_pos cF, if_neg cR, if_neg cX, if_neg cE]
              rfl
            obtain ⟨g1, g2, g3, g4, g5, g6, g7⟩ := of_11000 (a0 := ltK kd) (a1 := 97 + fl) (a2 := 97 + to % 8) (a3 := 49 + to / 8) (by rw [kO_lt (by omega)]; exact cK) (by omega) (by omega) (by omega)
            rw [← e] at g1 g2 g3 g4 g5 g6 g7
            rw [kO_lt (by omega)] at g2
            exact ⟨g1, by omega, by omega, by omega, by omega, by omega, by omega⟩
    ·
      by_cases cR : 0 ≤ rk
      ·
        by_cases cX : tk = 1
        ·
          by_cases cE : 2 ≤ bc
          ·
            omega
          ·
            have e : rend kd fl rk tk to bc = [ltK kd, 49 + rk, 120, 97 + to % 8, 49 + to / 8] := by
              unfold rend
              rw [if_pos cK, if_neg cF, if_pos cR, if_pos cX, if_neg cE]
              rfl
            obtain ⟨g1, g2, g3, g4, g5, g6, g7⟩ := of_10110 (a0 := ltK kd) (a1 := 49 + rk) (a2 := 120) (a3 := 97 + to % 8) (a4 := 49 + to / 8) (by rw [kO_lt (by omega)]; exact cK) (by omega) rfl (by omega) (by omega)
            rw [← e] at g1 g2 g3 g4 g5 g6 g7
            rw [kO_lt (by omega)] at g2
            exact ⟨g1, by omega, by omega, by omega, by omega, by omega, by omega⟩
        ·
          by_cases cE : 2 ≤ bc
          ·
            omega
          ·
            have e : rend kd fl rk tk to bc = [ltK kd, 49 + rk, 97 + to % 8, 49 + to / 8] := by
              unfold rend
              rw [if_pos cK, if_neg cF, if_pos cR, if_neg cX, if_neg cE]
              rfl
            obtain ⟨g1, g2, g3, g4, g5, g6, g7⟩ := of_10100 (a0 := ltK kd) (a1 := 49 + rk) (a2 := 97 + to % 8) (a3 := 49 + to / 8) (by rw [kO_lt (by omega)]; exact cK) (by omega) (by omega) (by omega)
            rw [← e] at g1 g2 g3 g4 g5 g6 g7
            rw [kO_lt (by omega)] at g2
            exact ⟨g1, by omega, by omega, by omega, by omega, by omega, by omega⟩
      ·
        by_cases cX : tk = 1
        ·
          by_cases cE : 2 ≤ bc
          ·
            omega
          ·
            have e : rend kd fl rk tk to bc = [ltK kd, 120, 97 + to % 8, 49 + to / 8] := by
              unfold rend
              rw [if_pos cK, if_neg cF, if_neg cR, if_pos cX, if_neg cE]
              rfl
            obtain ⟨g1, g2, g3, g4, g5, g6, g7⟩ := of_10010 (a0 := ltK kd) (a1 := 120) (a2 := 97 + to % 8) (a3 := 49 + to / 8) (by rw [kO_lt (by omega)]; exact cK) rfl (by omega) (by omega)
            rw [← e] at g1 g2 g3 g4 g5 g6 g7
            rw [kO_lt (by omega)] at g2
            exact ⟨g1, by omega, by omega, by omega, by omega, by omega, by omega⟩
        ·
          by_cases cE : 2 ≤ bc
          ·
            omega
          ·
            have e : rend kd fl rk tk to bc = [ltK kd, 97 + to % 8, 49 + to / 8] := by
              unfold rend
              rw [if_pos cK, if_neg cF, if_neg cR, if_neg cX, if_neg cE]
              rfl
            obtain ⟨g1, g2, g3, g4, g5, g6, g7⟩ := of_10000 (a0 := ltK kd) (a1 := 97 + to % 8) (a2 := 49 + to / 8) (by rw [kO_lt (by omega)]; exact cK) (by omega) (by omega)
            rw [← e] at g1 g2 g3 g4 g5 g6 g7
            rw [kO_lt (by omega)] at g2
            exact ⟨g1, by omega, by omega, by omega, by omega, by omega, by omega⟩
  ·
    by_cases cF : 0 ≤ fl
    ·
      by_cases cR : 0 ≤ rk
      ·
        omega
      ·
        by_cases cX : tk = 1
        ·
          by_cases cE : 2 ≤ bc
          ·
            have e : rend kd fl rk tk to bc = [97 + fl, 120, 97 + to % 8, 49 + to / 8, 61, ltK bc] := by
              unfold rend
              rw [if_neg cK, if_pos cF, if_neg cR, if_pos cX, if_pos cE]
              rfl
            obtain ⟨g1, g2, g3, g4, g5, g6, g7⟩ := of_01011 (a0 := 97 + fl) (a1 := 120) (a2 := 97 + to % 8) (a3 := 49 + to / 8) (a4 := 61) (a5 := ltK bc) (by rw [kO_big (by omega)]; decide) (by omega) rfl (by omega) (by omega) rfl (by rw [kO_lt (by omega)]; omega)
            rw [← e] at g1 g2 g3 g4 g5 g6 g7
            rw [kO_lt (by omega)] at g7
            exact ⟨g1, by omega, by omega, by omega, by omega, by omega, by omega⟩
          ·
            have e : rend kd fl rk tk to bc = [97 + fl, 120, 97 + to % 8, 49 + to / 8] := by
              unfold rend
              rw [if_neg cK, if_pos cF, if_neg cR, if_pos cX, if_neg cE]
              rfl
            obtain ⟨g1, g2, g3, g4, g5, g6, g7⟩ := of_01010 (a0 := 97 + fl) (a1 := 120) (a2 := 97 + to % 8) (a3 := 49 + to / 8) (by rw [kO_big (by omega)]; decide) (by omega) rfl (by omega) (by omega)
            rw [← e] at g1 g2 g3 g4 g5 g6 g7
            exact ⟨g1, by omega, by omega, by omega, by omega, by omega, by omega⟩
        ·
          by_cases cE : 2 ≤ bc
          ·
            have e : rend kd fl rk tk to bc = [97 + fl, 97 + to % 8, 49 + to / 8, 61, ltK bc] := by
              unfold rend
              rw [if_neg cK, if_pos cF, if_neg cR, if_neg cX, if_pos cE]
              rfl
            obtain ⟨g1, g2, g3, g4, g5, g6, g7⟩ := of_01001 (a0 := 97 + fl) (a1 := 97 + to % 8) (a2 := 49 + to / 8) (a3 := 61) (a4 := ltK bc) (by rw [kO_big (by omega)]; decide) (by omega) (by omega) (by omega) rfl (by rw [kO_lt (by omega)]; omega)
            rw [← e] at g1 g2 g3 g4 g5 g6 g7
            rw [kO_lt (by omega)] at g7
            exact ⟨g1, by omega, by omega, by omega, by omega, by omega, by omega⟩
          ·
            have e : rend kd fl rk tk to bc = [97 + fl, 97 + to % 8, 49 + to / 8] := by
              unfold rend
              rw [if_neg cK, if_pos cF, if_neg cR, if_neg cX, if_neg cE]
              rfl
            obtain ⟨g1, g2, g3, g4, g5, g6, g7⟩ := of_01000 (a0 := 97 + fl) (a1 := 97 + to % 8) (a2 := 49 + to / 8) (by rw [kO_big (by omega)]; decide) (by omega) (by omega) (by omega)
            rw [← e] at g1 g2 g3 g4 g5 g6 g7
            exact ⟨g1, by omega, by omega, by omega, by omega, by omega, by omega⟩
    ·
      by_cases cR : 0 ≤ rk
      ·
        omega
      ·
        by_cases cX : tk = 1
        ·
          by_cases cE : 2 ≤ bc
          ·
            have e : rend kd fl rk tk to bc = [120, 97 + to % 8, 49 + to / 8, 61, ltK bc] := by
              unfold rend
              rw [if_neg cK, if_neg cF, if_neg cR, if_pos cX, if_pos cE]
              rfl
            obtain ⟨g1, g2, g3, g4, g5, g6, g7⟩ := of_00011 (a0 := 120) (a1 := 97 + to % 8) (a2 := 49 + to / 8) (a3 := 61) (a4 := ltK bc) (by rw [kO_big (by omega)]; decide) rfl (by omega) (by omega) rfl (by rw [kO_lt (by omega)]; omega)
            rw [← e] at g1 g2 g3 g4 g5 g6 g7
            rw [kO_lt (by omega)] at g7
            exact ⟨g1, by omega, by omega, by omega, by omega, by omega, by omega⟩
          ·
            have e : rend kd fl rk tk to bc = [120, 97 + to % 8, 49 + to / 8] := by
              unfold rend
              rw [if_neg cK, if_neg cF, if_neg cR, if_pos cX, if_neg cE]
              rfl
            obtain ⟨g1, g2, g3, g4, g5, g6, g7⟩ := of_00010 (a0 := 120) (a1 := 97 + to % 8) (a2 := 49 + to / 8) (by rw [kO_big (by omega)]; decide) rfl (by omega) (by omega)
            rw [← e] at g1 g2 g3 g4 g5 g6 g7
            exact ⟨g1, by omega, by omega, by omega, by omega, by omega, by omega⟩
        ·
          by_cases cE : 2 ≤ bc
          ·
            have e : rend kd fl rk tk to bc = [97 + to % 8, 49 + to / 8, 61, ltK bc] := by
              unfold rend
              rw [if_neg cK, if_neg cF, if_neg cR, if_neg cX, if_pos cE]
              rfl
            obtain ⟨g1, g2, g3, g4, g5, g6, g7⟩ := of_00001 (a0 := 97 + to % 8) (a1 := 49 + to / 8) (a2 := 61) (a3 := ltK bc) (by rw [kO_big (by omega)]; decide) (by omega) (by omega) rfl (by rw [kO_lt (by omega)]; omega)
            rw [← e] at g1 g2 g3 g4 g5 g6 g7
            rw [kO_lt (by omega)] at g7
            exact ⟨g1, by omega, by omega, by omega, by omega, by omega, by omega⟩
          ·
            have e : rend kd fl rk tk to bc = [97 + to % 8, 49 + to / 8] := by
              unfold rend
              rw [if_neg cK, if_neg cF, if_neg cR, if_neg cX, if_neg cE]
              rfl
            obtain ⟨g1, g2, g3, g4, g5, g6, g7⟩ := of_00000 (a0 := 97 + to % 8) (a1 := 49 + to / 8) (by rw [kO_big (by omega)]; decide) (by omega) (by omega)
            rw [← e] at g1 g2 g3 g4 g5 g6 g7
            exact ⟨g1, by omega, by omega, by omega, by omega, by omega, by omega⟩
theorem pr_to {w : List Int} (h : PRSok w) : vld (prK w) (prF w) (prR w) (prX w) (prT w) (prB w) ∧ w = rend (prK w) (prF w) (prR w) (prX w) (prT w) (prB w) := by
  obtain ⟨h1, h2, h3⟩ := h
  have hT := sqO_ok h2
  have kb := kO_b (wA w 0)
  have qb := kO_b (wA w ((w.length : Int) - 1))
  by_cases cK : 2 ≤ kO (wA w 0)
  ·
    have eK : prK w = kO (wA w 0) := if_pos cK
    have eS : prS w = 1 := if_pos cK
    by_cases cE : prK w = 1 ∧ wA w ((w.length : Int) - 2) = 61
    ·
      omega
    ·
      have eB : prB w = 0 := if_neg cE
      have eN : prN w = (w.length : Int) := if_neg cE
      by_cases cX : prS w < prN w - 2 ∧ wA w (prN w - 2 - 1) = 120
      ·
        have eX : prX w = 1 := if_pos cX
        by_cases cF : prS w < prZ w ∧ 97 ≤ wA w (prS w) ∧ wA w (prS w) ≤ 104
        ·
          have eF : prF w = wA w (prS w) - 97 := if_pos cF
          have eI : prI w = prS w + 1 := if_pos cF
          by_cases cR : prI w < prZ w ∧ prK w ≠ 1 ∧ 49 ≤ wA w (prI w) ∧ wA w (prI w) ≤ 56
          ·
            have eR : prR w = wA w (prI w) - 49 := if_pos cR
            have eJ : prJ w = prI w + 1 := if_pos cR
            have h39 : prN w - 2 - prX w = prJ w := h3.symm
            have hn : (w.length : Int) = 6 := by unfold prZ at *; omega
            have eN9 : prN w = 6 := by omega
            unfold prT at hT h2 ⊢
            unfold prZ at *
            rw [eN9] at hT h2 ⊢
            obtain ⟨a0, a1, a2, a3, a4, a5, rfl⟩ := len_6 hn
            have ga : wA [a0, a1, a2, a3, a4, a5] (6 - 2) = a4 := rfl
            have gb : wA [a0, a1, a2, a3, a4, a5] (6 - 1) = a5 := rfl
            rw [ga, gb] at hT ⊢
            have g0 : wA [a0, a1, a2, a3, a4, a5] 0 = a0 := rfl
            rw [g0] at cK eK kb
            have cx2 := cX.2
            rw [eN9, show wA [a0, a1, a2, a3, a4, a5] (6 - 2 - 1) = a3 from rfl] at cx2
            have cf2 := cF.2
            rw [eS, show wA [a0, a1, a2, a3, a4, a5] 1 = a1 from rfl] at cf2 eF
            have cr2 := cR.2.2
            rw [eI, eS, show wA [a0, a1, a2, a3, a4, a5] (1 + 1) = a2 from rfl] at cr2 eR
            rw [eK, eF, eR, eX, eB, hT.2.2]
            obtain ⟨⟨t1, t2⟩, ⟨t3, t4⟩, t5⟩ := hT
            refine ⟨⟨by omega, by omega, by omega, by omega, by omega, by omega, by omega⟩, ?_⟩
            unfold rend
            rw [if_pos cK, if_pos (by omega), if_pos (by omega), if_pos rfl, if_neg (by decide)]
            show [a0, a1, a2, a3, a4, a5] = [ltK (kO a0), 97 + (a1 - 97), 49 + (a2 - 49), 120, 97 + (a4 - 97 + 8 * (a5 - 49)) % 8, 49 + (a4 - 97 + 8 * (a5 - 49)) / 8]
            rw [lt_kO cK]
            rw [show 97 + (a1 - 97) = a1 by omega, show 49 + (a2 - 49) = a2 by omega, show a3 = 120 by omega, show 97 + (a4 - 97 + 8 * (a5 - 49)) % 8 = a4 by omega, show 49 + (a4 - 97 + 8 * (a5 - 49)) / 8 = a5 by omega]
          ·
            have eR : prR w = -1 := if_neg cR
            have eJ : prJ w = prI w := if_neg cR
            have h39 : prN w - 2 - prX w = prJ w := h3.symm
            have hn : (w.length : Int) = 5 := by unfold prZ at *; omega
            have eN9 : prN w = 5 := by omega
            unfold prT at hT h2 ⊢
            unfold prZ at *
            rw [eN9] at hT h2 ⊢
            obtain ⟨a0, a1, a2, a3, a4, rfl⟩ := len_5 hn
            have ga : wA [a0, a1, a2, a3, a4] (5 - 2) = a3 := rfl
            have gb : wA [a0, a1, a2, a3, a4] (5 - 1) = a4 := rfl
            rw [ga, gb] at hT ⊢
            have g0 : wA [a0, a1, a2, a3, a4] 0 = a0 := rfl
            rw [g0] at cK eK kb
            have cx2 := cX.2
            rw [eN9, show wA [a0, a1, a2, a3, a4] (5 - 2 - 1) = a2 from rfl] at cx2
            have cf2 := cF.2
            rw [eS, show wA [a0, a1, a2, a3, a4] 1 = a1 from rfl] at cf2 eF
            rw [eK, eF, eR, eX, eB, hT.2.2]
            obtain ⟨⟨t1, t2⟩, ⟨t3, t4⟩, t5⟩ := hT
            refine ⟨⟨by omega, by omega, by omega, by omega, by omega, by omega, by omega⟩, ?_⟩
            unfold rend
            rw [if_pos cK, if_pos (by omega), if_neg (by decide), if_pos rfl, if_neg (by decide)]
            show [a0, a1, a2, a3, a4] = [ltK (kO a0), 97 + (a1 - 97), 120, 97 + (a3 - 97 + 8 * (a4 - 49)) % 8, 49 + (a3 - 97 + 8 * (a4 - 49)) / 8]
            rw [lt_kO cK]
            rw [show 97 + (a1 - 97) = a1 by omega, show a2 = 120 by omega, show 97 + (a3 - 97 + 8 * (a4 - 49)) % 8 = a3 by omega, show 49 + (a3 - 97 + 8 * (a4 - 49)) / 8 = a4 by omega]
        ·
          have eF : prF w = -1 := if_neg cF
          have eI : prI w = prS w := if_neg cF
          by_cases cR : prI w < prZ w ∧ prK w ≠ 1 ∧ 49 ≤ wA w (prI w) ∧ wA w (prI w) ≤ 56
          ·
            have eR : prR w = wA w (prI w) - 49 := if_pos cR
            have eJ : prJ w = prI w + 1 := if_pos cR
            have h39 : prN w - 2 - prX w = prJ w := h3.symm
            have hn : (w.length : Int) = 5 := by unfold prZ at *; omega
            have eN9 : prN w = 5 := by omega
            unfold prT at hT h2 ⊢
            unfold prZ at *
            rw [eN9] at hT h2 ⊢
            obtain ⟨a0, a1, a2, a3, a4, rfl⟩ := len_5 hn
            have ga : wA [a0, a1, a2, a3, a4] (5 - 2) = a3 := rfl
            have gb : wA [a0, a1, a2, a3, a4] (5 - 1) = a4 := rfl
            rw [ga, gb] at hT ⊢
            have g0 : wA [a0, a1, a2, a3, a4] 0 = a0 := rfl
            rw [g0] at cK eK kb
            have cx2 := cX.2
            rw [eN9, show wA [a0, a1, a2, a3, a4] (5 - 2 - 1) = a2 from rfl] at cx2
            have cr2 := cR.2.2
            rw [eI, eS, show wA [a0, a1, a2, a3, a4] 1 = a1 from rfl] at cr2 eR
            rw [eK, eF, eR, eX, eB, hT.2.2]
            obtain ⟨⟨t1, t2⟩, ⟨t3, t4⟩, t5⟩ := hT
            refine ⟨⟨by omega, by omega, by omega, by omega, by omega, by omega, by omega⟩, ?_⟩
            unfold rend
            rw [if_pos cK, if_neg (by decide), if_pos (by omega), if_pos rfl, if_neg (by decide)]
            show [a0, a1, a2, a3, a4] = [ltK (kO a0), 49 + (a1 - 49), 120, 97 + (a3 - 97 + 8 * (a4 - 49)) % 8, 49 + (a3 - 97 + 8 * (a4 - 49)) / 8]
            rw [lt_kO cK]
            rw [show 49 + (a1 - 49) = a1 by omega, show a2 = 120 by omega, show 97 + (a3 - 97 + 8 * (a4 - 49)) % 8 = a3 by omega, show 49 + (a3 - 97 + 8 * (a4 - 49)) / 8 = a4 by omega]
          ·
            have eR : prR w = -1 := if_neg cR
            have eJ : prJ w = prI w := if_neg cR
            have h39 : prN w - 2 - prX w = prJ w := h3.symm
            have hn : (w.length : Int) = 4 := by unfold prZ at *; omega
            have eN9 : prN w = 4 := by omega
            unfold prT at hT h2 ⊢
            unfold prZ at *
            rw [eN9] at hT h2 ⊢
            obtain ⟨a0, a1, a2, a3, rfl⟩ := len_4 hn
            have ga : wA [a0, a1, a2, a3] (4 - 2) = a2 := rfl
            have gb : wA [a0, a1, a2, a3] (4 - 1) = a3 := rfl
            rw [ga, gb] at hT ⊢
            have g0 : wA [a0, a1, a2, a3] 0 = a0 := rfl
            rw [g0] at cK eK kb
            have cx2 := cX.2
            rw [eN9, show wA [a0, a1, a2, a3] (4 - 2 - 1) = a1 from rfl] at cx2
            rw [eK, eF, eR, eX, eB, hT.2.2]
            obtain ⟨⟨t1, t2⟩, ⟨t3, t4⟩, t5⟩ := hT
            refine ⟨⟨by omega, by omega, by omega, by omega, by omega, by omega, by omega⟩, ?_⟩
            unfold rend
            rw [if_pos cK, if_neg (by decide), if_neg (by decide), if_pos rfl, if_neg (by decide)]
            show [a0, a1, a2, a3] = [ltK (kO a0), 120, 97 + (a2 - 97 + 8 * (a3 - 49)) % 8, 49 + (a2 - 97 + 8 * (a3 - 49)) / 8]
            rw [lt_kO cK]
            rw [show a1 = 120 by omega, show 97 + (a2 - 97 + 8 * (a3 - 49)) % 8 = a2 by omega, show 49 + (a2 - 97 + 8 * (a3 - 49)) / 8 = a3 by omega]
      ·
        have eX : prX w = 0 := if_neg cX
        by_cases cF : prS w < prZ w ∧ 97 ≤ wA w (prS w) ∧ wA w (prS w) ≤ 104
        ·
          have eF : prF w = wA w (prS w) - 97 := if_pos cF
          have eI : prI w = prS w + 1 := if_pos cF
          by_cases cR : prI w < prZ w ∧ prK w ≠ 1 ∧ 49 ≤ wA w (prI w) ∧ wA w (prI w) ≤ 56
          ·
            have eR : prR w = wA w (prI w) - 49 := if_pos cR
            have eJ : prJ w = prI w + 1 := if_pos cR
            have h39 : prN w - 2 - prX w = prJ w := h3.symm
            have hn : (w.length : Int) = 5 := by unfold prZ at *; omega
            have eN9 : prN w = 5 := by omega
            unfold prT at hT h2 ⊢
            unfold prZ at *
            rw [eN9] at hT h2 ⊢
            obtain ⟨a0, a1, a2, a3, a4, rfl⟩ := len_5 hn
            have ga : wA [a0, a1, a2, a3, a4] (5 - 2) = a3 := rfl
            have gb : wA [a0, a1, a2, a3, a4] (5 - 1) = a4 := rfl
            rw [ga, gb] at hT ⊢
            have g0 : wA [a0, a1, a2, a3, a4] 0 = a0 := rfl
            rw [g0] at cK eK kb
            have cf2 := cF.2
            rw [eS, show wA [a0, a1, a2, a3, a4] 1 = a1 from rfl] at cf2 eF
            have cr2 := cR.2.2
            rw [eI, eS, show wA [a0, a1, a2, a3, a4] (1 + 1) = a2 from rfl] at cr2 eR
            rw [eK, eF, eR, eX, eB, hT.2.2]
            obtain ⟨⟨t1, t2⟩, ⟨t3, t4⟩, t5⟩ := hT
            refine ⟨⟨by omega, by omega, by omega, by omega, by omega, by omega, by omega⟩, ?_⟩
            unfold rend
            rw [if_pos cK, if_pos (by omega), if_pos (by omega), if_neg (by decide), if_neg (by decide)]
            show [a0, a1, a2, a3, a4] = [ltK (kO a0), 97 + (a1 - 97), 49 + (a2 - 49), 97 + (a3 - 97 + 8 * (a4 - 49)) % 8, 49 + (a3 - 97 + 8 * (a4 - 49)) / 8]
            rw [lt_kO cK]
            rw [show 97 + (a1 - 97) = a1 by omega, show 49 + (a2 - 49) = a2 by omega, show 97 + (a3 - 97 + 8 * (a4 - 49)) % 8 = a3 by omega, show 49 + (a3 - 97 + 8 * (a4 - 49)) / 8 = a4 by omega]
          ·
            have eR : prR w = -1 := if_neg cR
            have eJ : prJ w = prI w := if_neg cR
            have h39 : prN w - 2 - prX w = prJ w := h3.symm
            have hn : (w.length : Int) = 4 := by unfold prZ at *; omega
            have eN9 : prN w = 4 := by omega
            unfold prT at hT h2 ⊢
            unfold prZ at *
            rw [eN9] at hT h2 ⊢
            obtain ⟨a0, a1, a2, a3, rfl⟩ := len_4 hn
            have ga : wA [a0, a1, a2, a3] (4 - 2) = a2 := rfl
            have gb : wA [a0, a1, a2, a3] (4 - 1) = a3 := rfl
            rw [ga, gb] at hT ⊢
            have g0 : wA [a0, a1, a2, a3] 0 = a0 := rfl
            rw [g0] at cK eK kb
            have cf2 := cF.2
            rw [eS, show wA [a0, a1, a2, a3] 1 = a1 from rfl] at cf2 eF
            rw [eK, eF, eR, eX, eB, hT.2.2]
            obtain ⟨⟨t1, t2⟩, ⟨t3, t4⟩, t5⟩ := hT
            refine ⟨⟨by omega, by omega, by omega, by omega, by omega, by omega, by omega⟩, ?_⟩
            unfold rend
            rw [if_pos cK, if_pos (by omega), if_neg (by decide), if_neg (by decide), if_neg (by decide)]
            show [a0, a1, a2, a3] = [ltK (kO a0), 97 + (a1 - 97), 97 + (a2 - 97 + 8 * (a3 - 49)) % 8, 49 + (a2 - 97 + 8 * (a3 - 49)) / 8]
            rw [lt_kO cK]
            rw [show 97 + (a1 - 97) = a1 by omega, show 97 + (a2 - 97 + 8 * (a3 - 49)) % 8 = a2 by omega, show 49 + (a2 - 97 + 8 * (a3 - 49)) / 8 = a3 by omega]
        ·
          have eF : prF w = -1 := if_neg cF
          have eI : prI w = prS w := if_neg cF
          by_cases cR : prI w < prZ w ∧ prK w ≠ 1 ∧ 49 ≤ wA w (prI w) ∧ wA w (prI w) ≤ 56
          ·
            have eR : prR w = wA w (prI w) - 49 := if_pos cR
            have eJ : prJ w = prI w + 1 := if_pos cR
            have h39 : prN w - 2 - prX w = prJ w := h3.symm
            have hn : (w.length : Int) = 4 := by unfold prZ at *; omega
            have eN9 : prN w = 4 := by omega
            unfold prT at hT h2 ⊢
            unfold prZ at *
            rw [eN9] at hT h2 ⊢
            obtain ⟨a0, a1, a2, a3, rfl⟩ := len_4 hn
            have ga : wA [a0, a1, a2, a3] (4 - 2) = a2 := rfl
            have gb : wA [a0, a1, a2, a3] (4 - 1) = a3 := rfl
            rw [ga, gb] at hT ⊢
            have g0 : wA [a0, a1, a2, a3] 0 = a0 := rfl
            rw [g0] at cK eK kb
            have cr2 := cR.2.2
            rw [eI, eS, show wA [a0, a1, a2, a3] 1 = a1 from rfl] at cr2 eR
            rw [eK, eF, eR, eX, eB, hT.2.2]
            obtain ⟨⟨t1, t2⟩, ⟨t3, t4⟩, t5⟩ := hT
            refine ⟨⟨by omega, by omega, by omega, by omega, by omega, by omega, by omega⟩, ?_⟩
            unfold rend
            rw [if_pos cK, if_neg (by decide), if_pos (by omega), if_neg (by decide), if_neg (by decide)]
            show [a0, a1, a2, a3] = [ltK (kO a0), 49 + (a1 - 49), 97 + (a2 - 97 + 8 * (a3 - 49)) % 8, 49 + (a2 - 97 + 8 * (a3 - 49)) / 8]
            rw [lt_kO cK]
            rw [show 49 + (a1 - 49) = a1 by omega, show 97 + (a2 - 97 + 8 * (a3 - 49)) % 8 = a2 by omega, show 49 + (a2 - 97 + 8 * (a3 - 49)) / 8 = a3 by omega]
          ·
            have eR : prR w = -1 := if_neg cR
            have eJ : prJ w = prI w := if_neg cR
            have h39 : prN w - 2 - prX w = prJ w := h3.symm
            have hn : (w.length : Int) = 3 := by unfold prZ at *; omega
            have eN9 : prN w = 3 := by omega
            unfold prT at hT h2 ⊢
            unfold prZ at *
            rw [eN9] at hT h2 ⊢
            obtain ⟨a0, a1, a2, rfl⟩ := len_3 hn
            have ga : wA [a0, a1, a2] (3 - 2) = a1 := rfl
            have gb : wA [a0, a1, a2] (3 - 1) = a2 := rfl
            rw [ga, gb] at hT ⊢
            have g0 : wA [a0, a1, a2] 0 = a0 := rfl
            rw [g0] at cK eK kb
            rw [eK, eF, eR, eX, eB, hT.2.2]
            obtain ⟨⟨t1, t2⟩, ⟨t3, t4⟩, t5⟩ := hT
            refine ⟨⟨by omega, by omega, by omega, by omega, by omega, by omega, by omega⟩, ?_⟩
            unfold rend
            rw [if_pos cK, if_neg (by decide), if_neg (by decide), if_neg (by decide), if_neg (by decide)]
            show [a0, a1, a2] = [ltK (kO a0), 97 + (a1 - 97 + 8 * (a2 - 49)) % 8, 49 + (a1 - 97 + 8 * (a2 - 49)) / 8]
            rw [lt_kO cK]
            rw [show 97 + (a1 - 97 + 8 * (a2 - 49)) % 8 = a1 by omega, show 49 + (a1 - 97 + 8 * (a2 - 49)) / 8 = a2 by omega]
  ·
    have eK : prK w = 1 := if_neg cK
    have eS : prS w = 0 := if_neg cK
    by_cases cE : prK w = 1 ∧ wA w ((w.length : Int) - 2) = 61
    ·
      have eB : prB w = kO (wA w ((w.length : Int) - 1)) := if_pos cE
      have eN : prN w = (w.length : Int) - 2 := if_pos cE
      by_cases cX : prS w < prN w - 2 ∧ wA w (prN w - 2 - 1) = 120
      ·
        have eX : prX w = 1 := if_pos cX
        by_cases cF : prS w < prZ w ∧ 97 ≤ wA w (prS w) ∧ wA w (prS w) ≤ 104
        ·
          have eF : prF w = wA w (prS w) - 97 := if_pos cF
          have eI : prI w = prS w + 1 := if_pos cF
          by_cases cR : prI w < prZ w ∧ prK w ≠ 1 ∧ 49 ≤ wA w (prI w) ∧ wA w (prI w) ≤ 56
          ·
            exact absurd eK cR.2.1
          ·
            have eR : prR w = -1 := if_neg cR
            have eJ : prJ w = prI w := if_neg cR
            have h39 : prN w - 2 - prX w = prJ w := h3.symm
            have hn : (w.length : Int) = 6 := by unfold prZ at *; omega
            have eN9 : prN w = 4 := by omega
            unfold prT at hT h2 ⊢
            unfold prZ at *
            rw [eN9] at hT h2 ⊢
            obtain ⟨a0, a1, a2, a3, a4, a5, rfl⟩ := len_6 hn
            have ga : wA [a0, a1, a2, a3, a4, a5] (4 - 2) = a2 := rfl
            have gb : wA [a0, a1, a2, a3, a4, a5] (4 - 1) = a3 := rfl
            rw [ga, gb] at hT ⊢
            have gq : wA [a0, a1, a2, a3, a4, a5] (([a0, a1, a2, a3, a4, a5] : List Int).length - 1 : Int) = a5 := rfl
            rw [gq] at eB qb
            have ge : wA [a0, a1, a2, a3, a4, a5] (([a0, a1, a2, a3, a4, a5] : List Int).length - 2 : Int) = a4 := rfl
            have ce2 := cE.2
            rw [ge] at ce2
            have cx2 := cX.2
            rw [eN9, show wA [a0, a1, a2, a3, a4, a5] (4 - 2 - 1) = a1 from rfl] at cx2
            have cf2 := cF.2
            rw [eS, show wA [a0, a1, a2, a3, a4, a5] 0 = a0 from rfl] at cf2 eF
            rw [eK, eF, eR, eX, eB, hT.2.2]
            obtain ⟨⟨t1, t2⟩, ⟨t3, t4⟩, t5⟩ := hT
            have hB := h1 cE
            rw [eB] at hB
            refine ⟨⟨by omega, by omega, by omega, by omega, by omega, by omega, by omega⟩, ?_⟩
            unfold rend
            rw [if_neg (by decide), if_pos (by omega), if_neg (by decide), if_pos rfl, if_pos hB.1]
            show [a0, a1, a2, a3, a4, a5] = [97 + (a0 - 97), 120, 97 + (a2 - 97 + 8 * (a3 - 49)) % 8, 49 + (a2 - 97 + 8 * (a3 - 49)) / 8, 61, ltK (kO a5)]
            rw [lt_kO hB.1]
            rw [show 97 + (a0 - 97) = a0 by omega, show a1 = 120 by omega, show 97 + (a2 - 97 + 8 * (a3 - 49)) % 8 = a2 by omega, show 49 + (a2 - 97 + 8 * (a3 - 49)) / 8 = a3 by omega, show a4 = 61 by omega]
        ·
          have eF : prF w = -1 := if_neg cF
          have eI : prI w = prS w := if_neg cF
          by_cases cR : prI w < prZ w ∧ prK w ≠ 1 ∧ 49 ≤ wA w (prI w) ∧ wA w (prI w) ≤ 56
          ·
            exact absurd eK cR.2.1
          ·
            have eR : prR w = -1 := if_neg cR
            have eJ : prJ w = prI w := if_neg cR
            have h39 : prN w - 2 - prX w = prJ w := h3.symm
            have hn : (w.length : Int) = 5 := by unfold prZ at *; omega
            have eN9 : prN w = 3 := by omega
            unfold prT at hT h2 ⊢
            unfold prZ at *
            rw [eN9] at hT h2 ⊢
            obtain ⟨a0, a1, a2, a3, a4, rfl⟩ := len_5 hn
            have ga : wA [a0, a1, a2, a3, a4] (3 - 2) = a1 := rfl
            have gb : wA [a0, a1, a2, a3, a4] (3 - 1) = a2 := rfl
            rw [ga, gb] at hT ⊢
            have gq : wA [a0, a1, a2, a3, a4] (([a0, a1, a2, a3, a4] : List Int).length - 1 : Int) = a4 := rfl
            rw [gq] at eB qb
            have ge : wA [a0, a1, a2, a3, a4] (([a0, a1, a2, a3, a4] : List Int).length - 2 : Int) = a3 := rfl
            have ce2 := cE.2
            rw [ge] at ce2
            have cx2 := cX.2
            rw [eN9, show wA [a0, a1, a2, a3, a4] (3 - 2 - 1) = a0 from rfl] at cx2
            rw [eK, eF, eR, eX, eB, hT.2.2]
            obtain ⟨⟨t1, t2⟩, ⟨t3, t4⟩, t5⟩ := hT
            have hB := h1 cE
            rw [eB] at hB
            refine ⟨⟨by omega, by omega, by omega, by omega, by omega, by omega, by omega⟩, ?_⟩
            unfold rend
            rw [if_neg (by decide), if_neg (by decide), if_neg (by decide), if_pos rfl, if_pos hB.1]
            show [a0, a1, a2, a3, a4] = [120, 97 + (a1 - 97 + 8 * (a2 - 49)) % 8, 49 + (a1 - 97 + 8 * (a2 - 49)) / 8, 61, ltK (kO a4)]
            rw [lt_kO hB.1]
            rw [show a0 = 120 by omega, show 97 + (a1 - 97 + 8 * (a2 - 49)) % 8 = a1 by omega, show 49 + (a1 - 97 + 8 * (a2 - 49)) / 8 = a2 by omega, show a3 = 61 by omega]
      ·
        have eX : prX w = 0 := if_neg cX
        by_cases cF : prS w < prZ w ∧ 97 ≤ wA w (prS w) ∧ wA w (prS w) ≤ 104
        ·
          have eF : prF w = wA w (prS w) - 97 := if_pos cF
          have eI : prI w = prS w + 1 := if_pos cF
          by_cases cR : prI w < prZ w ∧ prK w ≠ 1 ∧ 49 ≤ wA w (prI w) ∧ wA w (prI w) ≤ 56
          ·
            exact absurd eK cR.2.1
          ·
            have eR : prR w = -1 := if_neg cR
            have eJ : prJ w = prI w := if_neg cR
            have h39 : prN w - 2 - prX w = prJ w := h3.symm
            have hn : (w.length : Int) = 5 := by unfold prZ at *; omega
            have eN9 : prN w = 3 := by omega
            unfold prT at hT h2 ⊢
            unfold prZ at *
            rw [eN9] at hT h2 ⊢
            obtain ⟨a0, a1, a2, a3, a4, rfl⟩ := len_5 hn
            have ga : wA [a0, a1, a2, a3, a4] (3 - 2) = a1 := rfl
            have gb : wA [a0, a1, a2, a3, a4] (3 - 1) = a2 := rfl
            rw [ga, gb] at hT ⊢
            have gq : wA [a0, a1, a2, a3, a4] (([a0, a1, a2, a3, a4] : List Int).length - 1 : Int) = a4 := rfl
            rw [gq] at eB qb
            have ge : wA [a0, a1, a2, a3, a4] (([a0, a1, a2, a3, a4] : List Int).length - 2 : Int) = a3 := rfl
            have ce2 := cE.2
            rw [ge] at ce2
            have cf2 := cF.2
            rw [eS, show wA [a0, a1, a2, a3, a4] 0 = a0 from rfl] at cf2 eF
            rw [eK, eF, eR, eX, eB, hT.2.2]
            obtain ⟨⟨t1, t2⟩, ⟨t3, t4⟩, t5⟩ := hT
            have hB := h1 cE
            rw [eB] at hB
            refine ⟨⟨by omega, by omega, by omega, by omega, by omega, by omega, by omega⟩, ?_⟩
            unfold rend
            rw [if_neg (by decide), if_pos (by omega), if_neg (by decide), if_neg (by decide), if_pos hB.1]
            show [a0, a1, a2, a3, a4] = [97 + (a0 - 97), 97 + (a1 - 97 + 8 * (a2 - 49)) % 8, 49 + (a1 - 97 + 8 * (a2 - 49)) / 8, 61, ltK (kO a4)]
            rw [lt_kO hB.1]
            rw [show 97 + (a0 - 97) = a0 by omega, show 97 + (a1 - 97 + 8 * (a2 - 49)) % 8 = a1 by omega, show 49 + (a1 - 97 + 8 * (a2 - 49)) / 8 = a2 by omega, show a3 = 61 by omega]
        ·
          have eF : prF w = -1 := if_neg cF
          have eI : prI w = prS w := if_neg cF
          by_cases cR : prI w < prZ w ∧ prK w ≠ 1 ∧ 49 ≤ wA w (prI w) ∧ wA w (prI w) ≤ 56
          ·
            exact absurd eK cR.2.1
          ·
            have eR : prR w = -1 := if_neg cR
            have eJ : prJ w = prI w := if_neg cR
            have h39 : prN w - 2 - prX w = prJ w := h3.symm
            have hn : (w.length : Int) = 4 := by unfold prZ at *; omega
            have eN9 : prN w = 2 := by omega
            unfold prT at hT h2 ⊢
            unfold prZ at *
            rw [eN9] at hT h2 ⊢
            obtain ⟨a0, a1, a2, a3, rfl⟩ := len_4 hn
            have ga : wA [a0, a1, a2, a3] (2 - 2) = a0 := rfl
            have gb : wA [a0, a1, a2, a3] (2 - 1) = a1 := rfl
            rw [ga, gb] at hT ⊢
            have gq : wA [a0, a1, a2, a3] (([a0, a1, a2, a3] : List Int).length - 1 : Int) = a3 := rfl
            rw [gq] at eB qb
            have ge : wA [a0, a1, a2, a3] (([a0, a1, a2, a3] : List Int).length - 2 : Int) = a2 := rfl
            have ce2 := cE.2
            rw [ge] at ce2
            rw [eK, eF, eR, eX, eB, hT.2.2]
            obtain ⟨⟨t1, t2⟩, ⟨t3, t4⟩, t5⟩ := hT
            have hB := h1 cE
            rw [eB] at hB
            refine ⟨⟨by omega, by omega, by omega, by omega, by omega, by omega, by omega⟩, ?_⟩
            unfold rend
            rw [if_neg (by decide), if_neg (by decide), if_neg (by decide), if_neg (by decide), if_pos hB.1]
            show [a0, a1, a2, a3] = [97 + (a0 - 97 + 8 * (a1 - 49)) % 8, 49 + (a0 - 97 + 8 * (a1 - 49)) / 8, 61, ltK (kO a3)]
            rw [lt_kO hB.1]
            rw [show 97 + (a0 - 97 + 8 * (a1 - 49)) % 8 = a0 by omega, show 49 + (a0 - 97 + 8 * (a1 - 49)) / 8 = a1 by omega, show a2 = 61 by omega]
    ·
      have eB : prB w = 0 := if_neg cE
      have eN : prN w = (w.length : Int) := if_neg cE
      by_cases cX : prS w < prN w - 2 ∧ wA w (prN w - 2 - 1) = 120
      ·
        have eX : prX w = 1 := if_pos cX
        by_cases cF : prS w < prZ w ∧ 97 ≤ wA w (prS w) ∧ wA w (prS w) ≤ 104
        ·
          have eF : prF w = wA w (prS w) - 97 := if_pos cF
          have eI : prI w = prS w + 1 := if_pos cF
          by_cases cR : prI w < prZ w ∧ prK w ≠ 1 ∧ 49 ≤ wA w (prI w) ∧ wA w (prI w) ≤ 56
          ·
            exact absurd eK cR.2.1
          ·
            have eR : prR w = -1 := if_neg cR
            have eJ : prJ w = prI w := if_neg cR
            have h39 : prN w - 2 - prX w = prJ w := h3.symm
            have hn : (w.length : Int) = 4 := by unfold prZ at *; omega
            have eN9 : prN w = 4 := by omega
            unfold prT at hT h2 ⊢
            unfold prZ at *
            rw [eN9] at hT h2 ⊢
            obtain ⟨a0, a1, a2, a3, rfl⟩ := len_4 hn
            have ga : wA [a0, a1, a2, a3] (4 - 2) = a2 := rfl
            have gb : wA [a0, a1, a2, a3] (4 - 1) = a3 := rfl
            rw [ga, gb] at hT ⊢
            have cx2 := cX.2
            rw [eN9, show wA [a0, a1, a2, a3] (4 - 2 - 1) = a1 from rfl] at cx2
            have cf2 := cF.2
            rw [eS, show wA [a0, a1, a2, a3] 0 = a0 from rfl] at cf2 eF
            rw [eK, eF, eR, eX, eB, hT.2.2]
            obtain ⟨⟨t1, t2⟩, ⟨t3, t4⟩, t5⟩ := hT
            refine ⟨⟨by omega, by omega, by omega, by omega, by omega, by omega, by omega⟩, ?_⟩
            unfold rend
            rw [if_neg (by decide), if_pos (by omega), if_neg (by decide), if_pos rfl, if_neg (by decide)]
            show [a0, a1, a2, a3] = [97 + (a0 - 97), 120, 97 + (a2 - 97 + 8 * (a3 - 49)) % 8, 49 + (a2 - 97 + 8 * (a3 - 49)) / 8]
            rw [show 97 + (a0 - 97) = a0 by omega, show a1 = 120 by omega, show 97 + (a2 - 97 + 8 * (a3 - 49)) % 8 = a2 by omega, show 49 + (a2 - 97 + 8 * (a3 - 49)) / 8 = a3 by omega]
        ·
          have eF : prF w = -1 := if_neg cF
          have eI : prI w = prS w := if_neg cF
          by_cases cR : prI w < prZ w ∧ prK w ≠ 1 ∧ 49 ≤ wA w (prI w) ∧ wA w (prI w) ≤ 56
          ·
            exact absurd eK cR.2.1
          ·
            have eR : prR w = -1 := if_neg cR
            have eJ : prJ w = prI w := if_neg cR
            have h39 : prN w - 2 - prX w = prJ w := h3.symm
            have hn : (w.length : Int) = 3 := by unfold prZ at *; omega
            have eN9 : prN w = 3 := by omega
            unfold prT at hT h2 ⊢
            unfold prZ at *
            rw [eN9] at hT h2 ⊢
            obtain ⟨a0, a1, a2, rfl⟩ := len_3 hn
            have ga : wA [a0, a1, a2] (3 - 2) = a1 := rfl
            have gb : wA [a0, a1, a2] (3 - 1) = a2 := rfl
            rw [ga, gb] at hT ⊢
            have cx2 := cX.2
            rw [eN9, show wA [a0, a1, a2] (3 - 2 - 1) = a0 from rfl] at cx2
            rw [eK, eF, eR, eX, eB, hT.2.2]
            obtain ⟨⟨t1, t2⟩, ⟨t3, t4⟩, t5⟩ := hT
            refine ⟨⟨by omega, by omega, by omega, by omega, by omega, by omega, by omega⟩, ?_⟩
            unfold rend
            rw [if_neg (by decide), if_neg (by decide), if_neg (by decide), if_pos rfl, if_neg (by decide)]
            show [a0, a1, a2] = [120, 97 + (a1 - 97 + 8 * (a2 - 49)) % 8, 49 + (a1 - 97 + 8 * (a2 - 49)) / 8]
            rw [show a0 = 120 by omega, show 97 + (a1 - 97 + 8 * (a2 - 49)) % 8 = a1 by omega, show 49 + (a1 - 97 + 8 * (a2 - 49)) / 8 = a2 by omega]
      ·
        have eX : prX w = 0 := if_neg cX
        by_cases cF : prS w < prZ w ∧ 97 ≤ wA w (prS w) ∧ wA w (prS w) ≤ 104
        ·
          have eF : prF w = wA w (prS w) - 97 := if_pos cF
          have eI : prI w = prS w + 1 := if_pos cF
          by_cases cR : prI w < prZ w ∧ prK w ≠ 1 ∧ 49 ≤ wA w (prI w) ∧ wA w (prI w) ≤ 56
          ·
            exact absurd eK cR.2.1
          ·
            have eR : prR w = -1 := if_neg cR
            have eJ : prJ w = prI w := if_neg cR
            have h39 : prN w - 2 - prX w = prJ w := h3.symm
            have hn : (w.length : Int) = 3 := by unfold prZ at *; omega
            have eN9 : prN w = 3 := by omega
            unfold prT at hT h2 ⊢
            unfold prZ at *
            rw [eN9] at hT h2 ⊢
            obtain ⟨a0, a1, a2, rfl⟩ := len_3 hn
            have ga : wA [a0, a1, a2] (3 - 2) = a1 := rfl
            have gb : wA [a0, a1, a2] (3 - 1) = a2 := rfl
            rw [ga, gb] at hT ⊢
            have cf2 := cF.2
            rw [eS, show wA [a0, a1, a2] 0 = a0 from rfl] at cf2 eF
            rw [eK, eF, eR, eX, eB, hT.2.2]
            obtain ⟨⟨t1, t2⟩, ⟨t3, t4⟩, t5⟩ := hT
            refine ⟨⟨by omega, by omega, by omega, by omega, by omega, by omega, by omega⟩, ?_⟩
            unfold rend
            rw [if_neg (by decide), if_pos (by omega), if_neg (by decide), if_neg (by decide), if_neg (by decide)]
            show [a0, a1, a2] = [97 + (a0 - 97), 97 + (a1 - 97 + 8 * (a2 - 49)) % 8, 49 + (a1 - 97 + 8 * (a2 - 49)) / 8]
            rw [show 97 + (a0 - 97) = a0 by omega, show 97 + (a1 - 97 + 8 * (a2 - 49)) % 8 = a1 by omega, show 49 + (a1 - 97 + 8 * (a2 - 49)) / 8 = a2 by omega]
        ·
          have eF : prF w = -1 := if_neg cF
          have eI : prI w = prS w := if_neg cF
          by_cases cR : prI w < prZ w ∧ prK w ≠ 1 ∧ 49 ≤ wA w (prI w) ∧ wA w (prI w) ≤ 56
          ·
            exact absurd eK cR.2.1
          ·
            have eR : prR w = -1 := if_neg cR
            have eJ : prJ w = prI w := if_neg cR
            have h39 : prN w - 2 - prX w = prJ w := h3.symm
            have hn : (w.length : Int) = 2 := by unfold prZ at *; omega
            have eN9 : prN w = 2 := by omega
            unfold prT at hT h2 ⊢
            unfold prZ at *
            rw [eN9] at hT h2 ⊢
            obtain ⟨a0, a1, rfl⟩ := len_2 hn
            have ga : wA [a0, a1] (2 - 2) = a0 := rfl
            have gb : wA [a0, a1] (2 - 1) = a1 := rfl
            rw [ga, gb] at hT ⊢
            rw [eK, eF, eR, eX, eB, hT.2.2]
            obtain ⟨⟨t1, t2⟩, ⟨t3, t4⟩, t5⟩ := hT
            refine ⟨⟨by omega, by omega, by omega, by omega, by omega, by omega, by omega⟩, ?_⟩
            unfold rend
            rw [if_neg (by decide), if_neg (by decide), if_neg (by decide), if_neg (by decide), if_neg (by decide)]
            show [a0, a1] = [97 + (a0 - 97 + 8 * (a1 - 49)) % 8, 49 + (a0 - 97 + 8 * (a1 - 49)) / 8]
            rw [show 97 + (a0 - 97 + 8 * (a1 - 49)) % 8 = a0 by omega, show 49 + (a0 - 97 + 8 * (a1 - 49)) / 8 = a1 by omega]
end
section
/-- the characters of a text that stands in the class -/
noncomputable def strL (k : Nat) : List Int := (zSb.getD k []).map Int32.toInt
theorem str_all : ∀ k, k < 29 → zSl.getD k 0 = (zSb.getD k []).length ∧ (zSb.getD k []).length ≤ 40 ∧ ∀ c ∈ zSb.getD k [], ((c &&& (255 : Int32)).toUInt32 % 65536).toInt32 = c ∧ 0 ≤ c.toInt ∧ c.toInt ≤ 127 := by decide +kernel
theorem str_len {k : Nat} (h : k < 29) : (strL k).length = zSl.getD k 0 := by
  unfold strL
  rw [List.length_map, (str_all k h).1]
theorem str_c {k i : Nat} (h : k < 29) (hi : i < zSl.getD k 0) : (zSb.getD k []).getD i 0 ∈ zSb.getD k [] ∧ (strL k).getD i 0 = ((zSb.getD k []).getD i 0).toInt := by
  have h1 : i < (zSb.getD k []).length := by rw [← (str_all k h).1]; exact hi
  have e : (zSb.getD k []).getD i 0 = (zSb.getD k [])[i] := by
    rw [List.getD_eq_getElem?_getD, List.getElem?_eq_getElem h1]
    rfl
  refine ⟨by rw [e]; exact List.getElem_mem h1, ?_⟩
  unfold strL
  rw [e, List.getD_eq_getElem?_getD, List.getElem?_map, List.getElem?_eq_getElem h1]
  rfl
section STR
variable {S : ZS} {x0 : Nat} {x1 x2 : Int32} {o : Int32 × ZS}
theorem pc_J0_coder_7d493 (hf : f_J0_coder_7d493 x0 S = some o) : o.1 = 0 := by
  have hf : f_J0_coder_7d493_0 x0 S = some o := hf
  unfold f_J0_coder_7d493_0 at hf
  rcases m_ifE hf with ⟨c1, hf⟩ | ⟨c1, hf⟩
  · skip
    replace c1 := ti_eqP (a := (1 : Int32)) (b := (0 : Int32)) c1 (show (1 : Int32).toInt = 1 from rfl) (show (0 : Int32).toInt = 0 from rfl)
    omega
  · skip
    replace c1 := ti_eqN (a := (1 : Int32)) (b := (0 : Int32)) c1 (show (1 : Int32).toInt = 1 from rfl) (show (0 : Int32).toInt = 0 from rfl)
    obtain ⟨-, hf⟩ := m_chkE hf
    unfold f_J0_coder_7d493_14 at hf
    obtain ⟨-, hf⟩ := m_chkE hf
    cases hf
    try dsimp only
    try rfl
theorem pc_J0_isLatin1_aae02 (hf : f_J0_isLatin1_aae02 x0 S = some o) : o.1 = 1 := by
  have hf : f_J0_isLatin1_aae02_0 x0 S = some o := hf
  unfold f_J0_isLatin1_aae02_0 at hf
  rcases m_ifE hf with ⟨c1, hf⟩ | ⟨c1, hf⟩
  · skip
    replace c1 := ti_eqP (a := (1 : Int32)) (b := (0 : Int32)) c1 (show (1 : Int32).toInt = 1 from rfl) (show (0 : Int32).toInt = 0 from rfl)
    omega
  · skip
    replace c1 := ti_eqN (a := (1 : Int32)) (b := (0 : Int32)) c1 (show (1 : Int32).toInt = 1 from rfl) (show (0 : Int32).toInt = 0 from rfl)
    obtain ⟨-, hf⟩ := m_chkE hf
    rcases m_ifE hf with ⟨c2, hf⟩ | ⟨c2, hf⟩
    · skip
      replace c2 := ti_eqP (a := (0 : Int32)) (b := (0 : Int32)) c2 (show (0 : Int32).toInt = 0 from rfl) (show (0 : Int32).toInt = 0 from rfl)
      unfold f_J0_isLatin1_aae02_18 at hf
      obtain ⟨-, hf⟩ := m_chkE hf
      cases hf
      try dsimp only
      try rfl
    · skip
      replace c2 := ti_eqN (a := (0 : Int32)) (b := (0 : Int32)) c2 (show (0 : Int32).toInt = 0 from rfl) (show (0 : Int32).toInt = 0 from rfl)
      exact absurd rfl c2
theorem pc_J0_length_8abf5 (hf : f_J0_length_8abf5 x0 S = some o) : x0 < 29 ∧ o.1.toInt = ((strL x0).length : Int) := by
  have hf : f_J0_length_8abf5_0 x0 S = some o := hf
  unfold f_J0_length_8abf5_0 at hf
  obtain ⟨k0, hf⟩ := m_chkE hf
  obtain ⟨-, hf⟩ := m_chkE hf
  obtain ⟨v1, e1, hf⟩ := m_bndE hf
  obtain ⟨-, hf⟩ := m_chkE hf
  obtain ⟨r2, h2, hf⟩ := m_calR hf (fun _ h => ro_J0_coder_7d493 h)
  have p2 := pc_J0_coder_7d493 h2
  dsimp only at p2 hf
  obtain ⟨v3, e3, hf⟩ := m_bndE hf
  cases hf
  refine ⟨k0, ?_⟩
  have hl := (str_all x0 k0).2.1
  rw [← (str_all x0 k0).1] at hl
  rw [str_len k0, e3, p2, e1]
  have key : ∀ n : Nat, n ≤ 40 → ((Int32.ofNat n) >>> ((0 : Int32) &&& 31)).toInt = (n : Int) := by decide +kernel
  exact key _ hl
theorem pc_J0_charAt_5068e (hf : f_J0_charAt_5068e x0 x1 S = some o) : x0 < 29 ∧ 0 ≤ x1.toInt ∧ x1.toInt < ((strL x0).length : Int) ∧ o.1.toInt = (strL x0).getD x1.toInt.toNat 0 := by
  have hf : f_J0_charAt_5068e_0 x0 x1 S = some o := hf
  unfold f_J0_charAt_5068e_0 at hf
  obtain ⟨k0, hf⟩ := m_chkE hf
  obtain ⟨r1, h1, hf⟩ := m_calR hf (fun _ h => ro_J0_isLatin1_aae02 h)
  dsimp only at hf
  rcases m_ifE hf with ⟨c1, hf⟩ | ⟨c1, hf⟩
  · cases hf
  · obtain ⟨-, hf⟩ := m_chkE hf
    obtain ⟨r2, h2, hf⟩ := m_calR hf (fun _ h => ro_J1_charAt_3b067 h)
    dsimp only at hf
    obtain ⟨-, hf⟩ := m_chkE hf
    cases hf
    have hf : f_J1_charAt_3b067_0 x0 x1 S = some (r2, S) := h2
    unfold f_J1_charAt_3b067_0 at hf
    obtain ⟨-, hf⟩ := m_chkE hf
    obtain ⟨v1, e1, hf⟩ := m_bndE hf
    obtain ⟨r3, h3, hf⟩ := m_calR hf (fun _ h => ro_J0_checkIndex_df160 h)
    dsimp only at hf
    obtain ⟨-, hf⟩ := m_chkE hf
    obtain ⟨ki, hf⟩ := m_chkE hf
    obtain ⟨v3, e3, hf⟩ := m_bndE hf
    obtain ⟨v4, e4, hf⟩ := m_bndE hf
    obtain ⟨v5, e5, hf⟩ := m_bndE hf
    obtain ⟨-, hf⟩ := m_chkE hf
    have k1 : 0 ≤ x1.toInt := by
      apply Classical.byContradiction
      intro h
      exact ki (Or.inl (Int32.lt_iff_toInt_lt.2 (by have z : (0 : Int32).toInt = 0 := rfl; omega)))
    have k2 : x1.toInt.toNat < zSl.getD x0 0 := by
      apply Classical.byContradiction
      intro h
      exact ki (Or.inr (by show zSl.getD x0 0 ≤ x1.toInt.toNat; omega))
    obtain ⟨m1, m2⟩ := str_c k0 k2
    obtain ⟨m3, m4, m5⟩ := (str_all x0 k0).2.2 _ m1
    cases hf
    refine ⟨k0, k1, by rw [str_len k0]; omega, ?_⟩
    rw [m2, e5, e4, e3]
    exact congrArg Int32.toInt m3
/-- whether a text stands in a row of characters, from a place on -/
noncomputable def HLD (ch : Int → Int) (n : Int) (k : Nat) (a : Int) : Prop := 0 ≤ a ∧ a + ((strL k).length : Int) ≤ n ∧ ∀ i : Int, 0 ≤ i → i < ((strL k).length : Int) → ch (a + i) = (strL k).getD i.toNat 0
theorem hld_21 {x1 : Nat} (h2 : 0 ≤ x2.toInt ∧ x2.toInt ≤ 100000) (hl : x2.toInt + ((strL x1).length : Int) ≤ (zI S 1 x0).toInt) (hs : (strL x1).length ≤ 40) : ∀ (n : Nat) (x3 : Int32), 0 ≤ x3.toInt ∧ x3.toInt ≤ ((strL x1).length : Int) → (∀ i : Int, 0 ≤ i → i < x3.toInt → rwC S x0 (x2.toInt + i) = (strL x1).getD i.toNat 0) → f_X6_holds_21 n x0 x1 x2 x3 S = some o → (o.1.toInt = 0 ∨ o.1.toInt = 1) ∧ (o.1.toInt = 1 ↔ ∀ i : Int, 0 ≤ i → i < ((strL x1).length : Int) → rwC S x0 (x2.toInt + i) = (strL x1).getD i.toNat 0) := by
  intro n
  induction n with
  | zero => intro x3 _ _ hf; cases hf
  | succ n ih =>
    intro x3 h3 hp hf
    have hf : f_X6_holds_21s (f_X6_holds_21 n) x0 x1 x2 x3 S = some o := hf
    unfold f_X6_holds_21s at hf
    obtain ⟨-, hf⟩ := m_chkE hf
    obtain ⟨r1, h_r1, hf⟩ := m_calR hf (fun _ h => ro_J0_length_8abf5 h)
    dsimp only at hf
    have p_r1 := pc_J0_length_8abf5 h_r1
    dsimp only at p_r1
    have q1 := p_r1.2
    rcases m_ifE hf with ⟨c1, hf⟩ | ⟨c1, hf⟩
    · skip
      replace c1 := ti_leP (a := r1) (b := x3) c1 rfl rfl
      obtain ⟨-, hf⟩ := m_chkE hf
      cases hf
      try dsimp only
      exact ⟨Or.inr rfl, fun _ i i1 i2 => hp i i1 (by omega), fun _ => rfl⟩
    · skip
      replace c1 := ti_leN (a := r1) (b := x3) c1 rfl rfl
      obtain ⟨-, hf⟩ := m_chkE hf
      obtain ⟨b2, h_b2, hf⟩ := m_calE hf
      obtain ⟨v3, e_v3, hf⟩ := m_bndE hf
      have t_v3 : v3.toInt = x2.toInt + x3.toInt := ti_add e_v3 rfl rfl (by omega) (by omega)
      obtain ⟨-, hf⟩ := m_chkE hf
      obtain ⟨-, hf⟩ := m_chkE hf
      obtain ⟨v4, e_v4, hf⟩ := m_bndE hf
      have c4 := rw_at (x := v3) h_b2 e_v4 (by omega) (by omega)
      rw [t_v3] at c4
      obtain ⟨-, hf⟩ := m_chkE hf
      obtain ⟨r5, h_r5, hf⟩ := m_calR hf (fun _ h => ro_J0_charAt_5068e h)
      dsimp only at hf
      have p_r5 := pc_J0_charAt_5068e h_r5
      dsimp only at p_r5
      rcases m_ifE hf with ⟨c2, hf⟩ | ⟨c2, hf⟩
      · skip
        replace c2 := ti_eqP (a := v4) (b := r5) c2 rfl rfl
        obtain ⟨v6, e_v6, hf⟩ := m_bndE hf
        have t_v6 : v6.toInt = x3.toInt + 1 := ti_add e_v6 rfl (show (1 : Int32).toInt = 1 from rfl) (by omega) (by omega)
        refine ih v6 (by omega) (fun i i1 i2 => ?_) hf
        by_cases e : i = x3.toInt
        · rw [e, ← c4, ← p_r5.2.2.2]; exact c2
        · exact hp i i1 (by omega)
      · skip
        replace c2 := ti_eqN (a := v4) (b := r5) c2 rfl rfl
        obtain ⟨-, hf⟩ := m_chkE hf
        cases hf
        try dsimp only
        refine ⟨Or.inl rfl, fun h => absurd h (by decide), fun h => absurd ?_ c2⟩
        have := h x3.toInt h3.1 (by omega)
        rw [← c4, ← p_r5.2.2.2] at this
        exact this
theorem pc_X6_holds {x1 : Nat} (hf : f_X6_holds x0 x1 x2 S = some o) : x2.toInt ≤ 100000 → (zI S 1 x0).toInt ≤ 100000 → (o.1.toInt = 0 ∨ o.1.toInt = 1) ∧ (o.1.toInt = 1 ↔ HLD (rwC S x0) (zI S 1 x0).toInt x1 x2.toInt) := by
  intro hb hl
  have hf : f_X6_holds_0 x0 x1 x2 S = some o := hf
  have z0 : (0 : Int32).toInt = 0 := rfl
  unfold HLD
  unfold f_X6_holds_0 at hf
  rcases m_ifE hf with ⟨c1, hf⟩ | ⟨c1, hf⟩
  · skip
    replace c1 := ti_ltP (a := x2) (b := (0 : Int32)) c1 rfl (show (0 : Int32).toInt = 0 from rfl)
    unfold f_X6_holds_17 at hf
    obtain ⟨-, hf⟩ := m_chkE hf
    cases hf
    try dsimp only
    exact ⟨Or.inl rfl, fun h => absurd h (by decide), fun h => by omega⟩
  · skip
    replace c1 := ti_ltN (a := x2) (b := (0 : Int32)) c1 rfl (show (0 : Int32).toInt = 0 from rfl)
    obtain ⟨-, hf⟩ := m_chkE hf
    obtain ⟨r1, h_r1, hf⟩ := m_calR hf (fun _ h => ro_J0_length_8abf5 h)
    dsimp only at hf
    have p_r1 := pc_J0_length_8abf5 h_r1
    dsimp only at p_r1
    obtain ⟨q0, q1⟩ := p_r1
    have q2 : (strL x1).length ≤ 40 := by
      have := (str_all x1 q0).2.1
      rw [str_len q0, (str_all x1 q0).1]; exact this
    obtain ⟨v2, e_v2, hf⟩ := m_bndE hf
    have t_v2 : v2.toInt = x2.toInt + r1.toInt := ti_add e_v2 rfl rfl (by omega) (by omega)
    obtain ⟨-, hf⟩ := m_chkE hf
    rcases m_ifE hf with ⟨c2, hf⟩ | ⟨c2, hf⟩
    · skip
      replace c2 := ti_leP (a := v2) (b := (zI S 1 x0)) c2 rfl rfl
      obtain ⟨g1, g2⟩ := hld_21 ⟨by omega, hb⟩ (by omega) q2 mFuel 0 (by omega) (fun i i1 i2 => by omega) hf
      exact ⟨g1, g2.trans ⟨fun h => ⟨by omega, by omega, h⟩, fun h => h.2.2⟩⟩
    · skip
      replace c2 := ti_leN (a := v2) (b := (zI S 1 x0)) c2 rfl rfl
      unfold f_X6_holds_17 at hf
      obtain ⟨-, hf⟩ := m_chkE hf
      cases hf
      try dsimp only
      exact ⟨Or.inl rfl, fun h => absurd h (by decide), fun h => by omega⟩
/-- a row holds a word -/
noncomputable def RWL (S : ZS) (b : Nat) (w : List Int) : Prop := (zI S 1 b).toInt = (w.length : Int) ∧ ∀ i, rwC S b i = wA w i
theorem wA_out {w : List Int} {i : Int} (h : i < 0 ∨ (w.length : Int) ≤ i) : wA w i = 0 := by
  unfold wA
  by_cases c : 0 ≤ i
  · rw [if_pos c, List.getD_eq_getElem?_getD, List.getElem?_eq_none (by omega)]
    rfl
  · rw [if_neg c]
theorem wA_in {w : List Int} {i : Nat} (h : i < w.length) : wA w (i : Int) = w[i] := by
  unfold wA
  rw [if_pos (by omega), List.getD_eq_getElem?_getD, List.getElem?_eq_getElem (by omega)]
  rfl
theorem wA_ext {w u : List Int} (hl : w.length = u.length) (h : ∀ i : Int, 0 ≤ i → i < (u.length : Int) → wA w i = wA u i) : w = u := by
  refine List.ext_getElem hl (fun i h1 h2 => ?_)
  have := h (i : Int) (by omega) (by omega)
  rw [wA_in h1, wA_in h2] at this
  exact this
theorem pc_X6_is {x1 : Nat} (hf : f_X6_is x0 x1 S = some o) : ∀ w, RWL S x0 w → (zI S 1 x0).toInt ≤ 100000 → (o.1.toInt = 0 ∨ o.1.toInt = 1) ∧ (o.1.toInt = 1 ↔ w = strL x1) := by
  intro w hw hl
  have hf : f_X6_is_0 x0 x1 S = some o := hf
  have z0 : (0 : Int32).toInt = 0 := rfl
  obtain ⟨w1, w2⟩ := hw
  unfold f_X6_is_0 at hf
  obtain ⟨-, hf⟩ := m_chkE hf
  obtain ⟨-, hf⟩ := m_chkE hf
  obtain ⟨r1, h_r1, hf⟩ := m_calR hf (fun _ h => ro_J0_length_8abf5 h)
  dsimp only at hf
  have p_r1 := pc_J0_length_8abf5 h_r1
  dsimp only at p_r1
  obtain ⟨q0, q1⟩ := p_r1
  rcases m_ifE hf with ⟨c1, hf⟩ | ⟨c1, hf⟩
  · skip
    replace c1 := ti_eqP (a := (zI S 1 x0)) (b := r1) c1 rfl rfl
    obtain ⟨-, hf⟩ := m_chkE hf
    obtain ⟨r2, h_r2, hf⟩ := m_calR hf (fun _ h => ro_X6_holds h)
    dsimp only at hf
    have p_r2 := pc_X6_holds h_r2
    dsimp only at p_r2
    obtain ⟨q2, q3⟩ := p_r2 (by omega) hl
    have q4 : r2.toInt = 1 ↔ w = strL x1 := by
      rw [q3]
      unfold HLD
      constructor
      · rintro ⟨-, -, g⟩
        refine wA_ext (by omega) (fun i i1 i2 => ?_)
        have := g i i1 i2
        rw [z0, Int.zero_add, w2] at this
        rw [this]
        unfold wA
        rw [if_pos i1]
      · intro g
        subst g
        refine ⟨by omega, by omega, fun i i1 i2 => ?_⟩
        rw [z0, Int.zero_add, w2]
        unfold wA
        rw [if_pos i1]
    rcases m_ifE hf with ⟨c2, hf⟩ | ⟨c2, hf⟩
    · skip
      replace c2 := ti_eqP (a := r2) (b := (0 : Int32)) c2 rfl (show (0 : Int32).toInt = 0 from rfl)
      unfold f_X6_is_24 at hf
      unfold f_X6_is_25 at hf
      obtain ⟨-, hf⟩ := m_chkE hf
      cases hf
      try dsimp only
      exact ⟨Or.inl rfl, fun h => absurd h (by decide), fun h => by have := q4.2 h; omega⟩
    · skip
      replace c2 := ti_eqN (a := r2) (b := (0 : Int32)) c2 rfl (show (0 : Int32).toInt = 0 from rfl)
      unfold f_X6_is_25 at hf
      obtain ⟨-, hf⟩ := m_chkE hf
      cases hf
      try dsimp only
      exact ⟨Or.inr rfl, fun _ => q4.1 (by omega), fun _ => rfl⟩
  · skip
    replace c1 := ti_eqN (a := (zI S 1 x0)) (b := r1) c1 rfl rfl
    unfold f_X6_is_24 at hf
    unfold f_X6_is_25 at hf
    obtain ⟨-, hf⟩ := m_chkE hf
    cases hf
    try dsimp only
    refine ⟨Or.inl rfl, fun h => absurd h (by decide), fun h => ?_⟩
    exfalso
    rw [h] at w1
    omega
end STR
section KOF
variable {S : ZS} {o : Int32 × ZS}
theorem p_idx {x0 : Nat} {x3 x4 : Int32} (h3 : x3.toInt ≤ 100) : ∀ (n : Nat) (x5 : Int32), 0 ≤ x5.toInt → (∀ i : Int, 0 ≤ i → i < x5.toInt → (strL x0).getD i.toNat 0 ≠ x4.toInt) → f_J1_indexOfChar_4cfef_7 n x0 x3 x4 x5 S = some o → (o.1.toInt = -1 ∧ ∀ i : Int, 0 ≤ i → i < x3.toInt → (strL x0).getD i.toNat 0 ≠ x4.toInt) ∨ (0 ≤ o.1.toInt ∧ o.1.toInt < x3.toInt ∧ (strL x0).getD o.1.toInt.toNat 0 = x4.toInt ∧ ∀ i : Int, 0 ≤ i → i < o.1.toInt → (strL x0).getD i.toNat 0 ≠ x4.toInt) := by
  intro n
  induction n with
  | zero => intro x5 _ _ hf; cases hf
  | succ n ih =>
    intro x5 h5 hp hf
    have hf : f_J1_indexOfChar_4cfef_7s (f_J1_indexOfChar_4cfef_7 n) x0 x3 x4 x5 S = some o := hf
    unfold f_J1_indexOfChar_4cfef_7s at hf
    rcases m_ifE hf with ⟨c1, hf⟩ | ⟨c1, hf⟩
    · replace c1 := ti_leP (a := x3) (b := x5) c1 rfl rfl
      cases hf
      exact Or.inl ⟨rfl, fun i i1 i2 => hp i i1 (by omega)⟩
    · replace c1 := ti_leN (a := x3) (b := x5) c1 rfl rfl
      obtain ⟨k0, hf⟩ := m_chkE hf
      obtain ⟨ki, hf⟩ := m_chkE hf
      obtain ⟨v1, e1, hf⟩ := m_bndE hf
      have k2 : x5.toInt.toNat < zSl.getD x0 0 := by
        apply Classical.byContradiction
        intro h
        exact ki (Or.inr (by show zSl.getD x0 0 ≤ x5.toInt.toNat; omega))
      have q1 : v1.toInt = (strL x0).getD x5.toInt.toNat 0 := by
        rw [(str_c k0 k2).2, e1]
        rfl
      rcases m_ifE hf with ⟨c2, hf⟩ | ⟨c2, hf⟩
      · cases hf
        exact Or.inr ⟨h5, by omega, by rw [← q1, c2], hp⟩
      · obtain ⟨v2, e2, hf⟩ := m_bndE hf
        have t2 : v2.toInt = x5.toInt + 1 := ti_add e2 rfl (show (1 : Int32).toInt = 1 from rfl) (by omega) (by omega)
        refine ih v2 (by omega) (fun i i1 i2 => ?_) hf
        by_cases e : i = x5.toInt
        · rw [e, ← q1]
          exact fun h => c2 (Int32.toInt_inj.1 h)
        · exact hp i i1 (by omega)
theorem i8_all : ∀ n : Nat, n < 128 → (nI n).toInt8.toInt32 = nI n := by decide +kernel
theorem p_indexOf {x0 : Nat} {x1 : Int32} (h1 : 0 ≤ x1.toInt ∧ x1.toInt ≤ 127) (hk : x0 < 29) (hn : 0 < (strL x0).length) (hf : f_J0_indexOf_0f7a4 x0 x1 S = some o) : (o.1.toInt = -1 ∧ ∀ i : Int, 0 ≤ i → i < ((strL x0).length : Int) → (strL x0).getD i.toNat 0 ≠ x1.toInt) ∨ (0 ≤ o.1.toInt ∧ o.1.toInt < ((strL x0).length : Int) ∧ (strL x0).getD o.1.toInt.toNat 0 = x1.toInt ∧ ∀ i : Int, 0 ≤ i → i < o.1.toInt → (strL x0).getD i.toNat 0 ≠ x1.toInt) := by
  have z0 : (0 : Int32).toInt = 0 := rfl
  have hf : f_J0_indexOf_0f7a4_0 x0 x1 S = some o := hf
  unfold f_J0_indexOf_0f7a4_0 at hf
  obtain ⟨-, hf⟩ := m_chkE hf
  obtain ⟨⟨r1, S1⟩, hf1, hf⟩ := m_calE hf
  cases hf
  have hf : f_J0_indexOf_7cf53_0 x0 x1 0 S = some (r1, S1) := hf1
  unfold f_J0_indexOf_7cf53_0 at hf
  obtain ⟨-, hf⟩ := m_chkE hf
  obtain ⟨r2, h2, hf⟩ := m_calR hf (fun _ h => ro_J0_isLatin1_aae02 h)
  dsimp only at hf
  rcases m_ifE hf with ⟨c1, hf⟩ | ⟨c1, hf⟩
  · cases hf
  · obtain ⟨-, hf⟩ := m_chkE hf
    obtain ⟨-, hf⟩ := m_chkE hf
    obtain ⟨r3, h3, hf⟩ := m_calR hf (fun _ h => ro_J0_length_8abf5 h)
    have p3 := (pc_J0_length_8abf5 h3).2
    dsimp only at hf p3
    obtain ⟨⟨r4, S4⟩, hf4, hf⟩ := m_calE hf
    cases hf
    have hf : f_J1_indexOf_4cfef_0 x0 x1 0 r3 S = some (r4, S4) := hf4
    unfold f_J1_indexOf_4cfef_0 at hf
    obtain ⟨r5, h5, hf⟩ := m_calR hf (fun _ h => ro_J1_canEncode_9a6ad h)
    dsimp only at hf
    have r51 : r5 = 1 := by
      have h5 : f_J1_canEncode_9a6ad_0 x1 S = some (r5, S) := h5
      unfold f_J1_canEncode_9a6ad_0 at h5
      rcases m_ifE h5 with ⟨c2, h5⟩ | ⟨c2, h5⟩
      · replace c2 := ti_ltP (a := x1) (b := (0 : Int32)) c2 rfl rfl
        omega
      · rcases m_ifE h5 with ⟨c3, h5⟩ | ⟨c3, h5⟩
        · replace c3 := ti_ltP (a := (255 : Int32)) (b := x1) c3 (show (255 : Int32).toInt = 255 from rfl) rfl
          omega
        · unfold f_J1_canEncode_9a6ad_16 at h5
          obtain ⟨-, h5⟩ := m_chkE h5
          cases h5
          rfl
    rw [r51] at hf
    rcases m_ifE hf with ⟨c2, hf⟩ | ⟨c2, hf⟩
    · exact absurd c2 (by decide)
    · obtain ⟨v2, e2, hf⟩ := m_bndE hf
      obtain ⟨-, hf⟩ := m_chkE hf
      obtain ⟨v3, e3, hf⟩ := m_bndE hf
      obtain ⟨v4, e4, hf⟩ := m_bndE hf
      have e2' : v2 = 0 := by rw [e2]; rfl
      have hl := (str_all x0 hk).2.1
      have hl2 := (str_all x0 hk).1
      have hl3 := str_len hk
      have t3 : v3.toInt = ((strL x0).length : Int) := by
        rw [e3, hl3]
        have key : ∀ n : Nat, n ≤ 40 → (Int32.ofNat n).toInt = (n : Int) := by decide +kernel
        exact key _ (by omega)
      have e4' : v4.toInt = ((strL x0).length : Int) := by
        rw [e4]
        split <;> omega
      rcases m_ifE hf with ⟨c3, hf⟩ | ⟨c3, hf⟩
      · obtain ⟨⟨r6, S6⟩, hf6, hf⟩ := m_calE hf
        cases hf
        have hf : f_J1_indexOfChar_4cfef_0 x0 x1 v2 v4 S = some (r6, S6) := hf6
        unfold f_J1_indexOfChar_4cfef_0 at hf
        obtain ⟨v7, e7, hf⟩ := m_bndE hf
        have e8 : v7 = x1 := by
          have hx : x1 = nI x1.toInt.toNat := by
            apply Int32.toInt_inj.1
            rw [nI_toInt (by omega)]
            omega
          rw [e7]
          rw [hx]
          exact i8_all _ (by omega)
        rw [e2', e8] at hf
        have g := p_idx (x0 := x0) (x3 := v4) (x4 := x1) (by omega) mFuel 0 (by omega) (fun i i1 i2 => by omega) hf
        rw [e4'] at g
        exact g
      · replace c3 := ti_ltN (a := v2) (b := v4) c3 rfl rfl
        rw [e2'] at c3
        omega
theorem pc_X11_kindOf {x0 : Int32} (hf : f_X11_kindOf x0 S = some o) : (0 ≤ x0.toInt ∧ x0.toInt ≤ 127) → o.1.toInt = kO x0.toInt := by
  intro h0
  have hf : f_X11_kindOf_0 x0 S = some o := hf
  unfold f_X11_kindOf_0 at hf
  obtain ⟨-, hf⟩ := m_chkE hf
  obtain ⟨⟨r1, S1⟩, h1, hf⟩ := m_calE hf
  have p1 := p_indexOf h0 (by decide) (by decide) h1
  dsimp only at p1 hf
  obtain ⟨v2, e2, hf⟩ := m_bndE hf
  cases hf
  have hl : ((strL 9).length : Int) = 6 := rfl
  rw [hl] at p1
  have t2 : v2.toInt = r1.toInt + 1 := ti_add e2 rfl (show (1 : Int32).toInt = 1 from rfl) (by omega) (by omega)
  show v2.toInt = _
  rw [t2]
  have s0 : (strL 9).getD 0 0 = 80 := rfl
  have s1 : (strL 9).getD 1 0 = 78 := rfl
  have s2 : (strL 9).getD 2 0 = 66 := rfl
  have s3 : (strL 9).getD 3 0 = 82 := rfl
  have s4 : (strL 9).getD 4 0 = 81 := rfl
  have s5 : (strL 9).getD 5 0 = 75 := rfl
  unfold kO
  rcases p1 with ⟨a, b⟩ | ⟨a1, a2, a3, a4⟩
  · have b0 := b 0 (by decide) (by decide)
    have b1 := b 1 (by decide) (by decide)
    have b2 := b 2 (by decide) (by decide)
    have b3 := b 3 (by decide) (by decide)
    have b4 := b 4 (by decide) (by decide)
    have b5 := b 5 (by decide) (by decide)
    rw [show Int.toNat 0 = 0 from rfl, s0] at b0
    rw [show Int.toNat 1 = 1 from rfl, s1] at b1
    rw [show Int.toNat 2 = 2 from rfl, s2] at b2
    rw [show Int.toNat 3 = 3 from rfl, s3] at b3
    rw [show Int.toNat 4 = 4 from rfl, s4] at b4
    rw [show Int.toNat 5 = 5 from rfl, s5] at b5
    omega
  · have e : r1.toInt = 0 ∨ r1.toInt = 1 ∨ r1.toInt = 2 ∨ r1.toInt = 3 ∨ r1.toInt = 4 ∨ r1.toInt = 5 := by omega
    rcases e with e | e | e | e | e | e <;> rw [e] at a3 ⊢
    · rw [show Int.toNat 0 = 0 from rfl, s0] at a3; omega
    · rw [show Int.toNat 1 = 1 from rfl, s1] at a3; omega
    · rw [show Int.toNat 2 = 2 from rfl, s2] at a3; omega
    · rw [show Int.toNat 3 = 3 from rfl, s3] at a3; omega
    · rw [show Int.toNat 4 = 4 from rfl, s4] at a3; omega
    · rw [show Int.toNat 5 = 5 from rfl, s5] at a3; omega
end KOF
end
section
/-- only the row b changes -/
noncomputable def RWF (S S' : ZS) (b : Nat) : Prop := (∀ a, zK S a < 18 → zK S' a = zK S a ∧ zN S' a = zN S a) ∧ (∀ a j, zK S a < 18 → a ≠ b → zI S' j a = zI S j a ∧ zP S' j a = zP S j a) ∧ (∀ j, j ≠ 1 → zI S' j b = zI S j b) ∧ (∀ j, j ≠ 0 → zP S' j b = zP S j b) ∧ (∀ a, zK S a < 18 → zK S a ≠ 13 → zA S' a = zA S a) ∧ (∀ a, zK S a < 18 → zB S' a = zB S a) ∧ (∀ a c, zK S a = 6 → a ≠ b → zP S 0 a = some c → zA S' c = zA S c)
section RWS
variable {S S1 S2 S' : ZS} {b : Nat} {w : List Int}
theorem rwf_0 : RWF S S b := ⟨fun _ _ => ⟨rfl, rfl⟩, fun _ _ _ _ => ⟨rfl, rfl⟩, fun _ _ => rfl, fun _ _ => rfl, fun _ _ _ => rfl, fun _ _ => rfl, fun _ _ _ _ _ => rfl⟩
theorem rwf_t (h : RWF S S1 b) (g : RWF S1 S2 b) : RWF S S2 b := by
  obtain ⟨h1, h2, h3, h4, h5, h6, h7⟩ := h
  obtain ⟨g1, g2, g3, g4, g5, g6, g7⟩ := g
  have k : ∀ a, zK S a < 18 → zK S1 a < 18 := fun a ha => by rw [(h1 a ha).1]; exact ha
  refine ⟨fun a ha => ⟨(g1 a (k a ha)).1.trans (h1 a ha).1, (g1 a (k a ha)).2.trans (h1 a ha).2⟩, fun a j ha hb => ⟨(g2 a j (k a ha) hb).1.trans (h2 a j ha hb).1, (g2 a j (k a ha) hb).2.trans (h2 a j ha hb).2⟩, fun j hj => (g3 j hj).trans (h3 j hj), fun j hj => (g4 j hj).trans (h4 j hj), fun a ha hn => (g5 a (k a ha) (by rw [(h1 a ha).1]; exact hn)).trans (h5 a ha hn), fun a ha => (g6 a (k a ha)).trans (h6 a ha), fun a c ha hb hc => ?_⟩
  have ha2 : zK S a < 18 := by rw [ha]; decide
  exact (g7 a c (by rw [(h1 a ha2).1]; exact ha) hb (by rw [(h2 a 0 ha2 hb).2]; exact hc)).trans (h7 a c ha hb hc)
/-- another row stays -/
theorem rwf_rw {a : Nat} (h : RWF S S' b) (ha : zK S a = 6) (hb : a ≠ b) : rwC S' a = rwC S a := by
  obtain ⟨h1, h2, h3, h4, h5, h6, h7⟩ := h
  have ha2 : zK S a < 18 := by rw [ha]; decide
  funext i
  unfold rwC
  rw [(h2 a 1 ha2 hb).1, (h2 a 0 ha2 hb).2]
  cases hc : zP S 0 a with
  | none => rfl
  | some c =>
    have e := h7 a c ha hb hc
    simp only [e]
theorem rwf_mB {a c : Nat} (h : RWF S S' b) (ha : zK S a = 0) (hk : zK S b = 6) (hc : zP S 0 a = some c) (hk2 : zK S c = 14) : mCb S' a = mCb S a := by
  obtain ⟨h1, h2, h3, h4, h5, h6, h7⟩ := h
  have ha2 : zK S a < 18 := by rw [ha]; decide
  have hb : a ≠ b := fun e => by rw [e, hk] at ha; exact absurd ha (by decide)
  exact mB_e (h2 a 0 ha2 hb).2 (fun d hd => by
    rw [hc] at hd
    cases hd
    exact h5 c (by rw [hk2]; decide) (by rw [hk2]; decide))
theorem wA_app {w : List Int} {c i : Int} : wA (w ++ [c]) i = if i = (w.length : Int) then c else wA w i := by
  by_cases e : i = (w.length : Int)
  · rw [if_pos e, e]
    unfold wA
    rw [if_pos (by omega), Int.toNat_natCast, List.getD_eq_getElem?_getD, List.getElem?_append_right (Nat.le_refl _), Nat.sub_self]
    rfl
  · rw [if_neg e]
    by_cases h0 : i < 0
    · rw [wA_out (Or.inl h0), wA_out (Or.inl h0)]
    · by_cases h1 : (w.length : Int) < i
      · rw [wA_out (w := w) (Or.inr (by omega)), wA_out (Or.inr (by rw [List.length_append]; show (((w.length + 1 : Nat)) : Int) ≤ i; omega))]
      · unfold wA
        rw [if_pos (by omega), if_pos (by omega), List.getD_eq_getElem?_getD, List.getD_eq_getElem?_getD, List.getElem?_append_left (by omega)]
theorem put_43 {x0 : Nat} {x1 y : Int32} (hk : zK S x0 = 6) (hw : RWL S x0 w) (hl : (w.length : Int) ≤ 100000) (h1 : 0 ≤ x1.toInt ∧ x1.toInt ≤ 65535) (hu : ∀ a c, zK S a = 6 → a ≠ x0 → zP S 0 a = some c → zP S 0 x0 ≠ some c ∨ 18 ≤ zK S c) (hf : d_X6_put_43 x0 x1 S = some (y, S')) : RWL S' x0 (w ++ [x1.toInt]) ∧ RWF S S' x0 := by
  obtain ⟨w1, w2⟩ := hw
  unfold d_X6_put_43 at hf
  obtain ⟨-, hf⟩ := m_chkE hf
  obtain ⟨c, hc, hf⟩ := m_calE hf
  obtain ⟨-, hf⟩ := m_chkE hf
  obtain ⟨kc, hf⟩ := m_chkE hf
  obtain ⟨ki, hf⟩ := m_chkE hf
  obtain ⟨S2, e2, hf⟩ := m_bndE hf
  obtain ⟨-, hf⟩ := m_chkE hf
  obtain ⟨v3, e3, hf⟩ := m_bndE hf
  obtain ⟨-, hf⟩ := m_chkE hf
  obtain ⟨S4, e4, hf⟩ := m_bndE hf
  have ef := Option.some.inj hf
  have eS : S' = S4 := (congrArg Prod.snd ef).symm
  have i2 : zI S2 = zI S := by rw [e2]; rfl
  have t3 : v3.toInt = (w.length : Int) + 1 := by
    have := ti_add (c := v3) (a := zI S2 1 x0) (b := 1) e3 rfl (show (1 : Int32).toInt = 1 from rfl) (by rw [i2, w1]; omega) (by rw [i2, w1]; omega)
    rw [this, i2, w1]
  have nr : vp_nar .char x1 = x1 := nar_c h1.1 h1.2
  rw [nr] at e2
  rw [eS]
  have a4 : zA S4 c = upd (zA S c) (zI S 1 x0).toNatClampNeg x1 := by rw [e4, e2]; exact va_up_self _ _ _
  have p4 : zP S4 = zP S := by rw [e4, e2]; rfl
  have l4 : zI S4 1 x0 = v3 := by rw [e4]; exact zI_self _ _ _ _
  have nn : (zI S 1 x0).toNatClampNeg = w.length := by
    show (zI S 1 x0).toInt.toNat = w.length
    rw [w1]
    exact Int.toNat_natCast _
  refine ⟨⟨?_, fun i => ?_⟩, ?_⟩
  · rw [l4, t3, List.length_append]
    show _ = (((w.length + 1 : Nat)) : Int)
    omega
  · rw [wA_app, ← w2 i]
    unfold rwC
    rw [l4, t3, p4, hc, w1]
    show (if 0 ≤ i ∧ i < (w.length : Int) + 1 then (zA S4 c i.toNat).toInt else 0) = if i = (w.length : Int) then x1.toInt else if 0 ≤ i ∧ i < (w.length : Int) then (zA S c i.toNat).toInt else 0
    rw [a4, nn]
    by_cases g : i = (w.length : Int)
    · rw [if_pos (by omega), if_pos g, g, Int.toNat_natCast, upd_self]
    · rw [if_neg g]
      by_cases g2 : 0 ≤ i ∧ i < (w.length : Int)
      · rw [if_pos (by omega), if_pos g2, upd_ne (by omega)]
      · rw [if_neg (by omega), if_neg g2]
  · refine ⟨fun a _ => ⟨by rw [e4, e2]; rfl, by rw [e4, e2]; rfl⟩, fun a j _ hb => ⟨by rw [e4, zI_b hb, i2], by rw [p4]⟩, fun j hj => by rw [e4, zI_j hj, i2], fun j _ => by rw [p4], fun a _ hn => ?_, fun a _ => by rw [e4, e2]; rfl, fun a d ha hb hd => ?_⟩
    · rw [e4, e2]
      exact va_up_ne _ _ (fun e => hn (by rw [e]; exact kc))
    · rw [e4, e2]
      refine va_up_ne _ _ (fun e => ?_)
      rcases hu a d ha hb hd with h | h
      · rw [e] at h; exact h hc
      · rw [e, kc] at h; exact absurd h (by decide)
theorem p_rput {x0 : Nat} {x1 y : Int32} (hT : ZT S) (hk : zK S x0 = 6) (hw : RWL S x0 w) (hl : (w.length : Int) ≤ 100000) (h1 : 0 ≤ x1.toInt ∧ x1.toInt ≤ 65535) (hf : d_X6_put x0 x1 S = some (y, S')) : RWL S' x0 (w ++ [x1.toInt]) ∧ RWF S S' x0 := by
  have hf : d_X6_put_0 x0 x1 S = some (y, S') := hf
  obtain ⟨-, hr, -, -, hF, h0, -, -, -, -, ht, hU⟩ := hT
  have hu : ∀ a c, zK S a = 6 → a ≠ x0 → zP S 0 a = some c → zP S 0 x0 ≠ some c ∨ 18 ≤ zK S c := fun a c ha hb hc => by
    by_cases e : zP S 0 x0 = some c
    · rcases hU a x0 c ha hk hc e with e0 | e0
      · right; rw [e0]; exact h0
      · exact absurd e0 hb
    · exact Or.inl e
  unfold d_X6_put_0 at hf
  obtain ⟨-, hf⟩ := m_chkE hf
  obtain ⟨-, hf⟩ := m_chkE hf
  obtain ⟨b1, hb1, hf⟩ := m_calE hf
  obtain ⟨-, hf⟩ := m_chkE hf
  obtain ⟨v2, e2, hf⟩ := m_bndE hf
  rcases m_ifE hf with ⟨-, hf⟩ | ⟨-, hf⟩
  · exact put_43 hk hw hl h1 hu hf
  · obtain ⟨-, hf⟩ := m_chkE hf
    obtain ⟨v3, -, hf⟩ := m_bndE hf
    obtain ⟨v4, -, hf⟩ := m_bndE hf
    obtain ⟨-, hf⟩ := m_chkE hf
    obtain ⟨q, eq, hf⟩ := m_bndE hf
    obtain ⟨S6, e6, hf⟩ := m_bndE hf
    obtain ⟨-, hf⟩ := m_chkE hf
    obtain ⟨b9, hb9, hf⟩ := m_calE hf
    obtain ⟨-, hf⟩ := m_chkE hf
    obtain ⟨-, hf⟩ := m_chkE hf
    obtain ⟨k9, hf⟩ := m_chkE hf
    obtain ⟨S10, e10, hf⟩ := m_bndE hf
    obtain ⟨-, hf⟩ := m_chkE hf
    obtain ⟨S11, e11, hf⟩ := m_bndE hf
    have kq : 18 ≤ zK S q := by rw [eq]; exact hF _ (Nat.le_refl _)
    have nq : ∀ a, zK S a < 18 → a ≠ q := fun a ha e => by rw [e] at ha; omega
    have q0 : q ≠ 0 := by rw [eq]; omega
    have nx : x0 ≠ q := nq x0 (by rw [hk]; decide)
    have K6 : zK S6 = va_up (zK S) q 13 := by rw [e6]; rfl
    have K11 : zK S11 = va_up (zK S) q 13 := by rw [e11, e10]; exact K6
    have I11 : zI S11 = zI S := by rw [e11, e10, e6]; rfl
    have N11 : zN S11 = va_up (zN S) q (v4).toNatClampNeg := by rw [e11, e10, e6]; rfl
    have B11 : zB S11 = va_up (zB S) q (fun _ => none) := by rw [e11, e10, e6]; rfl
    have P6 : zP S6 = zP S := by rw [e6]; rfl
    have P10 : zP S10 = zP S := by rw [e10]; exact P6
    have P11 : zP S11 = va_up (zP S) 0 (va_up (zP S 0) x0 (some q)) := by rw [e11, ← P10]; rfl
    have px : zP S11 0 x0 = some q := by rw [P11, va_up_self, va_up_self]
    have po : ∀ j a, (a ≠ x0 ∨ j ≠ 0) → zP S11 j a = zP S j a := fun j a h => by
      rw [P11]
      by_cases e : j = 0
      · subst e
        rw [va_up_self]
        exact va_up_ne _ _ (h.resolve_right (fun g => g rfl))
      · rw [va_up_ne _ _ e]
    have A6 : ∀ a, a ≠ q → zA S6 a = zA S a := fun a ha => by rw [e6]; exact va_up_ne _ _ ha
    have A11 : ∀ a, a ≠ q → zA S11 a = zA S a := fun a ha => by
      have : zA S11 a = zA S6 a := by rw [e11, e10]; exact va_up_ne _ _ ha
      rw [this, A6 a ha]
    have Aq : zA S11 q = (if b9 = 0 then zA S6 q else va_cpy (zA S6 b9) (zA S6 q) 0 0 ((zI S6 1 x0)).toNatClampNeg) := by rw [e11, e10]; exact va_up_self _ _ _
    have I6 : zI S6 = zI S := by rw [e6]; rfl
    rw [P6] at hb9
    have hw11 : RWL S11 x0 w := by
      obtain ⟨w1, w2⟩ := hw
      refine ⟨by rw [I11]; exact w1, fun i => ?_⟩
      rw [← w2 i]
      unfold rwC
      rw [I11, px, hb9]
      by_cases g : 0 ≤ i ∧ i < (zI S 1 x0).toInt
      · rw [if_pos g, if_pos g]
        show (zA S11 q i.toNat).toInt = (zA S b9 i.toNat).toInt
        rw [Aq]
        have n9 : b9 ≠ 0 := fun e => by
          rcases k9 with ⟨-, k9⟩ | ⟨-, k9, -⟩
          · rw [I6] at k9
            rw [k9] at g
            have z : (0 : Int32).toInt = 0 := rfl
            omega
          · exact k9 e
        have k13 : zK S b9 < 18 := by
          obtain ⟨b, hb, hb2, -⟩ := hr x0 hk
          rw [hb] at hb9
          cases hb9
          rw [hb2.resolve_left n9]; decide
        rw [if_neg n9, I6, A6 b9 (nq b9 k13)]
        unfold va_cpy
        have nn : (zI S 1 x0).toNatClampNeg = (zI S 1 x0).toInt.toNat := rfl
        rw [if_pos (by omega)]
        congr 2
        omega
      · rw [if_neg g, if_neg g]
    have hu11 : ∀ a c, zK S11 a = 6 → a ≠ x0 → zP S11 0 a = some c → zP S11 0 x0 ≠ some c ∨ 18 ≤ zK S11 c := fun a c ha hb hc => by
      left
      rw [px]
      intro e
      cases e
      rw [po 0 a (Or.inl hb)] at hc
      have ha2 : zK S a = 6 := by
        rw [K11] at ha
        by_cases e : a = q
        · rw [e, va_up_self] at ha; exact absurd ha (by decide)
        · rw [va_up_ne _ _ e] at ha; exact ha
      obtain ⟨b, hb2, hb3, -⟩ := hr a ha2
      rw [hb2] at hc
      cases hc
      rcases hb3 with h | h
      · exact q0 h
      · rw [h] at kq; exact absurd kq (by decide)
    obtain ⟨g1, g2⟩ := put_43 (S := S11) (by rw [K11, va_up_ne _ _ nx]; exact hk) hw11 hl h1 hu11 hf
    refine ⟨g1, rwf_t ?_ g2⟩
    refine ⟨fun a ha => ⟨by rw [K11, va_up_ne _ _ (nq a ha)], by rw [N11, va_up_ne _ _ (nq a ha)]⟩, fun a j _ hb => ⟨by rw [I11], po j a (Or.inl hb)⟩, fun j _ => by rw [I11], fun j hj => po j x0 (Or.inr hj), fun a ha _ => A11 a (nq a ha), fun a ha => by rw [B11, va_up_ne _ _ (nq a ha)], fun a c ha hb hc => A11 c (fun e => ?_)⟩
    obtain ⟨b, hb2, hb3, -⟩ := hr a ha
    rw [hb2] at hc
    cases hc
    rcases hb3 with h | h
    · exact q0 (e.symm.trans h)
    · rw [e] at h; rw [h] at kq; exact absurd kq (by decide)
theorem wA_take {w : List Int} {n : Nat} {i : Int} : wA (w.take n) i = if i < (n : Int) then wA w i else 0 := by
  by_cases h0 : 0 ≤ i
  · unfold wA
    rw [if_pos h0, if_pos h0, List.getD_eq_getElem?_getD, List.getD_eq_getElem?_getD]
    by_cases c : i < (n : Int)
    · rw [if_pos c, List.getElem?_take_of_lt (by omega)]
    · rw [if_neg c, List.getElem?_eq_none (by rw [List.length_take]; omega)]
      rfl
  · rw [wA_out (Or.inl (by omega)), wA_out (Or.inl (by omega))]
    split <;> rfl
/-- a row cut -/
theorem p_keep {x0 : Nat} {x1 y : Int32} (hw : RWL S x0 w) (h1 : 0 ≤ x1.toInt) (hf : f_X6_keep x0 x1 S = some (y, S')) : RWL S' x0 (w.take x1.toInt.toNat) ∧ RWF S S' x0 ∧ (S' = S ∨ S' = zsI S 1 x0 x1) := by
  have hf : f_X6_keep_0 x0 x1 S = some (y, S') := hf
  obtain ⟨w1, w2⟩ := hw
  unfold f_X6_keep_0 at hf
  rcases m_ifE hf with ⟨c, hf⟩ | ⟨c, hf⟩
  · have := ti_ltP (a := x1) (b := (0 : Int32)) c rfl rfl
    have z : (0 : Int32).toInt = 0 := rfl
    omega
  · obtain ⟨-, hf⟩ := m_chkE hf
    rcases m_ifE hf with ⟨d, hf⟩ | ⟨d, hf⟩
    · have d1 := ti_leP (a := zI S 1 x0) (b := x1) d rfl rfl
      unfold f_X6_keep_17 at hf
      cases hf
      have e : w.take x1.toInt.toNat = w := List.take_of_length_le (by omega)
      rw [e]
      exact ⟨⟨w1, w2⟩, rwf_0, Or.inl rfl⟩
    · have d1 := ti_leN (a := zI S 1 x0) (b := x1) d rfl rfl
      obtain ⟨-, hf⟩ := m_chkE hf
      obtain ⟨S1, e1, hf⟩ := m_bndE hf
      unfold f_X6_keep_17 at hf
      have eS : S' = S1 := (congrArg Prod.snd (Option.some.inj hf)).symm
      rw [eS]
      have l1 : zI S1 1 x0 = x1 := by rw [e1]; exact zI_self _ _ _ _
      refine ⟨⟨by rw [l1, List.length_take]; omega, fun i => ?_⟩, ⟨fun a _ => ⟨by rw [e1]; rfl, by rw [e1]; rfl⟩, fun a j _ hb => ⟨by rw [e1, zI_b hb], by rw [e1]; rfl⟩, fun j hj => by rw [e1, zI_j hj], fun j _ => by rw [e1]; rfl, fun a _ _ => by rw [e1]; rfl, fun a _ => by rw [e1]; rfl, fun a c _ _ _ => by rw [e1]; rfl⟩, Or.inr e1⟩
      have g : rwC S1 x0 i = if i < x1.toInt then rwC S x0 i else 0 := by
        unfold rwC
        rw [l1, show zP S1 = zP S by rw [e1]; rfl, show zA S1 = zA S by rw [e1]; rfl]
        by_cases c1 : 0 ≤ i ∧ i < x1.toInt
        · rw [if_pos c1, if_pos c1.2, if_pos (by omega)]
        · rw [if_neg c1]
          by_cases c2 : i < x1.toInt
          · rw [if_pos c2, if_neg (by omega)]
          · rw [if_neg c2]
      rw [g, wA_take, w2 i]
      have e2 : ((x1.toInt.toNat : Nat) : Int) = x1.toInt := by omega
      rw [e2]
end RWS
/-- the characters of a piece of text, with or without x, + and # -/
noncomputable def txF (lo : Bool) (ch : Int → Int) (a : Int) : Nat → List Int
  | 0 => []
  | k + 1 => (if lo = true ∧ (ch a = 120 ∨ ch a = 43 ∨ ch a = 35) then [] else [ch a]) ++ txF lo ch (a + 1) k
theorem txF_y {lo : Bool} {ch : Int → Int} {a : Int} {k : Nat} (h : lo = true ∧ (ch a = 120 ∨ ch a = 43 ∨ ch a = 35)) : txF lo ch a (k + 1) = txF lo ch (a + 1) k := by
  show (if lo = true ∧ (ch a = 120 ∨ ch a = 43 ∨ ch a = 35) then [] else [ch a]) ++ txF lo ch (a + 1) k = _
  rw [if_pos h]
  rfl
theorem txF_n {lo : Bool} {ch : Int → Int} {a : Int} {k : Nat} (h : ¬ (lo = true ∧ (ch a = 120 ∨ ch a = 43 ∨ ch a = 35))) : txF lo ch a (k + 1) = ch a :: txF lo ch (a + 1) k := by
  show (if lo = true ∧ (ch a = 120 ∨ ch a = 43 ∨ ch a = 35) then [] else [ch a]) ++ txF lo ch (a + 1) k = _
  rw [if_neg h]
  rfl
section CPW
variable {x0 x1 rw : Nat} {x3 : Int32} {ch : Int → Int} {S0 : ZS} {o : Int32 × ZS}
/-- what the copying loops hold: the row rw of the reader x0 and the text x1 -/
noncomputable def CPi (S0 S : ZS) (x0 x1 rw : Nat) (ch : Int → Int) (u : List Int) : Prop := ZT S ∧ RWF S0 S rw ∧ zK S x0 = 8 ∧ zP S 1 x0 = some rw ∧ zK S rw = 6 ∧ rc rw = 1 ∧ zK S x1 = 6 ∧ x1 ≠ rw ∧ rwC S x1 = ch ∧ RWL S rw u
theorem cpi_put {S S1 : ZS} {u : List Int} {c y : Int32} (h : CPi S0 S x0 x1 rw ch u) (hu : u.length ≤ 8) (hc : 0 ≤ c.toInt ∧ c.toInt ≤ 65535) (hf : d_X6_put rw c S = some (y, S1)) : CPi S0 S1 x0 x1 rw ch (u ++ [c.toInt]) := by
  obtain ⟨hT, hF, k0, hP, k6, hr, kt, hne, hch, hw⟩ := h
  have q2 : (zI S 1 rw).toInt < (rL rw : Int) := by
    have : rL rw = 2000 := by
      unfold rL
      rw [hr, if_neg (by decide), if_pos (Or.inl rfl)]
    rw [this, hw.1]
    omega
  have T1 : ZT S1 := (ok_of (t_d_X6_put (SZ := S) hT (rp_0 S) k6 hc q2 (by rw [hr]; decide)) hf).1
  obtain ⟨g1, g2⟩ := p_rput hT k6 hw (by omega) hc hf
  have k08 : zK S x0 < 18 := by rw [k0]; decide
  have nx : x0 ≠ rw := fun e => by rw [e, k6] at k0; exact absurd k0 (by decide)
  exact ⟨T1, rwf_t hF g2, by rw [(g2.1 x0 k08).1]; exact k0, by rw [(g2.2.1 x0 1 k08 nx).2]; exact hP, by rw [(g2.1 rw (by rw [k6]; decide)).1]; exact k6, hr, by rw [(g2.1 x1 (by rw [kt]; decide)).1]; exact kt, hne, by rw [rwf_rw g2 kt hne]; exact hch, g1⟩
theorem rw_chr {S : ZS} {a : Nat} (hT : ZT S) (hk : zK S a = 6) (i : Int) : 0 ≤ rwC S a i ∧ rwC S a i ≤ 65535 := by
  unfold rwC
  by_cases c : 0 ≤ i ∧ i < (zI S 1 a).toInt
  · rw [if_pos c]
    obtain ⟨b, hb, hb2, hl, hl2, -⟩ := hT.2.1 a hk
    rw [hb]
    rcases hb2 with e | e
    · exfalso
      rw [e] at hl2
      have : zcap S 0 = 0 := if_pos rfl
      rw [this] at hl2
      omega
    · exact hT.2.2.2.2.2.2.1 b e _
  · rw [if_neg c]
    omega
theorem cw_11 {G : ZS → List Int → Prop} (hx : 0 ≤ x3.toInt ∧ x3.toInt ≤ 100000) : ∀ (n : Nat) (x4 : Int32) (S : ZS) (u : List Int), CPi S0 S x0 x1 rw ch u → u.length ≤ 8 → (0 ≤ x4.toInt ∧ x4.toInt ≤ 100000) → (∀ S2, CPi S0 S2 x0 x1 rw ch ((u ++ txF false ch x4.toInt (x3.toInt - x4.toInt).toNat).take 8) → d_X8_copyWhole_48 x0 S2 = some o → G o.2 ((u ++ txF false ch x4.toInt (x3.toInt - x4.toInt).toNat).take 8)) → d_X8_copyWhole_11 n x0 x1 x3 x4 S = some o → G o.2 ((u ++ txF false ch x4.toInt (x3.toInt - x4.toInt).toNat).take 8) := by
  intro n
  induction n with
  | zero => intro x4 S u _ _ _ _ hf; cases hf
  | succ n ih =>
    intro x4 S u hC hu h4 H hf
    obtain ⟨hT, hF, k0, hP, k6, hr, kt, hne, hch, hw⟩ := id hC
    have hf : d_X8_copyWhole_11s (d_X8_copyWhole_11 n) x0 x1 x3 x4 S = some o := hf
    unfold d_X8_copyWhole_11s at hf
    rcases m_ifE hf with ⟨c1, hf⟩ | ⟨c1, hf⟩
    · skip
      replace c1 := ti_leP (a := x3) (b := x4) c1 rfl rfl
      have e : (x3.toInt - x4.toInt).toNat = 0 := by omega
      rw [e] at H ⊢
      have e2 : (u ++ txF false ch x4.toInt 0).take 8 = u := by
        show (u ++ []).take 8 = u
        rw [List.append_nil]
        exact List.take_of_length_le (by omega)
      rw [e2] at H ⊢
      exact H S hC hf
    · skip
      replace c1 := ti_leN (a := x3) (b := x4) c1 rfl rfl
      obtain ⟨-, hf⟩ := m_chkE hf
      replace hf := m_calY hf hP
      obtain ⟨-, hf⟩ := m_chkE hf
      obtain ⟨r2, h_r2, hf⟩ := m_calR hf (fun _ h => ro_X6_size h)
      dsimp only at hf
      have p_r2 := pc_X6_size h_r2
      dsimp only at p_r2
      have q2 : r2.toInt = (u.length : Int) := by rw [p_r2]; exact hw.1
      obtain ⟨-, hf⟩ := m_chkE hf
      rcases m_ifE hf with ⟨c2, hf⟩ | ⟨c2, hf⟩
      · skip
        replace c2 := ti_ltP (a := (7 : Int32)) (b := r2) c2 (show (7 : Int32).toInt = 7 from rfl) rfl
        have e2 : (u ++ txF false ch x4.toInt (x3.toInt - x4.toInt).toNat).take 8 = u := by
          rw [List.take_append_of_le_length (by omega)]
          exact List.take_of_length_le (by omega)
        rw [e2] at H ⊢
        exact H S hC hf
      · skip
        replace c2 := ti_ltN (a := (7 : Int32)) (b := r2) c2 (show (7 : Int32).toInt = 7 from rfl) rfl
        obtain ⟨-, hf⟩ := m_chkE hf
        replace hf := m_calY hf hP
        obtain ⟨-, hf⟩ := m_chkE hf
        obtain ⟨r4, h_r4, hf⟩ := m_calR hf (fun _ h => ro_X6_at h)
        dsimp only at hf
        have p_r4 := pc_X6_at h_r4
        dsimp only at p_r4
        have cb := rw_chr hT kt x4.toInt
        have q4 : r4.toInt = ch x4.toInt := by rw [p_r4, hch]
        obtain ⟨-, hf⟩ := m_chkE hf
        obtain ⟨-, hf⟩ := m_chkE hf
        obtain ⟨⟨r6, S7⟩, h_r6, hf⟩ := m_cal2E hf
        dsimp only at hf
        have C7 := cpi_put hC hu (by omega) h_r6
        rw [q4] at C7
        obtain ⟨v10, e_v10, hf⟩ := m_bndE hf
        have t_v10 : v10.toInt = x4.toInt + 1 := ti_add e_v10 rfl (show (1 : Int32).toInt = 1 from rfl) (by omega) (by omega)
        have e : (x3.toInt - x4.toInt).toNat = (x3.toInt - v10.toInt).toNat + 1 := by omega
        have e2 : u ++ txF false ch x4.toInt (x3.toInt - x4.toInt).toNat = (u ++ [ch x4.toInt]) ++ txF false ch v10.toInt (x3.toInt - v10.toInt).toNat := by
          rw [e, txF_n (fun h => absurd h.1 (by decide)), t_v10, List.append_assoc]
          rfl
        rw [e2] at H ⊢
        exact ih v10 S7 _ C7 (by rw [List.length_append]; show u.length + 1 ≤ 8; omega) (by omega) H hf
theorem cb_11 (hx : 0 ≤ x3.toInt ∧ x3.toInt ≤ 100000) : ∀ (n : Nat) (x4 : Int32) (S : ZS) (u : List Int), CPi S0 S x0 x1 rw ch u → u.length ≤ 8 → (0 ≤ x4.toInt ∧ x4.toInt ≤ 100000) → d_X8_copyBare_11 n x0 x1 x3 x4 S = some o → CPi S0 o.2 x0 x1 rw ch ((u ++ txF true ch x4.toInt (x3.toInt - x4.toInt).toNat).take 8) := by
  intro n
  induction n with
  | zero => intro x4 S u _ _ _ hf; cases hf
  | succ n ih =>
    intro x4 S u hC hu h4 hf
    obtain ⟨hT, hF, k0, hP, k6, hr, kt, hne, hch, hw⟩ := id hC
    have hf : d_X8_copyBare_11s (d_X8_copyBare_11 n) x0 x1 x3 x4 S = some o := hf
    have skp : (ch x4.toInt = 120 ∨ ch x4.toInt = 43 ∨ ch x4.toInt = 35) → x4.toInt < x3.toInt → d_X8_copyBare_67 (d_X8_copyBare_11 n) x0 x1 x3 x4 S = some o → CPi S0 o.2 x0 x1 rw ch ((u ++ txF true ch x4.toInt (x3.toInt - x4.toInt).toNat).take 8) := by
      intro hc hlt hf
      unfold d_X8_copyBare_67 at hf
      obtain ⟨v1, e_v1, hf⟩ := m_bndE hf
      have t_v1 : v1.toInt = x4.toInt + 1 := ti_add e_v1 rfl (show (1 : Int32).toInt = 1 from rfl) (by omega) (by omega)
      have e : (x3.toInt - x4.toInt).toNat = (x3.toInt - v1.toInt).toNat + 1 := by omega
      have g := ih v1 S u hC hu (by omega) hf
      rw [e, txF_y ⟨rfl, hc⟩, ← t_v1]
      exact g
    unfold d_X8_copyBare_11s at hf
    rcases m_ifE hf with ⟨c1, hf⟩ | ⟨c1, hf⟩
    · skip
      replace c1 := ti_leP (a := x3) (b := x4) c1 rfl rfl
      unfold d_X8_copyBare_73 at hf
      cases hf
      try dsimp only
      have e : (x3.toInt - x4.toInt).toNat = 0 := by omega
      rw [e]
      have e2 : (u ++ txF true ch x4.toInt 0).take 8 = u := by
        show (u ++ []).take 8 = u
        rw [List.append_nil]
        exact List.take_of_length_le (by omega)
      rw [e2]
      exact hC
    · skip
      replace c1 := ti_leN (a := x3) (b := x4) c1 rfl rfl
      obtain ⟨-, hf⟩ := m_chkE hf
      replace hf := m_calY hf hP
      obtain ⟨-, hf⟩ := m_chkE hf
      obtain ⟨r2, h_r2, hf⟩ := m_calR hf (fun _ h => ro_X6_size h)
      dsimp only at hf
      have p_r2 := pc_X6_size h_r2
      dsimp only at p_r2
      have q2 : r2.toInt = (u.length : Int) := by rw [p_r2]; exact hw.1
      obtain ⟨-, hf⟩ := m_chkE hf
      rcases m_ifE hf with ⟨c2, hf⟩ | ⟨c2, hf⟩
      · skip
        replace c2 := ti_ltP (a := (7 : Int32)) (b := r2) c2 (show (7 : Int32).toInt = 7 from rfl) rfl
        unfold d_X8_copyBare_73 at hf
        cases hf
        try dsimp only
        have e2 : (u ++ txF true ch x4.toInt (x3.toInt - x4.toInt).toNat).take 8 = u := by
          rw [List.take_append_of_le_length (by omega)]
          exact List.take_of_length_le (by omega)
        rw [e2]
        exact hC
      · skip
        replace c2 := ti_ltN (a := (7 : Int32)) (b := r2) c2 (show (7 : Int32).toInt = 7 from rfl) rfl
        obtain ⟨-, hf⟩ := m_chkE hf
        obtain ⟨r3, h_r3, hf⟩ := m_calR hf (fun _ h => ro_X6_at h)
        dsimp only at hf
        have p_r3 := pc_X6_at h_r3
        dsimp only at p_r3
        have cb := rw_chr hT kt x4.toInt
        have q4 : r3.toInt = ch x4.toInt := by rw [p_r3, hch]
        obtain ⟨-, hf⟩ := m_chkE hf
        rcases m_ifE hf with ⟨c3, hf⟩ | ⟨c3, hf⟩
        · skip
          replace c3 := ti_eqP (a := r3) (b := (120 : Int32)) c3 rfl (show (120 : Int32).toInt = 120 from rfl)
          exact skp (Or.inl (by omega)) (by omega) hf
        · skip
          replace c3 := ti_eqN (a := r3) (b := (120 : Int32)) c3 rfl (show (120 : Int32).toInt = 120 from rfl)
          rcases m_ifE hf with ⟨c4, hf⟩ | ⟨c4, hf⟩
          · skip
            replace c4 := ti_eqP (a := r3) (b := (43 : Int32)) c4 rfl (show (43 : Int32).toInt = 43 from rfl)
            exact skp (Or.inr (Or.inl (by omega))) (by omega) hf
          · skip
            replace c4 := ti_eqN (a := r3) (b := (43 : Int32)) c4 rfl (show (43 : Int32).toInt = 43 from rfl)
            rcases m_ifE hf with ⟨c5, hf⟩ | ⟨c5, hf⟩
            · skip
              replace c5 := ti_eqP (a := r3) (b := (35 : Int32)) c5 rfl (show (35 : Int32).toInt = 35 from rfl)
              exact skp (Or.inr (Or.inr (by omega))) (by omega) hf
            · skip
              replace c5 := ti_eqN (a := r3) (b := (35 : Int32)) c5 rfl (show (35 : Int32).toInt = 35 from rfl)
              obtain ⟨-, hf⟩ := m_chkE hf
              replace hf := m_calY hf hP
              obtain ⟨-, hf⟩ := m_chkE hf
              obtain ⟨⟨r6, S7⟩, h_r6, hf⟩ := m_cal2E hf
              dsimp only at hf
              have C7 := cpi_put hC hu (by omega) h_r6
              rw [q4] at C7
              unfold d_X8_copyBare_67 at hf
              obtain ⟨v1, e1, hf⟩ := m_bndE hf
              have t1 : v1.toInt = x4.toInt + 1 := ti_add e1 rfl (show (1 : Int32).toInt = 1 from rfl) (by omega) (by omega)
              have e : (x3.toInt - x4.toInt).toNat = (x3.toInt - v1.toInt).toNat + 1 := by omega
              have e2 : u ++ txF true ch x4.toInt (x3.toInt - x4.toInt).toNat = (u ++ [ch x4.toInt]) ++ txF true ch v1.toInt (x3.toInt - v1.toInt).toNat := by
                rw [e, txF_n (fun h => by omega), t1, List.append_assoc]
                rfl
              rw [e2]
              exact ih v1 S7 _ C7 (by rw [List.length_append]; show u.length + 1 ≤ 8; omega) (by omega) hf
end CPW
end
section
/-- only ints of one object change -/
noncomputable def SXf (S S' : ZS) (x : Nat) : Prop := zK S' = zK S ∧ zP S' = zP S ∧ zN S' = zN S ∧ zA S' = zA S ∧ zB S' = zB S ∧ (∀ j a, a ≠ x → zI S' j a = zI S j a)
section SXS
variable {S S1 S2 S' : ZS} {x b : Nat}
theorem sx_0 : SXf S S x := ⟨rfl, rfl, rfl, rfl, rfl, fun _ _ _ => rfl⟩
theorem sx_t (h : SXf S S1 x) (g : SXf S1 S2 x) : SXf S S2 x := ⟨g.1.trans h.1, g.2.1.trans h.2.1, g.2.2.1.trans h.2.2.1, g.2.2.2.1.trans h.2.2.2.1, g.2.2.2.2.1.trans h.2.2.2.2.1, fun j a ha => (g.2.2.2.2.2 j a ha).trans (h.2.2.2.2.2 j a ha)⟩
theorem sx_I {j : Nat} {v : Int32} (e : S' = zsI S j x v) : SXf S S' x := by
  subst e
  exact ⟨rfl, rfl, rfl, rfl, rfl, fun _ _ ha => zI_b ha⟩
theorem sx_rw (h : SXf S S' x) (hb : b ≠ x) : rwC S' b = rwC S b := by
  funext i
  unfold rwC
  rw [h.2.2.2.2.2 1 b hb, h.2.1, h.2.2.2.1]
theorem sx_rwl {w : List Int} (h : SXf S S' x) (hb : b ≠ x) (hw : RWL S b w) : RWL S' b w := ⟨by rw [h.2.2.2.2.2 1 b hb]; exact hw.1, fun i => by rw [sx_rw h hb]; exact hw.2 i⟩
theorem sx_mB (h : SXf S S' x) : mCb S' b = mCb S b := mB_e (by rw [h.2.1]) (fun c _ => by rw [h.2.2.2.1])
end SXS
section PAP
variable {x0 rw : Nat} {w : List Int} {S : ZS} {o : Int32 × ZS} {x1 x2 x3 : Int32}
theorem pa_94 (hf : f_X8_parseApart_94 x2 x3 S = some o) : o.2 = S ∧ (o.1.toInt = 0 ∨ o.1.toInt = 1) ∧ (o.1.toInt = 1 ↔ x3.toInt = x2.toInt) := by
  unfold f_X8_parseApart_94 at hf
  rcases m_ifE hf with ⟨c1, hf⟩ | ⟨c1, hf⟩
  · skip
    replace c1 := ti_eqP (a := x3) (b := x2) c1 rfl rfl
    unfold f_X8_parseApart_104 at hf
    obtain ⟨-, hf⟩ := m_chkE hf
    cases hf
    try dsimp only
    exact ⟨rfl, Or.inr rfl, fun _ => c1, fun _ => rfl⟩
  · skip
    replace c1 := ti_eqN (a := x3) (b := x2) c1 rfl rfl
    unfold f_X8_parseApart_104 at hf
    obtain ⟨-, hf⟩ := m_chkE hf
    cases hf
    try dsimp only
    exact ⟨rfl, Or.inl rfl, fun h => absurd h (by decide), fun h => absurd h c1⟩
theorem pa_49 (hP : zP S 1 x0 = some rw) (hne : rw ≠ x0) (hw : RWL S rw w) (hb : ∀ i, 0 ≤ wA w i ∧ wA w i ≤ 127) (h5 : (zI S 5 x0).toInt = -1) (h3 : 0 ≤ x3.toInt ∧ x3.toInt ≤ 100) (hf : f_X8_parseApart_49 x0 x2 x3 S = some o) : SXf S o.2 x0 ∧ (∀ j, j ≠ 5 → zI o.2 j x0 = zI S j x0) ∧ (zI o.2 5 x0).toInt = paR w (zI S 3 x0).toInt x3.toInt x2.toInt ∧ (o.1.toInt = 0 ∨ o.1.toInt = 1) ∧ (o.1.toInt = 1 ↔ paJ w (zI S 3 x0).toInt x3.toInt x2.toInt = x2.toInt) := by
  have no : ¬ (x3.toInt < x2.toInt ∧ (zI S 3 x0).toInt ≠ 1 ∧ 49 ≤ wA w x3.toInt ∧ wA w x3.toInt ≤ 56) → f_X8_parseApart_94 x2 x3 S = some o → SXf S o.2 x0 ∧ (∀ j, j ≠ 5 → zI o.2 j x0 = zI S j x0) ∧ (zI o.2 5 x0).toInt = paR w (zI S 3 x0).toInt x3.toInt x2.toInt ∧ (o.1.toInt = 0 ∨ o.1.toInt = 1) ∧ (o.1.toInt = 1 ↔ paJ w (zI S 3 x0).toInt x3.toInt x2.toInt = x2.toInt) := by
    intro hn hf
    obtain ⟨e, g1, g2⟩ := pa_94 hf
    have eR : paR w (zI S 3 x0).toInt x3.toInt x2.toInt = -1 := if_neg hn
    have eJ : paJ w (zI S 3 x0).toInt x3.toInt x2.toInt = x3.toInt := if_neg hn
    rw [e, eR, eJ]
    exact ⟨sx_0, fun _ _ => rfl, h5, g1, g2⟩
  unfold f_X8_parseApart_49 at hf
  rcases m_ifE hf with ⟨c1, hf⟩ | ⟨c1, hf⟩
  · skip
    replace c1 := ti_leP (a := x2) (b := x3) c1 rfl rfl
    exact no (fun h => by omega) hf
  · skip
    replace c1 := ti_leN (a := x2) (b := x3) c1 rfl rfl
    obtain ⟨-, hf⟩ := m_chkE hf
    rcases m_ifE hf with ⟨c2, hf⟩ | ⟨c2, hf⟩
    · skip
      replace c2 := ti_eqP (a := (zI S 3 x0)) (b := (1 : Int32)) c2 rfl (show (1 : Int32).toInt = 1 from rfl)
      exact no (fun h => h.2.1 c2) hf
    · skip
      replace c2 := ti_eqN (a := (zI S 3 x0)) (b := (1 : Int32)) c2 rfl (show (1 : Int32).toInt = 1 from rfl)
      obtain ⟨-, hf⟩ := m_chkE hf
      replace hf := m_calY hf hP
      obtain ⟨-, hf⟩ := m_chkE hf
      obtain ⟨r2, h_r2, hf⟩ := m_calR hf (fun _ h => ro_X6_at h)
      dsimp only at hf
      have p_r2 := pc_X6_at h_r2
      dsimp only at p_r2
      rw [hw.2] at p_r2
      have b2 := hb x3.toInt
      obtain ⟨r3, h_r3, hf⟩ := m_calR hf (fun _ h => ro_X11_isRank h)
      dsimp only at hf
      have p_r3 := pc_X11_isRank h_r3
      dsimp only at p_r3
      rcases m_ifE hf with ⟨c3, hf⟩ | ⟨c3, hf⟩
      · skip
        replace c3 := ti_eqP (a := r3) (b := (0 : Int32)) c3 rfl (show (0 : Int32).toInt = 0 from rfl)
        exact no (fun h => by have := p_r3.2.2 (by omega); omega) hf
      · skip
        replace c3 := ti_eqN (a := r3) (b := (0 : Int32)) c3 rfl (show (0 : Int32).toInt = 0 from rfl)
        obtain ⟨-, hf⟩ := m_chkE hf
        replace hf := m_calY hf hP
        obtain ⟨-, hf⟩ := m_chkE hf
        obtain ⟨r5, h_r5, hf⟩ := m_calR hf (fun _ h => ro_X6_at h)
        dsimp only at hf
        have p_r5 := pc_X6_at h_r5
        dsimp only at p_r5
        rw [hw.2] at p_r5
        obtain ⟨v6, e_v6, hf⟩ := m_bndE hf
        have t_v6 : v6.toInt = r5.toInt - 49 := ti_sub e_v6 rfl (show (49 : Int32).toInt = 49 from rfl) (by omega) (by omega)
        obtain ⟨-, hf⟩ := m_chkE hf
        obtain ⟨S7, e_S7, hf⟩ := m_bndE hf
        obtain ⟨v8, e_v8, hf⟩ := m_bndE hf
        have t_v8 : v8.toInt = x3.toInt + 1 := ti_add e_v8 rfl (show (1 : Int32).toInt = 1 from rfl) (by omega) (by omega)
        obtain ⟨e, g1, g2⟩ := pa_94 hf
        have q3 := p_r3.2.1 (by omega)
        have hy : x3.toInt < x2.toInt ∧ (zI S 3 x0).toInt ≠ 1 ∧ 49 ≤ wA w x3.toInt ∧ wA w x3.toInt ≤ 56 := ⟨by omega, c2, by omega, by omega⟩
        have eR : paR w (zI S 3 x0).toInt x3.toInt x2.toInt = wA w x3.toInt - 49 := if_pos hy
        have eJ : paJ w (zI S 3 x0).toInt x3.toInt x2.toInt = x3.toInt + 1 := if_pos hy
        rw [e, eR, eJ]
        refine ⟨sx_I e_S7, fun j hj => by rw [e_S7, zI_j hj], ?_, g1, ?_⟩
        · rw [e_S7, zI_self]; omega
        · rw [g2, t_v8]
theorem p_apart (hP : zP S 1 x0 = some rw) (hne : rw ≠ x0) (hw : RWL S rw w) (hb : ∀ i, 0 ≤ wA w i ∧ wA w i ≤ 127) (h1 : 0 ≤ x1.toInt ∧ x1.toInt ≤ 50) (hf : f_X8_parseApart x0 x1 x2 S = some o) : SXf S o.2 x0 ∧ (∀ j, j ≠ 4 → j ≠ 5 → zI o.2 j x0 = zI S j x0) ∧ (zI o.2 4 x0).toInt = paF w x1.toInt x2.toInt ∧ (zI o.2 5 x0).toInt = paR w (zI S 3 x0).toInt (paI w x1.toInt x2.toInt) x2.toInt ∧ (o.1.toInt = 0 ∨ o.1.toInt = 1) ∧ (o.1.toInt = 1 ↔ paJ w (zI S 3 x0).toInt (paI w x1.toInt x2.toInt) x2.toInt = x2.toInt) := by
  have hf : f_X8_parseApart_0 x0 x1 x2 S = some o := hf
  have z1 : (-1 : Int32).toInt = -1 := rfl
  unfold f_X8_parseApart_0 at hf
  obtain ⟨-, hf⟩ := m_chkE hf
  obtain ⟨S1, e_S1, hf⟩ := m_bndE hf
  obtain ⟨-, hf⟩ := m_chkE hf
  obtain ⟨S2, e_S2, hf⟩ := m_bndE hf
  have s2 : SXf S S2 x0 := sx_t (sx_I e_S1) (sx_I e_S2)
  have P2 : zP S2 1 x0 = some rw := by rw [s2.2.1]; exact hP
  have w2 := sx_rwl s2 hne hw
  have i2 : ∀ j, j ≠ 4 → j ≠ 5 → zI S2 j x0 = zI S j x0 := fun j a b => by rw [e_S2, zI_j b, e_S1, zI_j a]
  have i4 : (zI S2 4 x0).toInt = -1 := by rw [e_S2, zI_j (by decide), e_S1, zI_self]; rfl
  have i5 : (zI S2 5 x0).toInt = -1 := by rw [e_S2, zI_self]; rfl
  have i3 : zI S2 3 x0 = zI S 3 x0 := i2 3 (by decide) (by decide)
  have no : ¬ (x1.toInt < x2.toInt ∧ 97 ≤ wA w x1.toInt ∧ wA w x1.toInt ≤ 104) → f_X8_parseApart_49 x0 x2 x1 S2 = some o → SXf S o.2 x0 ∧ (∀ j, j ≠ 4 → j ≠ 5 → zI o.2 j x0 = zI S j x0) ∧ (zI o.2 4 x0).toInt = paF w x1.toInt x2.toInt ∧ (zI o.2 5 x0).toInt = paR w (zI S 3 x0).toInt (paI w x1.toInt x2.toInt) x2.toInt ∧ (o.1.toInt = 0 ∨ o.1.toInt = 1) ∧ (o.1.toInt = 1 ↔ paJ w (zI S 3 x0).toInt (paI w x1.toInt x2.toInt) x2.toInt = x2.toInt) := by
    intro hn hf
    obtain ⟨g1, g2, g3, g4, g5⟩ := pa_49 P2 hne w2 hb i5 (by omega) hf
    have eF : paF w x1.toInt x2.toInt = -1 := if_neg hn
    have eI : paI w x1.toInt x2.toInt = x1.toInt := if_neg hn
    rw [eF, eI]
    rw [i3] at g3 g5
    exact ⟨sx_t s2 g1, fun j a b => (g2 j b).trans (i2 j a b), by rw [g2 4 (by decide)]; exact i4, g3, g4, g5⟩
  rcases m_ifE hf with ⟨c1, hf⟩ | ⟨c1, hf⟩
  · skip
    replace c1 := ti_leP (a := x2) (b := x1) c1 rfl rfl
    exact no (fun h => by omega) hf
  · skip
    replace c1 := ti_leN (a := x2) (b := x1) c1 rfl rfl
    obtain ⟨-, hf⟩ := m_chkE hf
    replace hf := m_calY hf P2
    obtain ⟨-, hf⟩ := m_chkE hf
    obtain ⟨r4, h_r4, hf⟩ := m_calR hf (fun _ h => ro_X6_at h)
    dsimp only at hf
    have p_r4 := pc_X6_at h_r4
    dsimp only at p_r4
    rw [w2.2] at p_r4
    have b2 := hb x1.toInt
    obtain ⟨r5, h_r5, hf⟩ := m_calR hf (fun _ h => ro_X11_isFile h)
    dsimp only at hf
    have p_r5 := pc_X11_isFile h_r5
    dsimp only at p_r5
    rcases m_ifE hf with ⟨c2, hf⟩ | ⟨c2, hf⟩
    · skip
      replace c2 := ti_eqP (a := r5) (b := (0 : Int32)) c2 rfl (show (0 : Int32).toInt = 0 from rfl)
      exact no (fun h => by have := p_r5.2.2 (by omega); omega) hf
    · skip
      replace c2 := ti_eqN (a := r5) (b := (0 : Int32)) c2 rfl (show (0 : Int32).toInt = 0 from rfl)
      obtain ⟨-, hf⟩ := m_chkE hf
      replace hf := m_calY hf P2
      obtain ⟨-, hf⟩ := m_chkE hf
      obtain ⟨r7, h_r7, hf⟩ := m_calR hf (fun _ h => ro_X6_at h)
      dsimp only at hf
      have p_r7 := pc_X6_at h_r7
      dsimp only at p_r7
      rw [w2.2] at p_r7
      obtain ⟨v8, e_v8, hf⟩ := m_bndE hf
      have t_v8 : v8.toInt = r7.toInt - 97 := ti_sub e_v8 rfl (show (97 : Int32).toInt = 97 from rfl) (by omega) (by omega)
      obtain ⟨-, hf⟩ := m_chkE hf
      obtain ⟨S9, e_S9, hf⟩ := m_bndE hf
      obtain ⟨v10, e_v10, hf⟩ := m_bndE hf
      have t_v10 : v10.toInt = x1.toInt + 1 := ti_add e_v10 rfl (show (1 : Int32).toInt = 1 from rfl) (by omega) (by omega)
      have q5 := p_r5.2.1 (by omega)
      have hy : x1.toInt < x2.toInt ∧ 97 ≤ wA w x1.toInt ∧ wA w x1.toInt ≤ 104 := ⟨by omega, by omega, by omega⟩
      have s9 : SXf S S9 x0 := sx_t s2 (sx_I e_S9)
      have o9 : ∀ j, j ≠ 4 → zI S9 j x0 = zI S2 j x0 := fun j hj => by rw [e_S9, zI_j hj]
      obtain ⟨g1, g2, g3, g4, g5⟩ := pa_49 (by rw [s9.2.1]; exact hP) hne (sx_rwl s9 hne hw) hb (by rw [o9 5 (by decide)]; exact i5) (by omega) hf
      have eF : paF w x1.toInt x2.toInt = wA w x1.toInt - 97 := if_pos hy
      have eI : paI w x1.toInt x2.toInt = x1.toInt + 1 := if_pos hy
      rw [eF, eI, ← t_v10]
      rw [o9 3 (by decide), i3] at g3 g5
      refine ⟨sx_t s9 g1, fun j a b => (g2 j b).trans ((o9 j a).trans (i2 j a b)), ?_, g3, g4, g5⟩
      rw [g2 4 (by decide), e_S9, zI_self]
      omega
/-- what the reader holds of a word that is no castling -/
noncomputable def PRf (S : ZS) (x0 : Nat) (w : List Int) : Prop := (zI S 3 x0).toInt = prK w ∧ (zI S 4 x0).toInt = prF w ∧ (zI S 5 x0).toInt = prR w ∧ (zI S 6 x0).toInt = prT w ∧ (zI S 7 x0).toInt = prB w ∧ (zI S 8 x0).toInt = prX w
/-- from which state a word is read -/
noncomputable def PRi (S0 S : ZS) (x0 : Nat) : Prop := SXf S0 S x0 ∧ (∀ j, 9 ≤ j ∨ j ≤ 1 → zI S j x0 = zI S0 j x0)
theorem pri_I {S0 S S1 : ZS} {j : Nat} {v : Int32} (h : PRi S0 S x0) (e : S1 = zsI S j x0 v) (hj : 2 ≤ j ∧ j ≤ 8) : PRi S0 S1 x0 := ⟨sx_t h.1 (sx_I e), fun i hi => by rw [e, zI_j (by omega)]; exact h.2 i hi⟩
theorem wl_b {w : List Int} (hl : w.length ≤ 8) : (w.length : Int) ≤ 8 := by omega
theorem pp_232 {S0 : ZS} {t0 : Int32} (hI : PRi S0 S x0) (hP : zP S0 1 x0 = some rw) (hne : rw ≠ x0) (hw : RWL S0 rw w) (hb : ∀ i, 0 ≤ wA w i ∧ wA w i ≤ 127) (hlw : w.length ≤ 8) (h1 : x1.toInt = prS w) (h2 : x2.toInt = prN w - 2) (ht : t0.toInt = prX w) (k3 : (zI S 3 x0).toInt = prK w) (k6 : (zI S 6 x0).toInt = prT w) (k7 : (zI S 7 x0).toInt = prB w) (k2 : (zI S 2 x0).toInt = 0) (hf : f_X8_parse_232 x0 x1 x2 t0 x0 S = some o) : PRi S0 o.2 x0 ∧ (zI o.2 2 x0).toInt = 0 ∧ (o.1.toInt = 0 ∨ o.1.toInt = 1) ∧ (o.1.toInt = 1 ↔ prJ w = prZ w) ∧ PRf o.2 x0 w := by
  have hS : prS w = 0 ∨ prS w = 1 := by unfold prS; split <;> omega
  have hX : prX w = 0 ∨ prX w = 1 := by unfold prX; split <;> omega
  have hN : prN w ≤ (w.length : Int) ∧ (w.length : Int) - 2 ≤ prN w := by unfold prN; split <;> omega
  unfold f_X8_parse_232 at hf
  obtain ⟨-, hf⟩ := m_chkE hf
  obtain ⟨S1, e_S1, hf⟩ := m_bndE hf
  have I1 := pri_I hI e_S1 (by decide)
  have i8 : zI S1 8 x0 = t0 := by rw [e_S1]; exact zI_self _ _ _ _
  have o1 : ∀ j, j ≠ 8 → zI S1 j x0 = zI S j x0 := fun j hj => by rw [e_S1, zI_j hj]
  obtain ⟨-, hf⟩ := m_chkE hf
  obtain ⟨v2, e_v2, hf⟩ := m_bndE hf
  have t_v2 : v2.toInt = prZ w := by
    have := ti_sub (c := v2) (a := x2) (b := zI S1 8 x0) e_v2 rfl rfl (by rw [i8]; omega) (by rw [i8]; omega)
    rw [this, i8, h2, ht]
    rfl
  obtain ⟨-, hf⟩ := m_chkE hf
  obtain ⟨⟨r3, S3c⟩, h_r3, hf⟩ := m_calE hf
  dsimp only at hf
  obtain ⟨g1, g2, g3, g4, g5, g6⟩ := p_apart (by rw [I1.1.2.1]; exact hP) hne (sx_rwl I1.1 hne hw) hb (by omega) h_r3
  dsimp only at g1 g2 g3 g4 g5 g6
  rw [o1 3 (by decide), k3, t_v2, h1] at g4 g6
  rw [t_v2, h1] at g3
  obtain ⟨-, hf⟩ := m_chkE hf
  cases hf
  try dsimp only
  refine ⟨⟨sx_t I1.1 g1, fun j hj => (g2 j (by omega) (by omega)).trans (I1.2 j hj)⟩, by rw [g2 2 (by decide) (by decide), o1 2 (by decide)]; exact k2, g5, g6, ?_, g3, g4, ?_, ?_, ?_⟩
  · rw [g2 3 (by decide) (by decide), o1 3 (by decide)]; exact k3
  · rw [g2 6 (by decide) (by decide), o1 6 (by decide)]; exact k6
  · rw [g2 7 (by decide) (by decide), o1 7 (by decide)]; exact k7
  · rw [g2 8 (by decide) (by decide), i8]; exact ht
theorem pp_166 {S0 : ZS} (hI : PRi S0 S x0) (hP : zP S0 1 x0 = some rw) (hne : rw ≠ x0) (hw : RWL S0 rw w) (hb : ∀ i, 0 ≤ wA w i ∧ wA w i ≤ 127) (hlw : w.length ≤ 8) (h1 : x1.toInt = prS w) (h2 : x2.toInt = prN w) (k3 : (zI S 3 x0).toInt = prK w) (k7 : (zI S 7 x0).toInt = prB w) (k2 : (zI S 2 x0).toInt = 0) (hf : f_X8_parse_166 x0 x1 x2 S = some o) : PRi S0 o.2 x0 ∧ (zI o.2 2 x0).toInt = 0 ∧ (o.1.toInt = 0 ∨ o.1.toInt = 1) ∧ (o.1.toInt = 1 ↔ prT w ≠ -1 ∧ prJ w = prZ w) ∧ (o.1.toInt = 1 → PRf o.2 x0 w) := by
  have hS : prS w = 0 ∨ prS w = 1 := by unfold prS; split <;> omega
  have hN : prN w ≤ (w.length : Int) ∧ (w.length : Int) - 2 ≤ prN w := by unfold prN; split <;> omega
  have P0 : zP S 1 x0 = some rw := by rw [hI.1.2.1]; exact hP
  have w0 := sx_rwl hI.1 hne hw
  have z1 : (-1 : Int32).toInt = -1 := rfl
  unfold f_X8_parse_166 at hf
  obtain ⟨-, hf⟩ := m_chkE hf
  replace hf := m_calY hf P0
  obtain ⟨v2, e_v2, hf⟩ := m_bndE hf
  have t_v2 : v2.toInt = x2.toInt - 2 := ti_sub e_v2 rfl (show (2 : Int32).toInt = 2 from rfl) (by omega) (by omega)
  obtain ⟨-, hf⟩ := m_chkE hf
  obtain ⟨r3, h_r3, hf⟩ := m_calR hf (fun _ h => ro_X6_at h)
  dsimp only at hf
  have p_r3 := pc_X6_at h_r3
  dsimp only at p_r3
  rw [w0.2, t_v2, h2] at p_r3
  obtain ⟨-, hf⟩ := m_chkE hf
  replace hf := m_calY hf P0
  obtain ⟨v5, e_v5, hf⟩ := m_bndE hf
  have t_v5 : v5.toInt = x2.toInt - 1 := ti_sub e_v5 rfl (show (1 : Int32).toInt = 1 from rfl) (by omega) (by omega)
  obtain ⟨-, hf⟩ := m_chkE hf
  obtain ⟨r6, h_r6, hf⟩ := m_calR hf (fun _ h => ro_X6_at h)
  dsimp only at hf
  have p_r6 := pc_X6_at h_r6
  dsimp only at p_r6
  rw [w0.2, t_v5, h2] at p_r6
  obtain ⟨r7, h_r7, hf⟩ := m_calR hf (fun _ h => ro_X11_squareOf h)
  dsimp only at hf
  have p_r7 := pc_X11_squareOf h_r7
  dsimp only at p_r7
  have q7 : r7.toInt = prT w := by rw [p_r7, p_r3, p_r6]; rfl
  obtain ⟨-, hf⟩ := m_chkE hf
  obtain ⟨S8, e_S8, hf⟩ := m_bndE hf
  have I8 := pri_I hI e_S8 (by decide)
  have P8 : zP S8 1 x0 = some rw := by rw [I8.1.2.1]; exact hP
  have i6 : (zI S8 6 x0).toInt = prT w := by rw [e_S8, zI_self]; exact q7
  have o8 : ∀ j, j ≠ 6 → zI S8 j x0 = zI S j x0 := fun j hj => by rw [e_S8, zI_j hj]
  have w8 := sx_rwl I8.1 hne hw
  obtain ⟨v9, e_v9, hf⟩ := m_bndE hf
  have t_v9 : v9.toInt = x2.toInt + (-2) := ti_add e_v9 rfl (show (-2 : Int32).toInt = -2 from rfl) (by omega) (by omega)
  obtain ⟨-, hf⟩ := m_chkE hf
  rcases m_ifE hf with ⟨c1, hf⟩ | ⟨c1, hf⟩
  · skip
    replace c1 := ti_eqP (a := (zI S8 6 x0)) (b := (-1 : Int32)) c1 rfl (show (-1 : Int32).toInt = -1 from rfl)
    obtain ⟨-, hf⟩ := m_chkE hf
    cases hf
    try dsimp only
    exact ⟨I8, by rw [o8 2 (by decide)]; exact k2, Or.inl rfl, ⟨fun h => absurd h (by decide), fun h => absurd (by omega) h.1⟩, fun h => absurd h (by decide)⟩
  · skip
    replace c1 := ti_eqN (a := (zI S8 6 x0)) (b := (-1 : Int32)) c1 rfl (show (-1 : Int32).toInt = -1 from rfl)
    rcases m_ifE hf with ⟨c2, hf⟩ | ⟨c2, hf⟩
    · skip
      replace c2 := ti_leP (a := v9) (b := x1) c2 rfl rfl
      unfold f_X8_parse_231 at hf
      have eX : prX w = 0 := if_neg (fun h => by omega)
      obtain ⟨g1, g2, g3, g4, g5⟩ := pp_232 I8 hP hne hw hb hlw h1 (by omega) (by rw [eX]; rfl) (by rw [o8 3 (by decide)]; exact k3) i6 (by rw [o8 7 (by decide)]; exact k7) (by rw [o8 2 (by decide)]; exact k2) hf
      exact ⟨g1, g2, g3, g4.trans ⟨fun h => ⟨by omega, h⟩, fun h => h.2⟩, fun _ => g5⟩
    · skip
      replace c2 := ti_leN (a := v9) (b := x1) c2 rfl rfl
      obtain ⟨-, hf⟩ := m_chkE hf
      replace hf := m_calY hf P8
      obtain ⟨v11, e_v11, hf⟩ := m_bndE hf
      have t_v11 : v11.toInt = v9.toInt - 1 := ti_sub e_v11 rfl (show (1 : Int32).toInt = 1 from rfl) (by omega) (by omega)
      obtain ⟨-, hf⟩ := m_chkE hf
      obtain ⟨r12, h_r12, hf⟩ := m_calR hf (fun _ h => ro_X6_at h)
      dsimp only at hf
      have p_r12 := pc_X6_at h_r12
      dsimp only at p_r12
      rw [w8.2, t_v11, t_v9, h2, show prN w + -2 - 1 = prN w - 2 - 1 by omega] at p_r12
      rcases m_ifE hf with ⟨c3, hf⟩ | ⟨c3, hf⟩
      · skip
        replace c3 := ti_eqP (a := r12) (b := (120 : Int32)) c3 rfl (show (120 : Int32).toInt = 120 from rfl)
        have eX : prX w = 1 := if_pos ⟨by omega, by omega⟩
        obtain ⟨g1, g2, g3, g4, g5⟩ := pp_232 I8 hP hne hw hb hlw h1 (by omega) (by rw [eX]; rfl) (by rw [o8 3 (by decide)]; exact k3) i6 (by rw [o8 7 (by decide)]; exact k7) (by rw [o8 2 (by decide)]; exact k2) hf
        exact ⟨g1, g2, g3, g4.trans ⟨fun h => ⟨by omega, h⟩, fun h => h.2⟩, fun _ => g5⟩
      · skip
        replace c3 := ti_eqN (a := r12) (b := (120 : Int32)) c3 rfl (show (120 : Int32).toInt = 120 from rfl)
        unfold f_X8_parse_231 at hf
        have eX : prX w = 0 := if_neg (fun h => by omega)
        obtain ⟨g1, g2, g3, g4, g5⟩ := pp_232 I8 hP hne hw hb hlw h1 (by omega) (by rw [eX]; rfl) (by rw [o8 3 (by decide)]; exact k3) i6 (by rw [o8 7 (by decide)]; exact k7) (by rw [o8 2 (by decide)]; exact k2) hf
        exact ⟨g1, g2, g3, g4.trans ⟨fun h => ⟨by omega, h⟩, fun h => h.2⟩, fun _ => g5⟩
theorem pp_102 {S0 : ZS} {t0 : Int32} (hI : PRi S0 S x0) (hP : zP S0 1 x0 = some rw) (hne : rw ≠ x0) (hw : RWL S0 rw w) (hb : ∀ i, 0 ≤ wA w i ∧ wA w i ≤ 127) (hlw : w.length ≤ 8) (h1 : x1.toInt = prS w) (h2 : x2.toInt = (w.length : Int)) (ht : t0.toInt = prK w) (k7 : (zI S 7 x0).toInt = 0) (k2 : (zI S 2 x0).toInt = 0) (hf : f_X8_parse_102 x0 x1 x2 t0 x0 S = some o) : PRi S0 o.2 x0 ∧ (zI o.2 2 x0).toInt = 0 ∧ (o.1.toInt = 0 ∨ o.1.toInt = 1) ∧ (o.1.toInt = 1 ↔ PRSok w) ∧ (o.1.toInt = 1 → PRf o.2 x0 w) := by
  have z2 : (2 : Int32).toInt = 2 := rfl
  unfold PRSok
  unfold f_X8_parse_102 at hf
  obtain ⟨-, hf⟩ := m_chkE hf
  obtain ⟨S1, e_S1, hf⟩ := m_bndE hf
  have I1 := pri_I hI e_S1 (by decide)
  have P1 : zP S1 1 x0 = some rw := by rw [I1.1.2.1]; exact hP
  have i3 : (zI S1 3 x0).toInt = prK w := by rw [e_S1, zI_self]; exact ht
  have o1 : ∀ j, j ≠ 3 → zI S1 j x0 = zI S j x0 := fun j hj => by rw [e_S1, zI_j hj]
  have w1 := sx_rwl I1.1 hne hw
  have no : ¬ (prK w = 1 ∧ wA w ((w.length : Int) - 2) = 61) → f_X8_parse_166 x0 x1 x2 S1 = some o → PRi S0 o.2 x0 ∧ (zI o.2 2 x0).toInt = 0 ∧ (o.1.toInt = 0 ∨ o.1.toInt = 1) ∧ (o.1.toInt = 1 ↔ (prK w = 1 ∧ wA w ((w.length : Int) - 2) = 61 → 2 ≤ prB w ∧ prB w ≤ 5) ∧ prT w ≠ -1 ∧ prJ w = prZ w) ∧ (o.1.toInt = 1 → PRf o.2 x0 w) := by
    intro hn hf
    have eN : prN w = (w.length : Int) := if_neg hn
    have eB : prB w = 0 := if_neg hn
    obtain ⟨g1, g2, g3, g4, g5⟩ := pp_166 I1 hP hne hw hb hlw h1 (by omega) i3 (by rw [o1 7 (by decide), eB]; exact k7) (by rw [o1 2 (by decide)]; exact k2) hf
    exact ⟨g1, g2, g3, g4.trans ⟨fun h => ⟨fun e => absurd e hn, h⟩, fun h => h.2⟩, g5⟩
  obtain ⟨-, hf⟩ := m_chkE hf
  rcases m_ifE hf with ⟨c1, hf⟩ | ⟨c1, hf⟩
  · skip
    replace c1 := ti_eqP (a := (zI S1 3 x0)) (b := (1 : Int32)) c1 rfl (show (1 : Int32).toInt = 1 from rfl)
    obtain ⟨-, hf⟩ := m_chkE hf
    replace hf := m_calY hf P1
    obtain ⟨v3, e_v3, hf⟩ := m_bndE hf
    have t_v3 : v3.toInt = x2.toInt - 2 := ti_sub e_v3 rfl (show (2 : Int32).toInt = 2 from rfl) (by omega) (by omega)
    obtain ⟨-, hf⟩ := m_chkE hf
    obtain ⟨r4, h_r4, hf⟩ := m_calR hf (fun _ h => ro_X6_at h)
    dsimp only at hf
    have p_r4 := pc_X6_at h_r4
    dsimp only at p_r4
    rw [w1.2, t_v3, h2] at p_r4
    rcases m_ifE hf with ⟨c2, hf⟩ | ⟨c2, hf⟩
    · skip
      replace c2 := ti_eqP (a := r4) (b := (61 : Int32)) c2 rfl (show (61 : Int32).toInt = 61 from rfl)
      obtain ⟨-, hf⟩ := m_chkE hf
      replace hf := m_calY hf P1
      obtain ⟨v6, e_v6, hf⟩ := m_bndE hf
      have t_v6 : v6.toInt = x2.toInt - 1 := ti_sub e_v6 rfl (show (1 : Int32).toInt = 1 from rfl) (by omega) (by omega)
      obtain ⟨-, hf⟩ := m_chkE hf
      obtain ⟨r7, h_r7, hf⟩ := m_calR hf (fun _ h => ro_X6_at h)
      dsimp only at hf
      have p_r7 := pc_X6_at h_r7
      dsimp only at p_r7
      rw [w1.2, t_v6, h2] at p_r7
      have b7 := hb ((w.length : Int) - 1)
      obtain ⟨r8, h_r8, hf⟩ := m_calR hf (fun _ h => ro_X11_kindOf h)
      dsimp only at hf
      have p_r8 := pc_X11_kindOf h_r8
      dsimp only at p_r8
      have q8 := p_r8 (by omega)
      rw [p_r7] at q8
      have kb := kO_b (wA w ((w.length : Int) - 1))
      obtain ⟨-, hf⟩ := m_chkE hf
      obtain ⟨S9, e_S9, hf⟩ := m_bndE hf
      have hy : prK w = 1 ∧ wA w ((w.length : Int) - 2) = 61 := ⟨by omega, by omega⟩
      have eN : prN w = (w.length : Int) - 2 := if_pos hy
      have eB : prB w = kO (wA w ((w.length : Int) - 1)) := if_pos hy
      have I9 := pri_I I1 e_S9 (by decide)
      have i7 : (zI S9 7 x0).toInt = prB w := by rw [e_S9, zI_self, eB]; exact q8
      have o9 : ∀ j, j ≠ 7 → zI S9 j x0 = zI S1 j x0 := fun j hj => by rw [e_S9, zI_j hj]
      have k29 : (zI S9 2 x0).toInt = 0 := by rw [o9 2 (by decide), o1 2 (by decide)]; exact k2
      obtain ⟨-, hf⟩ := m_chkE hf
      rcases m_ifE hf with ⟨c3, hf⟩ | ⟨c3, hf⟩
      · skip
        replace c3 := ti_ltP (a := (zI S9 7 x0)) (b := (2 : Int32)) c3 rfl (show (2 : Int32).toInt = 2 from rfl)
        unfold f_X8_parse_161 at hf
        obtain ⟨-, hf⟩ := m_chkE hf
        cases hf
        try dsimp only
        exact ⟨I9, k29, Or.inl rfl, ⟨fun h => absurd h (by decide), fun h => by have := h.1 hy; omega⟩, fun h => absurd h (by decide)⟩
      · skip
        replace c3 := ti_ltN (a := (zI S9 7 x0)) (b := (2 : Int32)) c3 rfl (show (2 : Int32).toInt = 2 from rfl)
        obtain ⟨-, hf⟩ := m_chkE hf
        rcases m_ifE hf with ⟨c4, hf⟩ | ⟨c4, hf⟩
        · skip
          replace c4 := ti_leP (a := (zI S9 7 x0)) (b := (5 : Int32)) c4 rfl (show (5 : Int32).toInt = 5 from rfl)
          obtain ⟨v10, e_v10, hf⟩ := m_bndE hf
          have t_v10 : v10.toInt = x2.toInt + (-2) := ti_add e_v10 rfl (show (-2 : Int32).toInt = -2 from rfl) (by omega) (by omega)
          obtain ⟨g1, g2, g3, g4, g5⟩ := pp_166 I9 hP hne hw hb hlw h1 (by omega) (by rw [o9 3 (by decide)]; exact i3) i7 k29 hf
          exact ⟨g1, g2, g3, g4.trans ⟨fun h => ⟨fun _ => by omega, h⟩, fun h => h.2⟩, g5⟩
        · skip
          replace c4 := ti_leN (a := (zI S9 7 x0)) (b := (5 : Int32)) c4 rfl (show (5 : Int32).toInt = 5 from rfl)
          unfold f_X8_parse_161 at hf
          obtain ⟨-, hf⟩ := m_chkE hf
          cases hf
          try dsimp only
          exact ⟨I9, k29, Or.inl rfl, ⟨fun h => absurd h (by decide), fun h => by have := h.1 hy; omega⟩, fun h => absurd h (by decide)⟩
    · skip
      replace c2 := ti_eqN (a := r4) (b := (61 : Int32)) c2 rfl (show (61 : Int32).toInt = 61 from rfl)
      exact no (fun h => by have := h.2; omega) hf
  · skip
    replace c1 := ti_eqN (a := (zI S1 3 x0)) (b := (1 : Int32)) c1 rfl (show (1 : Int32).toInt = 1 from rfl)
    exact no (fun h => by have := h.1; omega) hf
theorem p_parse (hP : zP S 1 x0 = some rw) (hne : rw ≠ x0) (hw : RWL S rw w) (hb : ∀ i, 0 ≤ wA w i ∧ wA w i ≤ 127) (hlw : w.length ≤ 8) (hf : f_X8_parse x0 S = some o) : PRi S o.2 x0 ∧ ((w = strL 7 ∧ o.1.toInt = 1 ∧ (zI o.2 2 x0).toInt = 2 ∧ (zI o.2 7 x0).toInt = 0) ∨ (w ≠ strL 7 ∧ w = strL 8 ∧ o.1.toInt = 1 ∧ (zI o.2 2 x0).toInt = -2 ∧ (zI o.2 7 x0).toInt = 0) ∨ (w ≠ strL 7 ∧ w ≠ strL 8 ∧ (zI o.2 2 x0).toInt = 0 ∧ (o.1.toInt = 0 ∨ o.1.toInt = 1) ∧ (o.1.toInt = 1 ↔ PRSok w) ∧ (o.1.toInt = 1 → PRf o.2 x0 w))) := by
  have hf : f_X8_parse_0 x0 S = some o := hf
  have z0 : (0 : Int32).toInt = 0 := rfl
  have z1 : (1 : Int32).toInt = 1 := rfl
  have z2 : (2 : Int32).toInt = 2 := rfl
  have z3 : (-2 : Int32).toInt = -2 := rfl
  have hl0 := hw.1
  unfold f_X8_parse_0 at hf
  obtain ⟨-, hf⟩ := m_chkE hf
  obtain ⟨S1, e_S1, hf⟩ := m_bndE hf
  have I1 : PRi S S1 x0 := pri_I ⟨sx_0, fun _ _ => rfl⟩ e_S1 (by decide)
  have P1 : zP S1 1 x0 = some rw := by rw [I1.1.2.1]; exact hP
  have i7 : (zI S1 7 x0).toInt = 0 := by rw [e_S1, zI_self]; rfl
  have w1 := sx_rwl I1.1 hne hw
  have l1 : (zI S1 1 rw).toInt ≤ 100000 := by rw [w1.1]; omega
  obtain ⟨-, hf⟩ := m_chkE hf
  replace hf := m_calY hf P1
  obtain ⟨-, hf⟩ := m_chkE hf
  obtain ⟨r3, h_r3, hf⟩ := m_calR hf (fun _ h => ro_X6_is h)
  dsimp only at hf
  have p_r3 := pc_X6_is h_r3
  dsimp only at p_r3
  obtain ⟨b3, q3⟩ := p_r3 w w1 l1
  rcases m_ifE hf with ⟨c1, hf⟩ | ⟨c1, hf⟩
  · skip
    replace c1 := ti_eqP (a := r3) (b := (0 : Int32)) c1 rfl (show (0 : Int32).toInt = 0 from rfl)
    obtain ⟨-, hf⟩ := m_chkE hf
    replace hf := m_calY hf P1
    obtain ⟨-, hf⟩ := m_chkE hf
    obtain ⟨r5, h_r5, hf⟩ := m_calR hf (fun _ h => ro_X6_is h)
    dsimp only at hf
    have p_r5 := pc_X6_is h_r5
    dsimp only at p_r5
    obtain ⟨b5, q5⟩ := p_r5 w w1 l1
    rcases m_ifE hf with ⟨c2, hf⟩ | ⟨c2, hf⟩
    · skip
      replace c2 := ti_eqP (a := r5) (b := (0 : Int32)) c2 rfl (show (0 : Int32).toInt = 0 from rfl)
      have n7 : w ≠ strL 7 := fun h => by have := q3.2 h; omega
      have n8 : w ≠ strL 8 := fun h => by have := q5.2 h; omega
      unfold f_X8_parse_40 at hf
      obtain ⟨-, hf⟩ := m_chkE hf
      obtain ⟨S2, e2, hf⟩ := m_bndE hf
      have I2 := pri_I I1 e2 (by decide)
      have P2 : zP S2 1 x0 = some rw := by rw [I2.1.2.1]; exact hP
      have w2 := sx_rwl I2.1 hne hw
      have i2 : (zI S2 2 x0).toInt = 0 := by rw [e2, zI_self]; rfl
      have i72 : (zI S2 7 x0).toInt = 0 := by rw [e2, zI_j (by decide)]; exact i7
      obtain ⟨-, hf⟩ := m_chkE hf
      rcases m_ifE hf with ⟨c3, hf⟩ | ⟨c3, hf⟩
      · obtain ⟨-, hf⟩ := m_chkE hf
        replace hf := m_calY hf P2
        obtain ⟨-, hf⟩ := m_chkE hf
        obtain ⟨r6, h6, hf⟩ := m_calR hf (fun _ h => ro_X6_at h)
        have p6 := pc_X6_at h6
        dsimp only at hf p6
        rw [w2.2, z0] at p6
        have b6 := hb 0
        obtain ⟨r7, h7, hf⟩ := m_calR hf (fun _ h => ro_X11_kindOf h)
        have p7 := pc_X11_kindOf h7 (by omega)
        dsimp only at hf p7
        rw [p6] at p7
        have kb := kO_b (wA w 0)
        have fin : ∀ {t0 : Int32}, (t0.toInt = 1 ↔ 2 ≤ kO (wA w 0)) → (t0.toInt = 0 ∨ t0.toInt = 1) → f_X8_parse_72 x0 t0 S2 = some o → PRi S o.2 x0 ∧ ((zI o.2 2 x0).toInt = 0 ∧ (o.1.toInt = 0 ∨ o.1.toInt = 1) ∧ (o.1.toInt = 1 ↔ PRSok w) ∧ (o.1.toInt = 1 → PRf o.2 x0 w)) := by
          intro t0 ht ht2 hf
          have eS : t0.toInt = prS w := by
            unfold prS
            split <;> omega
          unfold f_X8_parse_72 at hf
          obtain ⟨-, hf⟩ := m_chkE hf
          replace hf := m_calY hf P2
          obtain ⟨-, hf⟩ := m_chkE hf
          obtain ⟨r8, h8, hf⟩ := m_calR hf (fun _ h => ro_X6_size h)
          have p8 := pc_X6_size h8
          dsimp only at hf p8
          have l8 : r8.toInt = (w.length : Int) := by rw [p8]; exact w2.1
          rcases m_ifE hf with ⟨c4, hf⟩ | ⟨c4, hf⟩
          · obtain ⟨-, hf⟩ := m_chkE hf
            replace hf := m_calY hf P2
            obtain ⟨-, hf⟩ := m_chkE hf
            obtain ⟨r9, h9, hf⟩ := m_calR hf (fun _ h => ro_X6_at h)
            have p9 := pc_X6_at h9
            dsimp only at hf p9
            rw [w2.2, z0] at p9
            obtain ⟨r10, h10, hf⟩ := m_calR hf (fun _ h => ro_X11_kindOf h)
            have p10 := pc_X11_kindOf h10 (by omega)
            dsimp only at hf p10
            rw [p9] at p10
            have e1 : t0.toInt = 1 := by rw [c4]; rfl
            have eK : r10.toInt = prK w := by
              unfold prK
              rw [if_pos (ht.1 e1), p10]
            obtain ⟨g1, g2, g3, g4, g5⟩ := pp_102 I2 hP hne hw hb hlw eS l8 eK i72 i2 hf
            exact ⟨g1, g2, g3, g4, g5⟩
          · have e1 : t0.toInt = 0 := ht2.resolve_right (fun h => c4 (Int32.toInt_inj.1 h))
            have eK : (1 : Int32).toInt = prK w := by
              unfold prK
              rw [if_neg (fun h => by have := ht.2 h; omega)]
              rfl
            obtain ⟨g1, g2, g3, g4, g5⟩ := pp_102 I2 hP hne hw hb hlw eS l8 eK i72 i2 hf
            exact ⟨g1, g2, g3, g4, g5⟩
        rcases m_ifE hf with ⟨c4, hf⟩ | ⟨c4, hf⟩
        · replace c4 := ti_ltP (a := r7) (b := (2 : Int32)) c4 rfl rfl
          obtain ⟨g1, g2⟩ := fin ⟨fun h => absurd h (by decide), fun h => by omega⟩ (Or.inl rfl) hf
          exact ⟨g1, Or.inr (Or.inr ⟨n7, n8, g2⟩)⟩
        · replace c4 := ti_ltN (a := r7) (b := (2 : Int32)) c4 rfl rfl
          obtain ⟨g1, g2⟩ := fin ⟨fun _ => by omega, fun _ => rfl⟩ (Or.inr rfl) hf
          exact ⟨g1, Or.inr (Or.inr ⟨n7, n8, g2⟩)⟩
      · exact absurd (Int32.toInt_inj.1 (i2.trans z0.symm)) c3
    · skip
      replace c2 := ti_eqN (a := r5) (b := (0 : Int32)) c2 rfl (show (0 : Int32).toInt = 0 from rfl)
      have n7 : w ≠ strL 7 := fun h => by have := q3.2 h; omega
      unfold f_X8_parse_40 at hf
      obtain ⟨-, hf⟩ := m_chkE hf
      obtain ⟨S2, e2, hf⟩ := m_bndE hf
      have i2 : (zI S2 2 x0).toInt = -2 := by rw [e2, zI_self]; rfl
      obtain ⟨-, hf⟩ := m_chkE hf
      rcases m_ifE hf with ⟨c3, hf⟩ | ⟨c3, hf⟩
      · rw [c3] at i2
        omega
      · obtain ⟨-, hf⟩ := m_chkE hf
        cases hf
        exact ⟨pri_I I1 e2 (by decide), Or.inr (Or.inl ⟨n7, q5.1 (by omega), rfl, i2, by rw [e2, zI_j (by decide)]; exact i7⟩)⟩
  · skip
    replace c1 := ti_eqN (a := r3) (b := (0 : Int32)) c1 rfl (show (0 : Int32).toInt = 0 from rfl)
    unfold f_X8_parse_40 at hf
    obtain ⟨-, hf⟩ := m_chkE hf
    obtain ⟨S2, e2, hf⟩ := m_bndE hf
    have i2 : (zI S2 2 x0).toInt = 2 := by rw [e2, zI_self]; rfl
    obtain ⟨-, hf⟩ := m_chkE hf
    rcases m_ifE hf with ⟨c3, hf⟩ | ⟨c3, hf⟩
    · rw [c3] at i2
      omega
    · obtain ⟨-, hf⟩ := m_chkE hf
      cases hf
      exact ⟨pri_I I1 e2 (by decide), Or.inl ⟨q3.1 (by omega), rfl, i2, by rw [e2, zI_j (by decide)]; exact i7⟩⟩
end PAP
end
section
/-- what reading signs may change: ints of the reader x0, the row rw, the boards tb and ab, the array fa -/
noncomputable def MTF (S S' : ZS) (x0 rw tb ab fa : Nat) : Prop := (∀ a, zK S a < 18 → zK S' a = zK S a ∧ zN S' a = zN S a) ∧ (∀ a j, zK S a < 18 → a ≠ x0 → a ≠ rw → a ≠ tb → a ≠ ab → zI S' j a = zI S j a) ∧ (∀ a j, zK S a < 18 → (a ≠ rw ∨ j ≠ 0) → zP S' j a = zP S j a) ∧ (∀ a, zK S a < 18 → zK S a ≠ 13 → a ≠ tb + 1 → a ≠ ab + 1 → a ≠ fa → zA S' a = zA S a) ∧ (∀ a, zK S a < 18 → zB S' a = zB S a) ∧ (∀ a c, zK S a = 6 → a ≠ rw → zP S 0 a = some c → zA S' c = zA S c)
section MTS
variable {S S1 S2 S' : ZS} {x0 rw tb ab fa : Nat}
theorem mtf_0 : MTF S S x0 rw tb ab fa := ⟨fun _ _ => ⟨rfl, rfl⟩, fun _ _ _ _ _ _ _ => rfl, fun _ _ _ _ => rfl, fun _ _ _ _ _ _ => rfl, fun _ _ => rfl, fun _ _ _ _ _ => rfl⟩
theorem mtf_t (h : MTF S S1 x0 rw tb ab fa) (g : MTF S1 S2 x0 rw tb ab fa) : MTF S S2 x0 rw tb ab fa := by
  obtain ⟨h1, h2, h3, h4, h5, h6⟩ := h
  obtain ⟨g1, g2, g3, g4, g5, g6⟩ := g
  have k : ∀ a, zK S a < 18 → zK S1 a < 18 := fun a ha => by rw [(h1 a ha).1]; exact ha
  refine ⟨fun a ha => ⟨(g1 a (k a ha)).1.trans (h1 a ha).1, (g1 a (k a ha)).2.trans (h1 a ha).2⟩, fun a j ha b c d e => (g2 a j (k a ha) b c d e).trans (h2 a j ha b c d e), fun a j ha b => (g3 a j (k a ha) b).trans (h3 a j ha b), fun a ha b c d e => (g4 a (k a ha) (by rw [(h1 a ha).1]; exact b) c d e).trans (h4 a ha b c d e), fun a ha => (g5 a (k a ha)).trans (h5 a ha), fun a c ha hb hc => ?_⟩
  have ha2 : zK S a < 18 := by rw [ha]; decide
  exact (g6 a c (by rw [(h1 a ha2).1]; exact ha) hb (by rw [h3 a 0 ha2 (Or.inl hb)]; exact hc)).trans (h6 a c ha hb hc)
theorem mtf_r (h : RWF S S' rw) : MTF S S' x0 rw tb ab fa := by
  obtain ⟨h1, h2, h3, h4, h5, h6, h7⟩ := h
  refine ⟨h1, fun a j ha _ b _ _ => (h2 a j ha b).1, fun a j ha hb => ?_, fun a ha b _ _ _ => h5 a ha b, h6, h7⟩
  by_cases e : a = rw
  · subst e
    exact h4 j (hb.resolve_left (fun g => g rfl))
  · exact (h2 a j ha e).2
theorem mtf_s (h : SBt S S' tb ab) (hT : ZT S) (k1 : zK S (tb + 1) = 14) (k2 : zK S (ab + 1) = 14) : MTF S S' x0 rw tb ab fa := by
  obtain ⟨h1, h2, h3, h4, -⟩ := h
  refine ⟨fun a _ => ⟨by rw [h1.2.2.1], by rw [h1.2.2.2.1]⟩, fun a j _ _ _ b c => h3 j a b c, fun a j _ _ => by rw [h2], fun a _ _ b c _ => h4 a b c, fun a _ => by rw [h1.2.2.2.2], fun a c ha _ hc => ?_⟩
  obtain ⟨b, hb, hb2, -⟩ := hT.2.1 a ha
  rw [hb] at hc
  have e9 : b = c := Option.some.inj hc
  rw [e9] at hb2
  have z0 := hT.2.2.2.2.2.1
  refine h4 c (fun e => ?_) (fun e => ?_)
  · rcases hb2 with g | g
    · rw [g] at e; rw [e, k1] at z0; exact absurd z0 (by decide)
    · rw [e, k1] at g; exact absurd g (by decide)
  · rcases hb2 with g | g
    · rw [g] at e; rw [e, k2] at z0; exact absurd z0 (by decide)
    · rw [e, k2] at g; exact absurd g (by decide)
theorem mtf_x (h : SXf S S' x0) : MTF S S' x0 rw tb ab fa := ⟨fun a _ => ⟨by rw [h.1], by rw [h.2.2.1]⟩, fun a j _ b _ _ _ => h.2.2.2.2.2 j a b, fun a j _ _ => by rw [h.2.1], fun a _ _ _ _ _ => by rw [h.2.2.2.1], fun a _ => by rw [h.2.2.2.2.1], fun a c _ _ _ => by rw [h.2.2.2.1]⟩
theorem mtf_A {i : Nat} {v : Int32} (e : S' = zsA S fa i v) (hT : ZT S) (k1 : zK S fa = 14) : MTF S S' x0 rw tb ab fa := by
  subst e
  refine ⟨fun _ _ => ⟨rfl, rfl⟩, fun _ _ _ _ _ _ _ => rfl, fun _ _ _ _ => rfl, fun a _ _ _ _ b => va_up_ne _ _ b, fun _ _ => rfl, fun a c ha _ hc => va_up_ne _ _ (fun e => ?_)⟩
  obtain ⟨b, hb, hb2, -⟩ := hT.2.1 a ha
  rw [hb] at hc
  cases hc
  have z0 := hT.2.2.2.2.2.1
  rcases hb2 with g | g
  · rw [g] at e; rw [e, k1] at z0; exact absurd z0 (by decide)
  · rw [e, k1] at g; exact absurd g (by decide)
theorem mtf_rw {a : Nat} (h : MTF S S' x0 rw tb ab fa) (ha : zK S a = 6) (hb : a ≠ rw) (h8 : zK S x0 = 8) (ht : zK S tb = 0) (hab : zK S ab = 0) : rwC S' a = rwC S a := by
  obtain ⟨h1, h2, h3, h4, h5, h6⟩ := h
  have ha2 : zK S a < 18 := by rw [ha]; decide
  funext i
  unfold rwC
  rw [h2 a 1 ha2 (fun e => by rw [e, h8] at ha; exact absurd ha (by decide)) hb (fun e => by rw [e, ht] at ha; exact absurd ha (by decide)) (fun e => by rw [e, hab] at ha; exact absurd ha (by decide)), h3 a 0 ha2 (Or.inl hb)]
  cases hc : zP S 0 a with
  | none => rfl
  | some c =>
    have e := h6 a c ha hb hc
    simp only [e]
end MTS
/-- a square that the parts of a word ask for -/
noncomputable def ftF (m : Int → Int) (sd kd fl rk to bc tk a : Int) : Prop := m a = kd + 8 * sd ∧ ¬ cas m a to ∧ (fl = -1 ∨ fl = a % 8) ∧ (rk = -1 ∨ rk = a / 8) ∧ ¬ (kd = 1 ∧ tkg m a to ∧ fl = -1) ∧ (tk = -1 ∨ (tkg m a to ↔ tk = 1)) ∧ ((m a % 8 = 1 ∧ (to < 8 ∨ 56 ≤ to)) ↔ bc ≠ 0)
noncomputable def askC (m : Int → Int) (sd cs kd fl rk to bc tk a : Int) : Prop := (cs ≠ 0 ∧ a = 4 + 56 * sd ∧ cas m a to) ∨ (cs = 0 ∧ ftF m sd kd fl rk to bc tk a)
section FFR
variable {m : Int → Int} {sd kd fl rk to bc tk : Int} {S : ZS} {x0 bb : Nat} {x2 : Int32} {o : Int32 × ZS}
theorem ff_129 (hT : ZT S) (kb : zK S bb = 0) (hm : mCb S bb = m) (hM : MBd m) (h2 : 0 ≤ x2.toInt ∧ x2.toInt ≤ 63) (e6 : (zI S 6 x0).toInt = to) (e7 : (zI S 7 x0).toInt = bc) (hf : f_X8_fitsFrom_129 x0 bb x2 S = some o) : (o.1.toInt = 0 ∨ o.1.toInt = 1) ∧ (o.1.toInt = 1 ↔ ((m x2.toInt % 8 = 1 ∧ (to < 8 ∨ 56 ≤ to)) ↔ bc ≠ 0)) := by
  have z0 : (0 : Int32).toInt = 0 := rfl
  have z1 : (1 : Int32).toInt = 1 := rfl
  unfold f_X8_fitsFrom_129 at hf
  obtain ⟨-, hf⟩ := m_chkE hf
  obtain ⟨-, hf⟩ := m_chkE hf
  obtain ⟨r1, h_r1, hf⟩ := m_calR hf (fun _ h => ro_X0_becomesAnother h)
  dsimp only at hf
  obtain ⟨-, b1, q1⟩ := ok_of (x_f_X0_becomesAnother (x2 := zI S 6 x0) hT kb h2 (by rw [hm]; exact hM)) h_r1
  dsimp only at b1 q1
  rw [hm, e6] at q1
  obtain ⟨-, hf⟩ := m_chkE hf
  rcases m_ifE hf with ⟨c1, hf⟩ | ⟨c1, hf⟩
  · skip
    replace c1 := ti_eqP (a := (zI S 7 x0)) (b := (0 : Int32)) c1 rfl (show (0 : Int32).toInt = 0 from rfl)
    unfold f_X8_fitsFrom_150 at hf
    rcases m_ifE hf with ⟨c2, hf⟩ | ⟨c2, hf⟩
    · skip
      replace c2 := ti_eqP (a := r1) (b := (0 : Int32)) c2 rfl (show (0 : Int32).toInt = 0 from rfl)
      unfold f_X8_fitsFrom_158 at hf
      obtain ⟨-, hf⟩ := m_chkE hf
      cases hf
      try dsimp only
      rw [← q1]
      omega
    · skip
      replace c2 := ti_eqN (a := r1) (b := (0 : Int32)) c2 rfl (show (0 : Int32).toInt = 0 from rfl)
      unfold f_X8_fitsFrom_157 at hf
      unfold f_X8_fitsFrom_158 at hf
      obtain ⟨-, hf⟩ := m_chkE hf
      cases hf
      try dsimp only
      rw [← q1]
      omega
  · skip
    replace c1 := ti_eqN (a := (zI S 7 x0)) (b := (0 : Int32)) c1 rfl (show (0 : Int32).toInt = 0 from rfl)
    unfold f_X8_fitsFrom_150 at hf
    rcases m_ifE hf with ⟨c3, hf⟩ | ⟨c3, hf⟩
    · skip
      replace c3 := ti_eqP (a := r1) (b := (1 : Int32)) c3 rfl (show (1 : Int32).toInt = 1 from rfl)
      unfold f_X8_fitsFrom_158 at hf
      obtain ⟨-, hf⟩ := m_chkE hf
      cases hf
      try dsimp only
      rw [← q1]
      omega
    · skip
      replace c3 := ti_eqN (a := r1) (b := (1 : Int32)) c3 rfl (show (1 : Int32).toInt = 1 from rfl)
      unfold f_X8_fitsFrom_157 at hf
      unfold f_X8_fitsFrom_158 at hf
      obtain ⟨-, hf⟩ := m_chkE hf
      cases hf
      try dsimp only
      rw [← q1]
      omega
theorem ff_104 {x3 : Int32} (hT : ZT S) (kb : zK S bb = 0) (hm : mCb S bb = m) (hM : MBd m) (h2 : 0 ≤ x2.toInt ∧ x2.toInt ≤ 63) (e6 : (zI S 6 x0).toInt = to) (e7 : (zI S 7 x0).toInt = bc) (e8 : (zI S 8 x0).toInt = tk) (htk : -1 ≤ tk ∧ tk ≤ 1) (h3 : x3.toInt = 0 ∨ x3.toInt = 1) (q3 : x3.toInt = 1 ↔ tkg m x2.toInt to) (hf : f_X8_fitsFrom_104 x0 bb x2 x3 S = some o) : (o.1.toInt = 0 ∨ o.1.toInt = 1) ∧ (o.1.toInt = 1 ↔ (tk = -1 ∨ (tkg m x2.toInt to ↔ tk = 1)) ∧ ((m x2.toInt % 8 = 1 ∧ (to < 8 ∨ 56 ≤ to)) ↔ bc ≠ 0)) := by
  have z1 : (-1 : Int32).toInt = -1 := rfl
  have z0 : (0 : Int32).toInt = 0 := rfl
  have z2 : (1 : Int32).toInt = 1 := rfl
  unfold f_X8_fitsFrom_104 at hf
  obtain ⟨-, hf⟩ := m_chkE hf
  rcases m_ifE hf with ⟨c1, hf⟩ | ⟨c1, hf⟩
  · skip
    replace c1 := ti_eqP (a := (zI S 8 x0)) (b := (-1 : Int32)) c1 rfl (show (-1 : Int32).toInt = -1 from rfl)
    obtain ⟨g1, g2⟩ := ff_129 hT kb hm hM h2 e6 e7 hf
    exact ⟨g1, g2.trans ⟨fun h => ⟨by rw [← q3]; omega, h⟩, fun h => h.2⟩⟩
  · skip
    replace c1 := ti_eqN (a := (zI S 8 x0)) (b := (-1 : Int32)) c1 rfl (show (-1 : Int32).toInt = -1 from rfl)
    obtain ⟨-, hf⟩ := m_chkE hf
    rcases m_ifE hf with ⟨c2, hf⟩ | ⟨c2, hf⟩
    · skip
      replace c2 := ti_eqP (a := (zI S 8 x0)) (b := (1 : Int32)) c2 rfl (show (1 : Int32).toInt = 1 from rfl)
      unfold f_X8_fitsFrom_126 at hf
      rcases m_ifE hf with ⟨c3, hf⟩ | ⟨c3, hf⟩
      · skip
        replace c3 := ti_eqP (a := x3) (b := (1 : Int32)) c3 rfl (show (1 : Int32).toInt = 1 from rfl)
        obtain ⟨g1, g2⟩ := ff_129 hT kb hm hM h2 e6 e7 hf
        exact ⟨g1, g2.trans ⟨fun h => ⟨by rw [← q3]; omega, h⟩, fun h => h.2⟩⟩
      · skip
        replace c3 := ti_eqN (a := x3) (b := (1 : Int32)) c3 rfl (show (1 : Int32).toInt = 1 from rfl)
        unfold f_X8_fitsFrom_157 at hf
        unfold f_X8_fitsFrom_158 at hf
        obtain ⟨-, hf⟩ := m_chkE hf
        cases hf
        try dsimp only
        refine ⟨Or.inl rfl, fun h => absurd h (by decide), fun h => ?_⟩
        exfalso
        have := h.1
        rw [← q3] at this
        omega
    · skip
      replace c2 := ti_eqN (a := (zI S 8 x0)) (b := (1 : Int32)) c2 rfl (show (1 : Int32).toInt = 1 from rfl)
      unfold f_X8_fitsFrom_126 at hf
      rcases m_ifE hf with ⟨c4, hf⟩ | ⟨c4, hf⟩
      · skip
        replace c4 := ti_eqP (a := x3) (b := (0 : Int32)) c4 rfl (show (0 : Int32).toInt = 0 from rfl)
        obtain ⟨g1, g2⟩ := ff_129 hT kb hm hM h2 e6 e7 hf
        exact ⟨g1, g2.trans ⟨fun h => ⟨by rw [← q3]; omega, h⟩, fun h => h.2⟩⟩
      · skip
        replace c4 := ti_eqN (a := x3) (b := (0 : Int32)) c4 rfl (show (0 : Int32).toInt = 0 from rfl)
        unfold f_X8_fitsFrom_157 at hf
        unfold f_X8_fitsFrom_158 at hf
        obtain ⟨-, hf⟩ := m_chkE hf
        cases hf
        try dsimp only
        refine ⟨Or.inl rfl, fun h => absurd h (by decide), fun h => ?_⟩
        exfalso
        have := h.1
        rw [← q3] at this
        omega
theorem ff_72 (hT : ZT S) (kb : zK S bb = 0) (hm : mCb S bb = m) (hM : MBd m) (h2 : 0 ≤ x2.toInt ∧ x2.toInt ≤ 63) (e3 : (zI S 3 x0).toInt = kd) (e4 : (zI S 4 x0).toInt = fl) (e6 : (zI S 6 x0).toInt = to) (hto : 0 ≤ to ∧ to ≤ 63) (e7 : (zI S 7 x0).toInt = bc) (e8 : (zI S 8 x0).toInt = tk) (htk : -1 ≤ tk ∧ tk ≤ 1) (hf : f_X8_fitsFrom_72 x0 bb x2 S = some o) : (o.1.toInt = 0 ∨ o.1.toInt = 1) ∧ (o.1.toInt = 1 ↔ ¬ (kd = 1 ∧ tkg m x2.toInt to ∧ fl = -1) ∧ (tk = -1 ∨ (tkg m x2.toInt to ↔ tk = 1)) ∧ ((m x2.toInt % 8 = 1 ∧ (to < 8 ∨ 56 ≤ to)) ↔ bc ≠ 0)) := by
  have z1 : (-1 : Int32).toInt = -1 := rfl
  have z0 : (0 : Int32).toInt = 0 := rfl
  unfold f_X8_fitsFrom_72 at hf
  obtain ⟨-, hf⟩ := m_chkE hf
  obtain ⟨-, hf⟩ := m_chkE hf
  obtain ⟨r1, h_r1, hf⟩ := m_calR hf (fun _ h => ro_X0_takes h)
  dsimp only at hf
  obtain ⟨-, b1, q1⟩ := ok_of (x_f_X0_takes (x2 := zI S 6 x0) hT kb h2 (by omega) (by rw [hm]; exact hM)) h_r1
  dsimp only at b1 q1
  rw [hm, e6] at q1
  obtain ⟨-, hf⟩ := m_chkE hf
  rcases m_ifE hf with ⟨c1, hf⟩ | ⟨c1, hf⟩
  · skip
    replace c1 := ti_eqP (a := (zI S 3 x0)) (b := (1 : Int32)) c1 rfl (show (1 : Int32).toInt = 1 from rfl)
    rcases m_ifE hf with ⟨c2, hf⟩ | ⟨c2, hf⟩
    · skip
      replace c2 := ti_eqP (a := r1) (b := (0 : Int32)) c2 rfl (show (0 : Int32).toInt = 0 from rfl)
      obtain ⟨g1, g2⟩ := ff_104 hT kb hm hM h2 e6 e7 e8 htk (by omega) q1 hf
      refine ⟨g1, g2.trans ⟨fun h => ⟨?_, h⟩, fun h => h.2⟩⟩
      rw [← q1]
      omega
    · skip
      replace c2 := ti_eqN (a := r1) (b := (0 : Int32)) c2 rfl (show (0 : Int32).toInt = 0 from rfl)
      obtain ⟨-, hf⟩ := m_chkE hf
      rcases m_ifE hf with ⟨c3, hf⟩ | ⟨c3, hf⟩
      · skip
        replace c3 := ti_eqP (a := (zI S 4 x0)) (b := (-1 : Int32)) c3 rfl (show (-1 : Int32).toInt = -1 from rfl)
        obtain ⟨-, hf⟩ := m_chkE hf
        cases hf
        try dsimp only
        refine ⟨Or.inl rfl, fun h => absurd h (by decide), fun h => ?_⟩
        exfalso
        have := h.1
        rw [← q1] at this
        omega
      · skip
        replace c3 := ti_eqN (a := (zI S 4 x0)) (b := (-1 : Int32)) c3 rfl (show (-1 : Int32).toInt = -1 from rfl)
        obtain ⟨g1, g2⟩ := ff_104 hT kb hm hM h2 e6 e7 e8 htk (by omega) q1 hf
        refine ⟨g1, g2.trans ⟨fun h => ⟨?_, h⟩, fun h => h.2⟩⟩
        rw [← q1]
        omega
  · skip
    replace c1 := ti_eqN (a := (zI S 3 x0)) (b := (1 : Int32)) c1 rfl (show (1 : Int32).toInt = 1 from rfl)
    obtain ⟨g1, g2⟩ := ff_104 hT kb hm hM h2 e6 e7 e8 htk (by omega) q1 hf
    refine ⟨g1, g2.trans ⟨fun h => ⟨?_, h⟩, fun h => h.2⟩⟩
    rw [← q1]
    omega
theorem ff_52 (hT : ZT S) (kb : zK S bb = 0) (hm : mCb S bb = m) (hM : MBd m) (h2 : 0 ≤ x2.toInt ∧ x2.toInt ≤ 63) (e3 : (zI S 3 x0).toInt = kd) (e4 : (zI S 4 x0).toInt = fl) (e5 : (zI S 5 x0).toInt = rk) (e6 : (zI S 6 x0).toInt = to) (hto : 0 ≤ to ∧ to ≤ 63) (e7 : (zI S 7 x0).toInt = bc) (e8 : (zI S 8 x0).toInt = tk) (htk : -1 ≤ tk ∧ tk ≤ 1) (hm2 : m x2.toInt = kd + 8 * sd) (ncs : ¬ cas m x2.toInt to) (hfl : fl = -1 ∨ fl = x2.toInt % 8) (hf : f_X8_fitsFrom_52 x0 bb x2 S = some o) : (o.1.toInt = 0 ∨ o.1.toInt = 1) ∧ (o.1.toInt = 1 ↔ m x2.toInt = kd + 8 * sd ∧ ¬ cas m x2.toInt to ∧ (fl = -1 ∨ fl = x2.toInt % 8) ∧ (rk = -1 ∨ rk = x2.toInt / 8) ∧ ¬ (kd = 1 ∧ tkg m x2.toInt to ∧ fl = -1) ∧ (tk = -1 ∨ (tkg m x2.toInt to ↔ tk = 1)) ∧ ((m x2.toInt % 8 = 1 ∧ (to < 8 ∨ 56 ≤ to)) ↔ bc ≠ 0)) := by
  have z1 : (-1 : Int32).toInt = -1 := rfl
  unfold f_X8_fitsFrom_52 at hf
  obtain ⟨-, hf⟩ := m_chkE hf
  rcases m_ifE hf with ⟨c1, hf⟩ | ⟨c1, hf⟩
  · skip
    replace c1 := ti_eqP (a := (zI S 5 x0)) (b := (-1 : Int32)) c1 rfl (show (-1 : Int32).toInt = -1 from rfl)
    obtain ⟨g1, g2⟩ := ff_72 hT kb hm hM h2 e3 e4 e6 hto e7 e8 htk hf
    exact ⟨g1, g2.trans ⟨fun h => ⟨hm2, ncs, hfl, Or.inl (by omega), h⟩, fun h => h.2.2.2.2⟩⟩
  · skip
    replace c1 := ti_eqN (a := (zI S 5 x0)) (b := (-1 : Int32)) c1 rfl (show (-1 : Int32).toInt = -1 from rfl)
    obtain ⟨-, hf⟩ := m_chkE hf
    obtain ⟨v1, e_v1, hf⟩ := m_bndE hf
    have t9 : v1.toInt = x2.toInt / 8 := b_sh3 e_v1 (by omega)
    rcases m_ifE hf with ⟨c2, hf⟩ | ⟨c2, hf⟩
    · skip
      replace c2 := ti_eqP (a := (zI S 5 x0)) (b := v1) c2 rfl rfl
      obtain ⟨g1, g2⟩ := ff_72 hT kb hm hM h2 e3 e4 e6 hto e7 e8 htk hf
      exact ⟨g1, g2.trans ⟨fun h => ⟨hm2, ncs, hfl, Or.inr (by omega), h⟩, fun h => h.2.2.2.2⟩⟩
    · skip
      replace c2 := ti_eqN (a := (zI S 5 x0)) (b := v1) c2 rfl rfl
      unfold f_X8_fitsFrom_70 at hf
      obtain ⟨-, hf⟩ := m_chkE hf
      cases hf
      try dsimp only
      exact ⟨Or.inl rfl, fun h => absurd h (by decide), fun h => by have := h.2.2.2.1; omega⟩
theorem p_fitsFrom (hT : ZT S) (kb : zK S bb = 0) (hpb : zP S 0 bb = some (bb + 1)) (hm : mCb S bb = m) (hM : MBd m) (hs : (zI S 3 bb).toInt = sd) (hs2 : sd = 0 ∨ sd = 1) (h2 : 0 ≤ x2.toInt ∧ x2.toInt ≤ 63) (e3 : (zI S 3 x0).toInt = kd) (hkd : 0 ≤ kd ∧ kd ≤ 6) (e4 : (zI S 4 x0).toInt = fl) (e5 : (zI S 5 x0).toInt = rk) (e6 : (zI S 6 x0).toInt = to) (hto : 0 ≤ to ∧ to ≤ 63) (e7 : (zI S 7 x0).toInt = bc) (e8 : (zI S 8 x0).toInt = tk) (htk : -1 ≤ tk ∧ tk ≤ 1) (hf : f_X8_fitsFrom x0 bb x2 S = some o) : (o.1.toInt = 0 ∨ o.1.toInt = 1) ∧ (o.1.toInt = 1 ↔ ftF m sd kd fl rk to bc tk x2.toInt) := by
  have hf : f_X8_fitsFrom_0 x0 bb x2 S = some o := hf
  have z1 : (-1 : Int32).toInt = -1 := rfl
  have z0 : (0 : Int32).toInt = 0 := rfl
  unfold ftF
  unfold f_X8_fitsFrom_0 at hf
  obtain ⟨-, hf⟩ := m_chkE hf
  replace hf := m_calY hf hpb
  obtain ⟨-, hf⟩ := m_chkE hf
  obtain ⟨-, hf⟩ := m_chkE hf
  obtain ⟨v2, e_v2, hf⟩ := m_bndE hf
  have q2 := mB_at (b := bb) hpb e_v2 (by omega) (by omega)
  rw [hm] at q2
  obtain ⟨-, hf⟩ := m_chkE hf
  obtain ⟨-, hf⟩ := m_chkE hf
  obtain ⟨v3, e_v3, hf⟩ := m_bndE hf
  have t_v3 : v3.toInt = 8 * (zI S 3 bb).toInt := ti_mul e_v3 (show (8 : Int32).toInt = 8 from rfl) rfl (by omega) (by omega)
  obtain ⟨v4, e_v4, hf⟩ := m_bndE hf
  have t_v4 : v4.toInt = (zI S 3 x0).toInt + v3.toInt := ti_add e_v4 rfl rfl (by omega) (by omega)
  rcases m_ifE hf with ⟨c1, hf⟩ | ⟨c1, hf⟩
  · skip
    replace c1 := ti_eqP (a := v2) (b := v4) c1 rfl rfl
    obtain ⟨-, hf⟩ := m_chkE hf
    obtain ⟨-, hf⟩ := m_chkE hf
    obtain ⟨r5, h_r5, hf⟩ := m_calR hf (fun _ h => ro_X0_castles h)
    dsimp only at hf
    obtain ⟨-, b5, q5⟩ := ok_of (x_f_X0_castles (x2 := zI S 6 x0) hT kb h2 (by omega) (by rw [hm]; exact hM)) h_r5
    dsimp only at b5 q5
    rw [hm, e6] at q5
    rcases m_ifE hf with ⟨c2, hf⟩ | ⟨c2, hf⟩
    · skip
      replace c2 := ti_eqP (a := r5) (b := (0 : Int32)) c2 rfl (show (0 : Int32).toInt = 0 from rfl)
      obtain ⟨-, hf⟩ := m_chkE hf
      rcases m_ifE hf with ⟨c3, hf⟩ | ⟨c3, hf⟩
      · skip
        replace c3 := ti_eqP (a := (zI S 4 x0)) (b := (-1 : Int32)) c3 rfl (show (-1 : Int32).toInt = -1 from rfl)
        exact ff_52 hT kb hm hM h2 e3 e4 e5 e6 hto e7 e8 htk (by omega) (fun h => by have := q5.2 h; omega) (Or.inl (by omega)) hf
      · skip
        replace c3 := ti_eqN (a := (zI S 4 x0)) (b := (-1 : Int32)) c3 rfl (show (-1 : Int32).toInt = -1 from rfl)
        obtain ⟨-, hf⟩ := m_chkE hf
        obtain ⟨v6, e_v6, hf⟩ := m_bndE hf
        have t9 : v6.toInt = x2.toInt % 8 := sq_7 e_v6 (by omega)
        rcases m_ifE hf with ⟨c4, hf⟩ | ⟨c4, hf⟩
        · skip
          replace c4 := ti_eqP (a := (zI S 4 x0)) (b := v6) c4 rfl rfl
          exact ff_52 hT kb hm hM h2 e3 e4 e5 e6 hto e7 e8 htk (by omega) (fun h => by have := q5.2 h; omega) (Or.inr (by omega)) hf
        · skip
          replace c4 := ti_eqN (a := (zI S 4 x0)) (b := v6) c4 rfl rfl
          unfold f_X8_fitsFrom_70 at hf
          obtain ⟨-, hf⟩ := m_chkE hf
          cases hf
          try dsimp only
          exact ⟨Or.inl rfl, fun h => absurd h (by decide), fun h => by have := h.2.2.1; omega⟩
    · skip
      replace c2 := ti_eqN (a := r5) (b := (0 : Int32)) c2 rfl (show (0 : Int32).toInt = 0 from rfl)
      unfold f_X8_fitsFrom_70 at hf
      obtain ⟨-, hf⟩ := m_chkE hf
      cases hf
      try dsimp only
      exact ⟨Or.inl rfl, fun h => absurd h (by decide), fun h => absurd (q5.1 (by omega)) h.2.1⟩
  · skip
    replace c1 := ti_eqN (a := v2) (b := v4) c1 rfl rfl
    unfold f_X8_fitsFrom_70 at hf
    obtain ⟨-, hf⟩ := m_chkE hf
    cases hf
    try dsimp only
    exact ⟨Or.inl rfl, fun h => absurd h (by decide), fun h => by have := h.1; omega⟩
end FFR
/-- the moves that the class gathers, by the square they come from -/
noncomputable def AQn (m : Int → Int) (sd rt ps ko cs kd fl rk to bc tk : Int) (a : Nat) : Prop := askC m sd cs kd fl rk to bc tk (a : Int) ∧ rch m sd rt ps (a : Int) to ∧ safC m sd ps ko (a : Int) to bc
noncomputable def mvA (to bc : Int) (a : Nat) : Int := (a : Int) + 64 * to + 4096 * bc
/-- the reader's fields -/
noncomputable def FLD (S : ZS) (x0 : Nat) (cs kd fl rk to bc tk : Int) : Prop := (zI S 2 x0).toInt = cs ∧ (cs = 0 → (zI S 3 x0).toInt = kd ∧ (zI S 4 x0).toInt = fl ∧ (zI S 5 x0).toInt = rk ∧ (zI S 8 x0).toInt = tk) ∧ (zI S 6 x0).toInt = to ∧ (zI S 7 x0).toInt = bc
/-- a reader of signs with its parts: rules ru (with tb, ab), row rw, array fa -/
noncomputable def SRr (S : ZS) (x0 ru rw fa tb ab bb : Nat) (m : Int → Int) (sd rt ps kw kb : Int) : Prop := CXr S ru tb ab bb m sd rt ps kw kb ∧ (zK S x0 = 8 ∧ zP S 0 x0 = some ru ∧ zP S 1 x0 = some rw ∧ zP S 10 x0 = some fa) ∧ (zK S rw = 6 ∧ rc rw = 1) ∧ (zK S fa = 14 ∧ zN S fa = 64) ∧ (zK S (tb + 1) = 14 ∧ zK S (ab + 1) = 14 ∧ zK S (bb + 1) = 14) ∧ (fa ≠ tb + 1 ∧ fa ≠ ab + 1 ∧ fa ≠ bb + 1)
section SRS
variable {S S1 S' : ZS} {x0 ru rw fa tb ab bb : Nat} {m : Int → Int} {sd rt ps kw kb : Int}
theorem sr_m (h : SRr S x0 ru rw fa tb ab bb m sd rt ps kw kb) (hT : ZT S') (hF : MTF S S' x0 rw tb ab fa) : SRr S' x0 ru rw fa tb ab bb m sd rt ps kw kb := by
  obtain ⟨⟨⟨-, ⟨a1, a2⟩, ⟨b1, b2⟩, ⟨c1, c2⟩, d, e, f, g1, g2, g3, g4, g5⟩, ⟨q1, q2, q3⟩, ⟨u1, u2⟩, l⟩, ⟨k8, p0, p1, p10⟩, ⟨k6, hr⟩, ⟨k14, n64⟩, ⟨t1, t2, t3⟩, ⟨y1, y2, y3⟩⟩ := h
  obtain ⟨h1, h2, h3, h4, h5, h6⟩ := hF
  have K : ∀ {a k : Nat}, zK S a = k → k < 18 → zK S' a = k := fun {a k} ha hk => by rw [(h1 a (by rw [ha]; exact hk)).1]; exact ha
  have nr : ∀ {a k : Nat}, zK S a = k → k ≠ 6 → a ≠ rw := fun {a k} ha hk e => by rw [e, k6] at ha; exact hk ha.symm
  have bx : bb ≠ x0 := fun e => by rw [e, k8] at c1; exact absurd c1 (by decide)
  have i : ∀ j, zI S' j bb = zI S j bb := fun j => h2 bb j (by rw [c1]; decide) bx (nr c1 (by decide)) d (fun e => u1 e.symm)
  have mb : mCb S' bb = m := (mB_e (h3 bb 0 (by rw [c1]; decide) (Or.inl (nr c1 (by decide)))) (fun c hc => by
    rw [c2] at hc
    cases hc
    exact h4 _ (by rw [t3]; decide) (by rw [t3]; decide) (by omega) (by omega) (fun e => y3 e.symm))).trans f
  refine ⟨⟨⟨hT, ⟨K a1 (by decide), by rw [h3 ru 0 (by rw [a1]; decide) (Or.inl (nr a1 (by decide)))]; exact a2⟩, ⟨K b1 (by decide), by rw [h3 tb 0 (by rw [b1]; decide) (Or.inl (nr b1 (by decide)))]; exact b2⟩, ⟨K c1 (by decide), by rw [h3 bb 0 (by rw [c1]; decide) (Or.inl (nr c1 (by decide)))]; exact c2⟩, d, ?_, mb, by rw [i]; exact g1, by rw [i]; exact g2, by rw [i]; exact g3, by rw [i]; exact g4, by rw [i]; exact g5⟩, ⟨by rw [h3 ru 1 (by rw [a1]; decide) (Or.inl (nr a1 (by decide)))]; exact q1, K q2 (by decide), by rw [h3 ab 0 (by rw [q2]; decide) (Or.inl (nr q2 (by decide)))]; exact q3⟩, ⟨u1, u2⟩, by rw [i]; exact l⟩, ⟨K k8 (by decide), by rw [h3 x0 0 (by rw [k8]; decide) (Or.inl (nr k8 (by decide)))]; exact p0, by rw [h3 x0 1 (by rw [k8]; decide) (Or.inl (nr k8 (by decide)))]; exact p1, by rw [h3 x0 10 (by rw [k8]; decide) (Or.inl (nr k8 (by decide)))]; exact p10⟩, ⟨K k6 (by decide), hr⟩, ⟨K k14 (by decide), by rw [(h1 fa (by rw [k14]; decide)).2]; exact n64⟩, ⟨K t1 (by decide), K t2 (by decide), K t3 (by decide)⟩, ⟨y1, y2, y3⟩⟩
  unfold BN
  rw [i, i]
  exact e
end SRS
section GTH
variable {S0 : ZS} {x0 ru rw fa tb ab bb : Nat} {m : Int → Int} {sd rt ps kw kb ko cs kd fl rk to bc tk : Int} {o : Int32 × ZS} {x2 : Int32}
/-- while the moves are gathered -/
noncomputable def GTi (S0 S : ZS) (x0 ru rw fa tb ab bb : Nat) (m : Int → Int) (sd rt ps kw kb ko cs kd fl rk to bc tk : Int) (k : Nat) : Prop := SRr S x0 ru rw fa tb ab bb m sd rt ps kw kb ∧ MTF S0 S x0 rw tb ab fa ∧ FLD S x0 cs kd fl rk to bc tk ∧ zI S 9 x0 = zI S0 9 x0 ∧ (zI S 11 x0).toInt = (cnt (AQn m sd rt ps ko cs kd fl rk to bc tk) k : Int) ∧ LST (fun i => (zA S fa i).toInt) (AQn m sd rt ps ko cs kd fl rk to bc tk) (mvA to bc) k
theorem cnt_le {P : Nat → Prop} {n : Nat} : cnt P n ≤ n := by
  induction n with
  | zero => exact Nat.le_refl _
  | succ n ih =>
    by_cases h : P n
    · rw [cnt_y h]; omega
    · rw [cnt_n h]; omega
theorem lst_gap {l : Nat → Int} {P : Nat → Prop} {mv : Nat → Int} {k : Nat} (h : LST l P mv k) (hn : ¬ P k) : LST l P mv (k + 1) := fun key hk hp => by
  by_cases c : key = k
  · rw [c] at hp; exact absurd hp hn
  · exact h key (by omega) hp
theorem gt_155 {S : ZS} {x3 : Int32} {self38 : Nat → Nat → Int32 → Int32 → ZS → Option (Int32 × ZS)} {G : Int32 × ZS → Prop} (h3 : 0 ≤ x3.toInt ∧ x3.toInt < 64) (H : ∀ (v : Int32) (S : ZS), v.toInt = x3.toInt + 1 → GTi S0 S x0 ru rw fa tb ab bb m sd rt ps kw kb ko cs kd fl rk to bc tk (x3.toInt.toNat + 1) → self38 x0 bb x2 v S = some o → G o) (hG : GTi S0 S x0 ru rw fa tb ab bb m sd rt ps kw kb ko cs kd fl rk to bc tk (x3.toInt.toNat + 1)) (hf : f_X8_gather_155 self38 x0 bb x2 x3 S = some o) : G o := by
  unfold f_X8_gather_155 at hf
  obtain ⟨v1, e_v1, hf⟩ := m_bndE hf
  have t_v1 : v1.toInt = x3.toInt + 1 := ti_add e_v1 rfl (show (1 : Int32).toInt = 1 from rfl) (by omega) (by omega)
  exact H v1 S t_v1 hG hf
theorem gt_82 {S : ZS} {x3 t0 : Int32} {self38 : Nat → Nat → Int32 → Int32 → ZS → Option (Int32 × ZS)} {G : Int32 × ZS → Prop} (hko : ko = if sd = 0 then kw else kb) (hM : MBd m) (hr : 0 ≤ rt ∧ rt ≤ 15) (hto : 0 ≤ to ∧ to ≤ 63) (hbc : 0 ≤ bc ∧ bc ≤ 5) (h3 : 0 ≤ x3.toInt ∧ x3.toInt < 64) (H : ∀ (v : Int32) (S : ZS), v.toInt = x3.toInt + 1 → GTi S0 S x0 ru rw fa tb ab bb m sd rt ps kw kb ko cs kd fl rk to bc tk (x3.toInt.toNat + 1) → self38 x0 bb x2 v S = some o → G o) (hG : GTi S0 S x0 ru rw fa tb ab bb m sd rt ps kw kb ko cs kd fl rk to bc tk x3.toInt.toNat) (ht : t0.toInt = 0 ∨ t0.toInt = 1) (qt : t0.toInt = 1 ↔ askC m sd cs kd fl rk to bc tk x3.toInt) (hf : f_X8_gather_82 self38 x0 bb x2 x3 t0 S = some o) : G o := by
  obtain ⟨hS, hF, hL, h9, h11, hlst⟩ := id hG
  obtain ⟨l2, l3, l6, l7⟩ := id hL
  obtain ⟨hC, ⟨k8, p0, p1, p10⟩, ⟨k6, hrc⟩, ⟨k14, n64⟩, ⟨t1, t2, t3⟩, ⟨y1, y2, y3⟩⟩ := id hS
  obtain ⟨hB, -, -, -⟩ := id hC
  have hT := hB.1
  have en : ((x3.toInt.toNat : Nat) : Int) = x3.toInt := by omega
  have skp : ∀ Sq, SRr Sq x0 ru rw fa tb ab bb m sd rt ps kw kb → MTF S0 Sq x0 rw tb ab fa → FLD Sq x0 cs kd fl rk to bc tk → zI Sq 9 x0 = zI S0 9 x0 → zI Sq 11 x0 = zI S 11 x0 → zA Sq fa = zA S fa → ¬ AQn m sd rt ps ko cs kd fl rk to bc tk x3.toInt.toNat → f_X8_gather_155 self38 x0 bb x2 x3 Sq = some o → G o := by
    intro Sq a1 a2 a3 a4 a5 a6 hn hf
    refine gt_155 h3 H ⟨a1, a2, a3, a4, ?_, ?_⟩ hf
    · rw [a5, cnt_n hn]; exact h11
    · have := lst_gap hlst hn
      unfold LST at this ⊢
      rw [a6]
      exact this
  have z0 : (0 : Int32).toInt = 0 := rfl
  unfold f_X8_gather_82 at hf
  obtain ⟨-, hf⟩ := m_chkE hf
  obtain ⟨v1, e_v1, hf⟩ := m_bndE hf
  have t_v1 : v1.toInt = 64 * (zI S 6 x0).toInt := ti_mul e_v1 (show (64 : Int32).toInt = 64 from rfl) rfl (by omega) (by omega)
  obtain ⟨v2, e_v2, hf⟩ := m_bndE hf
  have t_v2 : v2.toInt = x3.toInt + v1.toInt := ti_add e_v2 rfl rfl (by omega) (by omega)
  obtain ⟨-, hf⟩ := m_chkE hf
  obtain ⟨v3, e_v3, hf⟩ := m_bndE hf
  have t_v3 : v3.toInt = 4096 * (zI S 7 x0).toInt := ti_mul e_v3 (show (4096 : Int32).toInt = 4096 from rfl) rfl (by omega) (by omega)
  obtain ⟨v4, e_v4, hf⟩ := m_bndE hf
  have t_v4 : v4.toInt = v2.toInt + v3.toInt := ti_add e_v4 rfl rfl (by omega) (by omega)
  rcases m_ifE hf with ⟨c1, hf⟩ | ⟨c1, hf⟩
  · skip
    replace c1 := ti_eqP (a := t0) (b := (0 : Int32)) c1 rfl (show (0 : Int32).toInt = 0 from rfl)
    exact skp S hS hF hL h9 rfl rfl (fun h => by have := qt.2 (by rw [← en]; exact h.1); omega) hf
  · skip
    replace c1 := ti_eqN (a := t0) (b := (0 : Int32)) c1 rfl (show (0 : Int32).toInt = 0 from rfl)
    obtain ⟨-, hf⟩ := m_chkE hf
    obtain ⟨-, hf⟩ := m_chkE hf
    obtain ⟨r5, h_r5, hf⟩ := m_calR hf (fun _ h => ro_X0_reaches h)
    dsimp only at hf
    obtain ⟨-, b5, q5⟩ := bx_reach hB hM hr (by omega) (by omega) h_r5
    rw [l6] at q5
    rcases m_ifE hf with ⟨c2, hf⟩ | ⟨c2, hf⟩
    · skip
      replace c2 := ti_eqP (a := r5) (b := (0 : Int32)) c2 rfl (show (0 : Int32).toInt = 0 from rfl)
      exact skp S hS hF hL h9 rfl rfl (fun h => by have := q5.2 (by rw [← en]; exact h.2.1); omega) hf
    · skip
      replace c2 := ti_eqN (a := r5) (b := (0 : Int32)) c2 rfl (show (0 : Int32).toInt = 0 from rfl)
      obtain ⟨-, hf⟩ := m_chkE hf
      replace hf := m_calY hf p0
      obtain ⟨-, hf⟩ := m_chkE hf
      obtain ⟨⟨r7, S7c⟩, h_r7, hf⟩ := m_calE hf
      dsimp only at hf
      obtain ⟨B7, s7, b7, q7⟩ := bx_safe hB hM (by omega) h_r7
      have hv4 : v4.toInt = x3.toInt + 64 * to + 4096 * bc := by omega
      rw [← hko, show v4.toInt % 64 = x3.toInt by omega, show v4.toInt / 64 % 64 = to by omega, show v4.toInt / 4096 = bc by omega] at q7
      have m7 : MTF S S7c x0 rw tb ab fa := mtf_s (sbt_l s7) hT t1 t2
      have S7r := sr_m hS B7.1 m7
      have p107 : zP S7c 10 x0 = some fa := S7r.2.1.2.2.2
      have nx0 : x0 ≠ tb := fun e => by have := hB.2.2.1.1; rw [← e, k8] at this; exact absurd this (by decide)
      have i7 : ∀ j, zI S7c j x0 = zI S j x0 := fun j => s7.2.2.1 j x0 nx0
      have L7 : FLD S7c x0 cs kd fl rk to bc tk := by unfold FLD; rw [i7, i7, i7, i7, i7, i7, i7]; exact hL
      have a7 : zA S7c fa = zA S fa := s7.2.2.2.1 fa y1
      rcases m_ifE hf with ⟨c3, hf⟩ | ⟨c3, hf⟩
      · skip
        replace c3 := ti_eqP (a := r7) (b := (0 : Int32)) c3 rfl (show (0 : Int32).toInt = 0 from rfl)
        exact skp S7c S7r (mtf_t hF m7) L7 (by rw [i7]; exact h9) (i7 11) a7 (fun h => by have := q7.2 (by rw [← en]; exact h.2.2); omega) hf
      · skip
        replace c3 := ti_eqN (a := r7) (b := (0 : Int32)) c3 rfl (show (0 : Int32).toInt = 0 from rfl)
        obtain ⟨-, hf⟩ := m_chkE hf
        replace hf := m_calY hf p107
        obtain ⟨-, hf⟩ := m_chkE hf
        obtain ⟨-, hf⟩ := m_chkE hf
        obtain ⟨-, hf⟩ := m_chkE hf
        obtain ⟨S9, e_S9, hf⟩ := m_bndE hf
        have k147 : zK S7c fa = 14 := S7r.2.2.2.1.1
        have T9 : ZT S9 := e_S9.symm ▸ zt_A B7.1 k147
        have m9 : MTF S7c S9 x0 rw tb ab fa := mtf_A e_S9 B7.1 k147
        have S9r := sr_m S7r T9 m9
        have i9 : zI S9 = zI S7c := by rw [e_S9]; rfl
        have hq : AQn m sd rt ps ko cs kd fl rk to bc tk x3.toInt.toNat := by
          unfold AQn
          rw [en]
          exact ⟨qt.1 (by omega), q5.1 (by omega), q7.1 (by omega)⟩
        have hlt : cnt (AQn m sd rt ps ko cs kd fl rk to bc tk) x3.toInt.toNat ≤ x3.toInt.toNat := cnt_le
        obtain ⟨-, hf⟩ := m_chkE hf
        obtain ⟨v10, e_v10, hf⟩ := m_bndE hf
        have t_v10 : v10.toInt = (cnt (AQn m sd rt ps ko cs kd fl rk to bc tk) x3.toInt.toNat : Int) + 1 := by
          have := ti_add (c := v10) (a := zI S9 11 x0) (b := 1) e_v10 rfl (show (1 : Int32).toInt = 1 from rfl) (by rw [i9, i7, h11]; omega) (by rw [i9, i7, h11]; omega)
          rw [this, i9, i7, h11]
        obtain ⟨-, hf⟩ := m_chkE hf
        obtain ⟨S11, e_S11, hf⟩ := m_bndE hf
        have k8' : zK S9 x0 = 8 := S9r.2.1.1
        have T11 : ZT S11 := e_S11.symm ▸ zt_I S9r.1.1.1 k8' (by decide) (show (0 : Int) ≤ v10.toInt ∧ v10.toInt ≤ (64 : Int) by omega)
        have x11 : SXf S9 S11 x0 := sx_I e_S11
        have m11 : MTF S9 S11 x0 rw tb ab fa := mtf_x x11
        have o11 : ∀ j, j ≠ 11 → zI S11 j x0 = zI S7c j x0 := fun j hj => by rw [e_S11, zI_j hj, i9]
        refine gt_155 h3 H ⟨sr_m S9r T11 m11, mtf_t (mtf_t (mtf_t hF m7) m9) m11, ?_, ?_, ?_, ?_⟩ hf
        · unfold FLD
          rw [o11 2 (by decide), o11 3 (by decide), o11 4 (by decide), o11 5 (by decide), o11 8 (by decide), o11 6 (by decide), o11 7 (by decide)]
          exact L7
        · rw [o11 9 (by decide), i7]; exact h9
        · rw [e_S11, zI_self, t_v10, cnt_y hq]
          omega
        · have nn : (zI S7c 11 x0).toNatClampNeg = cnt (AQn m sd rt ps ko cs kd fl rk to bc tk) x3.toInt.toNat := by
            show (zI S7c 11 x0).toInt.toNat = _
            rw [i7, h11]
            exact Int.toNat_natCast _
          have a11 : zA S11 fa = upd (zA S fa) (cnt (AQn m sd rt ps ko cs kd fl rk to bc tk) x3.toInt.toNat) v4 := by
            rw [x11.2.2.2.1, e_S9, ← nn, ← a7]
            exact va_up_self _ _ _
          intro key hk hp
          show (zA S11 fa _).toInt = _
          rw [a11]
          by_cases e : key = x3.toInt.toNat
          · rw [e, upd_self]
            unfold mvA
            rw [en]; exact hv4
          · have hlt2 := cnt_lt hp (show key < x3.toInt.toNat by omega)
            rw [upd_ne (by omega)]
            exact hlst key (by omega) hp
theorem gt_38 (hko : ko = if sd = 0 then kw else kb) (hM : MBd m) (hr : 0 ≤ rt ∧ rt ≤ 15) (hs2 : sd = 0 ∨ sd = 1) (hto : 0 ≤ to ∧ to ≤ 63) (hbc : 0 ≤ bc ∧ bc ≤ 5) (hkd : 0 ≤ kd ∧ kd ≤ 6) (htk : -1 ≤ tk ∧ tk ≤ 1) (hx2 : x2.toInt = 4 + 56 * sd) : ∀ (n : Nat) (x3 : Int32) (S : ZS), (0 ≤ x3.toInt ∧ x3.toInt ≤ 64) → GTi S0 S x0 ru rw fa tb ab bb m sd rt ps kw kb ko cs kd fl rk to bc tk x3.toInt.toNat → f_X8_gather_38 n x0 bb x2 x3 S = some o → GTi S0 o.2 x0 ru rw fa tb ab bb m sd rt ps kw kb ko cs kd fl rk to bc tk 64 := by
  intro n
  induction n with
  | zero => intro x3 S _ _ hf; cases hf
  | succ n ih =>
    intro x3 S h3 hG hf
    have hf : f_X8_gather_38s (f_X8_gather_38 n) x0 bb x2 x3 S = some o := hf
    obtain ⟨hS, hF, hL, h9, h11, hlst⟩ := id hG
    obtain ⟨l2, l3, l6, l7⟩ := id hL
    obtain ⟨hC, -, -, -, -, -⟩ := id hS
    obtain ⟨⟨hT, -, -, ⟨kb0, pb0⟩, -, hn, hm, g1, -⟩, -, -, -⟩ := id hC
    have H : x3.toInt < 64 → ∀ (v : Int32) (S : ZS), v.toInt = x3.toInt + 1 → GTi S0 S x0 ru rw fa tb ab bb m sd rt ps kw kb ko cs kd fl rk to bc tk (x3.toInt.toNat + 1) → f_X8_gather_38 n x0 bb x2 v S = some o → GTi S0 o.2 x0 ru rw fa tb ab bb m sd rt ps kw kb ko cs kd fl rk to bc tk 64 := fun hlt v S ev hG hf => ih v S (by omega) (by rw [show v.toInt.toNat = x3.toInt.toNat + 1 by omega]; exact hG) hf
    have z0 : (0 : Int32).toInt = 0 := rfl
    unfold f_X8_gather_38s at hf
    rcases m_ifE hf with ⟨c1, hf⟩ | ⟨c1, hf⟩
    · skip
      replace c1 := ti_leP (a := (64 : Int32)) (b := x3) c1 (show (64 : Int32).toInt = 64 from rfl) rfl
      cases hf
      try dsimp only
      have e : x3.toInt.toNat = 64 := by omega
      rw [e] at hG
      exact hG
    · skip
      replace c1 := ti_leN (a := (64 : Int32)) (b := x3) c1 (show (64 : Int32).toInt = 64 from rfl) rfl
      obtain ⟨-, hf⟩ := m_chkE hf
      rcases m_ifE hf with ⟨c2, hf⟩ | ⟨c2, hf⟩
      · skip
        replace c2 := ti_eqP (a := (zI S 2 x0)) (b := (0 : Int32)) c2 rfl (show (0 : Int32).toInt = 0 from rfl)
        obtain ⟨-, hf⟩ := m_chkE hf
        obtain ⟨r1, h_r1, hf⟩ := m_calR hf (fun _ h => ro_X8_fitsFrom h)
        dsimp only at hf
        obtain ⟨l30, l4, l5, l8⟩ := l3 (by omega)
        obtain ⟨b1, q1⟩ := p_fitsFrom hT kb0 pb0 hm hM g1 hs2 (by omega) l30 hkd l4 l5 l6 hto l7 l8 htk h_r1
        dsimp only at b1 q1
        refine gt_82 (G := fun o => GTi S0 o.2 x0 ru rw fa tb ab bb m sd rt ps kw kb ko cs kd fl rk to bc tk 64) hko hM hr hto hbc ⟨h3.1, by omega⟩ (H (by omega)) hG b1 ?_ hf
        rw [q1]
        unfold askC
        exact ⟨fun h => Or.inr ⟨by omega, h⟩, fun h => h.elim (fun g => by omega) (fun g => g.2)⟩
      · skip
        replace c2 := ti_eqN (a := (zI S 2 x0)) (b := (0 : Int32)) c2 rfl (show (0 : Int32).toInt = 0 from rfl)
        rcases m_ifE hf with ⟨c3, hf⟩ | ⟨c3, hf⟩
        · skip
          replace c3 := ti_eqP (a := x3) (b := x2) c3 rfl rfl
          obtain ⟨-, hf⟩ := m_chkE hf
          obtain ⟨-, hf⟩ := m_chkE hf
          obtain ⟨r2, h_r2, hf⟩ := m_calR hf (fun _ h => ro_X0_castles h)
          dsimp only at hf
          obtain ⟨-, b2, q2⟩ := ok_of (x_f_X0_castles (x2 := zI S 6 x0) hT kb0 (by omega) (by omega) (by rw [hm]; exact hM)) h_r2
          dsimp only at b2 q2
          rw [hm, l6] at q2
          rcases m_ifE hf with ⟨c4, hf⟩ | ⟨c4, hf⟩
          · skip
            replace c4 := ti_eqP (a := r2) (b := (0 : Int32)) c4 rfl (show (0 : Int32).toInt = 0 from rfl)
            unfold f_X8_gather_72 at hf
            refine gt_82 (G := fun o => GTi S0 o.2 x0 ru rw fa tb ab bb m sd rt ps kw kb ko cs kd fl rk to bc tk 64) hko hM hr hto hbc ⟨h3.1, by omega⟩ (H (by omega)) hG (Or.inl rfl) ⟨fun h => absurd h (by decide), fun h => ?_⟩ hf
            rcases h with ⟨-, -, g⟩ | ⟨g, -⟩
            · have := q2.2 g
              omega
            · omega
          · skip
            replace c4 := ti_eqN (a := r2) (b := (0 : Int32)) c4 rfl (show (0 : Int32).toInt = 0 from rfl)
            exact gt_82 (G := fun o => GTi S0 o.2 x0 ru rw fa tb ab bb m sd rt ps kw kb ko cs kd fl rk to bc tk 64) hko hM hr hto hbc ⟨h3.1, by omega⟩ (H (by omega)) hG (Or.inr rfl) ⟨fun _ => Or.inl ⟨by omega, by omega, q2.1 (by omega)⟩, fun _ => rfl⟩ hf
        · skip
          replace c3 := ti_eqN (a := x3) (b := x2) c3 rfl rfl
          unfold f_X8_gather_72 at hf
          refine gt_82 (G := fun o => GTi S0 o.2 x0 ru rw fa tb ab bb m sd rt ps kw kb ko cs kd fl rk to bc tk 64) hko hM hr hto hbc ⟨h3.1, by omega⟩ (H (by omega)) hG (Or.inl rfl) ⟨fun h => absurd h (by decide), fun h => ?_⟩ hf
          rcases h with ⟨-, g, -⟩ | ⟨g, -⟩ <;> omega
end GTH
end
section
section GTT
variable {S : ZS} {x0 ru rw fa tb ab bb : Nat} {m : Int → Int} {sd rt ps kw kb ko cs kd fl rk to bc tk : Int} {o : Int32 × ZS}
/-- gathered: with castling the square is the king's -/
noncomputable def toC (sd cs to : Int) : Int := if cs = 0 then to else 4 + 56 * sd + cs
theorem p_gather (hS : SRr S x0 ru rw fa tb ab bb m sd rt ps kw kb) (hL : FLD S x0 cs kd fl rk to bc tk) (hko : ko = if sd = 0 then kw else kb) (hM : MBd m) (hr : 0 ≤ rt ∧ rt ≤ 15) (hs2 : sd = 0 ∨ sd = 1) (hcs : cs = 0 ∨ cs = 2 ∨ cs = -2) (hto : cs = 0 → 0 ≤ to ∧ to ≤ 63) (hbc : 0 ≤ bc ∧ bc ≤ 5) (hkd : 0 ≤ kd ∧ kd ≤ 6) (htk : -1 ≤ tk ∧ tk ≤ 1) (hf : f_X8_gather x0 bb S = some o) : GTi S o.2 x0 ru rw fa tb ab bb m sd rt ps kw kb ko cs kd fl rk (toC sd cs to) bc tk 64 := by
  have hf : f_X8_gather_0 x0 bb S = some o := hf
  have z0 : (0 : Int32).toInt = 0 := rfl
  have z4 : (4 : Int32).toInt = 4 := rfl
  have z60 : (60 : Int32).toInt = 60 := rfl
  obtain ⟨l2, l3, l6, l7⟩ := id hL
  have k8 : zK S x0 = 8 := hS.2.1.1
  have hT := hS.1.1.1
  have g3 : (zI S 3 bb).toInt = sd := hS.1.1.2.2.2.2.2.2.2.1
  have bx : bb ≠ x0 := fun e => by have := hS.1.1.2.2.2.1.1; rw [e, k8] at this; exact absurd this (by decide)
  have hto2 : 0 ≤ toC sd cs to ∧ toC sd cs to ≤ 63 := by
    unfold toC
    split
    · exact hto (by assumption)
    · omega
  unfold f_X8_gather_0 at hf
  obtain ⟨-, hf⟩ := m_chkE hf
  obtain ⟨S1, e_S1, hf⟩ := m_bndE hf
  have x1 : SXf S S1 x0 := sx_I e_S1
  have T1 : ZT S1 := e_S1.symm ▸ zt_I hT k8 (by decide) (show (0 : Int) ≤ (0 : Int32).toInt ∧ (0 : Int32).toInt ≤ (64 : Int) by decide)
  have R1 := sr_m hS T1 (mtf_x x1)
  have o1 : ∀ j, j ≠ 11 → zI S1 j x0 = zI S j x0 := fun j hj => by rw [e_S1, zI_j hj]
  have i11 : (zI S1 11 x0).toInt = 0 := by rw [e_S1, zI_self]; rfl
  have s3 : (zI S1 3 bb).toInt = sd := by rw [x1.2.2.2.2.2 3 bb bx]; exact g3
  have fin : ∀ t0 : Int32, t0.toInt = 4 + 56 * sd → f_X8_gather_18 x0 bb t0 S1 = some o → GTi S o.2 x0 ru rw fa tb ab bb m sd rt ps kw kb ko cs kd fl rk (toC sd cs to) bc tk 64 := by
    intro t0 ht hf
    unfold f_X8_gather_18 at hf
    obtain ⟨-, hf⟩ := m_chkE hf
    rcases m_ifE hf with ⟨c, hf⟩ | ⟨c, hf⟩
    · have c0 : cs = 0 := by rw [← l2, ← o1 2 (by decide), c]; rfl
      have et : toC sd cs to = to := if_pos c0
      unfold f_X8_gather_36 at hf
      rw [et]
      rw [et] at hto2
      refine gt_38 hko hM hr hs2 hto2 hbc hkd htk ht mFuel 0 S1 (by decide) ⟨R1, mtf_x x1, ?_, o1 9 (by decide), ?_, fun key hk => absurd hk (Nat.not_lt_zero _)⟩ hf
      · unfold FLD
        rw [o1 2 (by decide), o1 3 (by decide), o1 4 (by decide), o1 5 (by decide), o1 8 (by decide), o1 6 (by decide), o1 7 (by decide)]
        exact hL
      · rw [i11]; rfl
    · have c0 : cs ≠ 0 := fun h => c (Int32.toInt_inj.1 (by rw [o1 2 (by decide), l2, h]; rfl))
      have et : toC sd cs to = 4 + 56 * sd + cs := if_neg c0
      obtain ⟨-, hf⟩ := m_chkE hf
      obtain ⟨v1, e1, hf⟩ := m_bndE hf
      obtain ⟨-, hf⟩ := m_chkE hf
      obtain ⟨S2, e2, hf⟩ := m_bndE hf
      have q2 : (zI S1 2 x0).toInt = cs := by rw [o1 2 (by decide)]; exact l2
      have t1 : v1.toInt = 4 + 56 * sd + cs := by
        have := ti_add (c := v1) (a := t0) (b := zI S1 2 x0) e1 rfl rfl (by omega) (by omega)
        omega
      have k81 : zK S1 x0 = 8 := R1.2.1.1
      have T2 : ZT S2 := e2.symm ▸ zt_I T1 k81 (by decide) (show (-1 : Int) ≤ v1.toInt ∧ v1.toInt ≤ (63 : Int) by omega)
      have x2 : SXf S1 S2 x0 := sx_I e2
      have R2 := sr_m R1 T2 (mtf_x x2)
      have o2 : ∀ j, j ≠ 6 → zI S2 j x0 = zI S1 j x0 := fun j hj => by rw [e2, zI_j hj]
      unfold f_X8_gather_36 at hf
      rw [et]
      rw [et] at hto2
      refine gt_38 hko hM hr hs2 hto2 hbc hkd htk ht mFuel 0 S2 (by decide) ⟨R2, mtf_t (mtf_x x1) (mtf_x x2), ⟨by rw [o2 2 (by decide)]; exact q2, fun h => absurd h c0, by rw [e2, zI_self]; exact t1, by rw [o2 7 (by decide), o1 7 (by decide)]; exact l7⟩, by rw [o2 9 (by decide), o1 9 (by decide)], ?_, fun key hk => absurd hk (Nat.not_lt_zero _)⟩ hf
      rw [o2 11 (by decide), i11]; rfl
  obtain ⟨-, hf⟩ := m_chkE hf
  rcases m_ifE hf with ⟨c1, hf⟩ | ⟨c1, hf⟩
  · skip
    replace c1 := ti_eqP (a := (zI S1 3 bb)) (b := (0 : Int32)) c1 rfl (show (0 : Int32).toInt = 0 from rfl)
    exact fin 4 (by omega) hf
  · skip
    replace c1 := ti_eqN (a := (zI S1 3 bb)) (b := (0 : Int32)) c1 rfl (show (0 : Int32).toInt = 0 from rfl)
    have b3 := hS.1.1.2.2.2.2.2.1.2
    exact fin 60 (by omega) hf
/-- + or # behind a word -/
noncomputable def ckO (u : List Int) : Int := if wA u ((u.length : Int) - 1) = 43 ∨ wA u ((u.length : Int) - 1) = 35 then wA u ((u.length : Int) - 1) else 0
noncomputable def ckW (u : List Int) : List Int := if wA u ((u.length : Int) - 1) = 43 ∨ wA u ((u.length : Int) - 1) = 35 then u.take (u.length - 1) else u
variable {x1 : Nat} {ch : Int → Int} {S0 : ZS}
theorem cw_87 {u : List Int} {t0 : Int32} (hC : CPi S0 S x0 x1 rw ch u) (hu : u.length ≤ 8) (ht : 0 ≤ t0.toInt ∧ t0.toInt ≤ 65535) (hnz : t0.toInt ≠ 0 → 0 < u.length) (hf : d_X8_copyWhole_87 x0 t0 x0 S = some o) : ZT o.2 ∧ MTF S o.2 x0 rw tb ab fa ∧ (zI o.2 9 x0).toInt = t0.toInt ∧ RWL o.2 rw (if t0.toInt = 0 then u else u.take (u.length - 1)) := by
  obtain ⟨hT, hF, k0, hP, k6, hr, kt, hne, hch, hw⟩ := id hC
  have nx : rw ≠ x0 := fun e => by rw [← e, k6] at k0; exact absurd k0 (by decide)
  unfold d_X8_copyWhole_87 at hf
  obtain ⟨-, hf⟩ := m_chkE hf
  obtain ⟨-, hf⟩ := m_chkE hf
  obtain ⟨S1, e_S1, hf⟩ := m_bndE hf
  have x1f : SXf S S1 x0 := sx_I e_S1
  have P1 : zP S1 1 x0 = some rw := by rw [x1f.2.1]; exact hP
  have T1 : ZT S1 := e_S1.symm ▸ zt_I hT k0 (by decide) (show (0 : Int) ≤ t0.toInt ∧ t0.toInt ≤ (65535 : Int) by omega)
  have w1 := sx_rwl x1f nx hw
  have i9 : zI S1 9 x0 = t0 := by rw [e_S1]; exact zI_self _ _ _ _
  obtain ⟨-, hf⟩ := m_chkE hf
  rcases m_ifE hf with ⟨c1, hf⟩ | ⟨c1, hf⟩
  · skip
    replace c1 := ti_eqP (a := (zI S1 9 x0)) (b := (0 : Int32)) c1 rfl (show (0 : Int32).toInt = 0 from rfl)
    unfold d_X8_copyWhole_113 at hf
    cases hf
    try dsimp only
    rw [i9] at c1
    exact ⟨T1, mtf_x x1f, by rw [i9], by rw [if_pos c1]; exact w1⟩
  · skip
    replace c1 := ti_eqN (a := (zI S1 9 x0)) (b := (0 : Int32)) c1 rfl (show (0 : Int32).toInt = 0 from rfl)
    obtain ⟨-, hf⟩ := m_chkE hf
    replace hf := m_calY hf P1
    obtain ⟨-, hf⟩ := m_chkE hf
    replace hf := m_calY hf P1
    obtain ⟨-, hf⟩ := m_chkE hf
    obtain ⟨r4, h_r4, hf⟩ := m_calR hf (fun _ h => ro_X6_size h)
    dsimp only at hf
    have p_r4 := pc_X6_size h_r4
    dsimp only at p_r4
    have q4 : r4.toInt = (u.length : Int) := by rw [p_r4]; exact w1.1
    obtain ⟨-, hf⟩ := m_chkE hf
    obtain ⟨v5, e_v5, hf⟩ := m_bndE hf
    have t_v5 : v5.toInt = r4.toInt - 1 := ti_sub e_v5 rfl (show (1 : Int32).toInt = 1 from rfl) (by omega) (by omega)
    obtain ⟨-, hf⟩ := m_chkE hf
    obtain ⟨⟨r6, S6c⟩, h_r6, hf⟩ := m_calE hf
    dsimp only at hf
    have c1n : t0.toInt ≠ 0 := by rw [i9] at c1; exact c1
    have hn := hnz c1n
    have T6 : ZT S6c := (ok_of (t_f_X6_keep (SZ := S1) T1 (a7_0 S1) (by rw [x1f.1]; exact k6) (by rw [hr]; decide)) h_r6).1
    obtain ⟨g1, g2, -⟩ := p_keep w1 (by omega) h_r6
    obtain ⟨-, hf⟩ := m_chkE hf
    unfold d_X8_copyWhole_113 at hf
    cases hf
    try dsimp only
    refine ⟨T6, mtf_t (mtf_x x1f) (mtf_r g2), ?_, ?_⟩
    · rw [(g2.2.1 x0 9 (by rw [x1f.1, k0]; decide) (fun e => nx e.symm)).1, i9]
    · rw [if_neg c1n, show u.length - 1 = v5.toInt.toNat by omega]
      exact g1
theorem rwl_ex {S : ZS} {a : Nat} (hT : ZT S) (hk : zK S a = 6) : ∃ w, RWL S a w := by
  obtain ⟨b, hb, hb2, hl, -⟩ := hT.2.1 a hk
  refine ⟨(List.range (zI S 1 a).toInt.toNat).map (fun (i : Nat) => rwC S a (i : Int)), ?_, fun i => ?_⟩
  · rw [List.length_map, List.length_range]
    omega
  · by_cases c : 0 ≤ i ∧ i < (zI S 1 a).toInt
    · unfold wA
      rw [if_pos c.1, List.getD_eq_getElem?_getD, List.getElem?_map, List.getElem?_range (by omega)]
      show rwC S a i = rwC S a ((i.toNat : Nat) : Int)
      congr 1
      omega
    · rw [rw_out (by omega), wA_out (by rw [List.length_map, List.length_range]; omega)]
theorem cw_48 {u : List Int} (hC : CPi S0 S x0 x1 rw ch u) (hu : u.length ≤ 8) (hf : d_X8_copyWhole_48 x0 S = some o) : ZT o.2 ∧ MTF S0 o.2 x0 rw tb ab fa ∧ (zI o.2 9 x0).toInt = ckO u ∧ RWL o.2 rw (ckW u) := by
  obtain ⟨hT, hF, k0, hP, k6, hr, kt, hne, hch, hw⟩ := id hC
  have z0 : (0 : Int32).toInt = 0 := rfl
  have hz : wA u ((u.length : Int) - 1) ≠ 0 → 0 < u.length := fun h => by
    apply Classical.byContradiction
    intro h2
    exact h (wA_out (Or.inl (by omega)))
  unfold d_X8_copyWhole_48 at hf
  obtain ⟨-, hf⟩ := m_chkE hf
  replace hf := m_calY hf hP
  obtain ⟨-, hf⟩ := m_chkE hf
  replace hf := m_calY hf hP
  obtain ⟨-, hf⟩ := m_chkE hf
  obtain ⟨r3, h_r3, hf⟩ := m_calR hf (fun _ h => ro_X6_size h)
  dsimp only at hf
  have p_r3 := pc_X6_size h_r3
  dsimp only at p_r3
  have q3 : r3.toInt = (u.length : Int) := by rw [p_r3]; exact hw.1
  obtain ⟨-, hf⟩ := m_chkE hf
  obtain ⟨v4, e_v4, hf⟩ := m_bndE hf
  have t_v4 : v4.toInt = r3.toInt - 1 := ti_sub e_v4 rfl (show (1 : Int32).toInt = 1 from rfl) (by omega) (by omega)
  obtain ⟨-, hf⟩ := m_chkE hf
  obtain ⟨r5, h_r5, hf⟩ := m_calR hf (fun _ h => ro_X6_at h)
  dsimp only at hf
  have p_r5 := pc_X6_at h_r5
  dsimp only at p_r5
  rw [hw.2, t_v4, q3] at p_r5
  obtain ⟨-, hf⟩ := m_chkE hf
  rcases m_ifE hf with ⟨c1, hf⟩ | ⟨c1, hf⟩
  · skip
    replace c1 := ti_eqP (a := r5) (b := (43 : Int32)) c1 rfl (show (43 : Int32).toInt = 43 from rfl)
    unfold d_X8_copyWhole_81 at hf
    have hc : wA u ((u.length : Int) - 1) = 43 ∨ wA u ((u.length : Int) - 1) = 35 := by omega
    obtain ⟨g1, g2, g3, g4⟩ := cw_87 (tb := tb) (ab := ab) (fa := fa) hC hu (by omega) (fun h => hz (by omega)) hf
    have eO : ckO u = wA u ((u.length : Int) - 1) := if_pos hc
    have eW : ckW u = u.take (u.length - 1) := if_pos hc
    rw [if_neg (by omega)] at g4
    rw [eO, eW]
    exact ⟨g1, mtf_t (mtf_r hF) g2, by omega, g4⟩
  · skip
    replace c1 := ti_eqN (a := r5) (b := (43 : Int32)) c1 rfl (show (43 : Int32).toInt = 43 from rfl)
    rcases m_ifE hf with ⟨c2, hf⟩ | ⟨c2, hf⟩
    · skip
      replace c2 := ti_eqP (a := r5) (b := (35 : Int32)) c2 rfl (show (35 : Int32).toInt = 35 from rfl)
      unfold d_X8_copyWhole_81 at hf
      have hc : wA u ((u.length : Int) - 1) = 43 ∨ wA u ((u.length : Int) - 1) = 35 := by omega
      obtain ⟨g1, g2, g3, g4⟩ := cw_87 (tb := tb) (ab := ab) (fa := fa) hC hu (by omega) (fun h => hz (by omega)) hf
      have eO : ckO u = wA u ((u.length : Int) - 1) := if_pos hc
      have eW : ckW u = u.take (u.length - 1) := if_pos hc
      rw [if_neg (by omega)] at g4
      rw [eO, eW]
      exact ⟨g1, mtf_t (mtf_r hF) g2, by omega, g4⟩
    · skip
      replace c2 := ti_eqN (a := r5) (b := (35 : Int32)) c2 rfl (show (35 : Int32).toInt = 35 from rfl)
      have hc : ¬ (wA u ((u.length : Int) - 1) = 43 ∨ wA u ((u.length : Int) - 1) = 35) := by omega
      obtain ⟨g1, g2, g3, g4⟩ := cw_87 (tb := tb) (ab := ab) (fa := fa) hC hu (by decide) (fun h => absurd rfl h) hf
      have eO : ckO u = 0 := if_neg hc
      have eW : ckW u = u := if_neg hc
      rw [if_pos z0] at g4
      rw [eO, eW]
      exact ⟨g1, mtf_t (mtf_r hF) g2, g3, g4⟩
theorem p_copyBare {x2 x3 : Int32} (hS : SRr S x0 ru rw fa tb ab bb m sd rt ps kw kb) (kt : zK S x1 = 6) (hne : x1 ≠ rw) (hch : rwC S x1 = ch) (h2 : 0 ≤ x2.toInt ∧ x2.toInt ≤ 90000) (h3 : 0 ≤ x3.toInt ∧ x3.toInt ≤ 90000) (hf : d_X8_copyBare x0 x1 x2 x3 S = some o) : ZT o.2 ∧ MTF S o.2 x0 rw tb ab fa ∧ RWL o.2 rw ((txF true ch x2.toInt (x3.toInt - x2.toInt).toNat).take 8) := by
  have hf : d_X8_copyBare_0 x0 x1 x2 x3 S = some o := hf
  obtain ⟨hC, ⟨k8, p0, p1, p10⟩, ⟨k6, hrc⟩, -⟩ := id hS
  have hT := hC.1.1
  have z0 : (0 : Int32).toInt = 0 := rfl
  unfold d_X8_copyBare_0 at hf
  obtain ⟨-, hf⟩ := m_chkE hf
  replace hf := m_calY hf p1
  obtain ⟨-, hf⟩ := m_chkE hf
  obtain ⟨⟨r2, S2c⟩, h_r2, hf⟩ := m_calE hf
  dsimp only at hf
  obtain ⟨-, hf⟩ := m_chkE hf
  have T2 : ZT S2c := (ok_of (t_f_X6_keep (SZ := S) hT (a7_0 S) k6 (by rw [hrc]; decide)) h_r2).1
  obtain ⟨w0, hw0⟩ := rwl_ex hT k6
  obtain ⟨g1, g2, -⟩ := p_keep hw0 (by decide) h_r2
  have e0 : w0.take (0 : Int32).toInt.toNat = [] := rfl
  rw [e0] at g1
  have nx : x0 ≠ rw := fun e => by rw [e, k6] at k8; exact absurd k8 (by decide)
  have C2 : CPi S S2c x0 x1 rw ch [] := ⟨T2, g2, by rw [(g2.1 x0 (by rw [k8]; decide)).1]; exact k8, by rw [(g2.2.1 x0 1 (by rw [k8]; decide) nx).2]; exact p1, by rw [(g2.1 rw (by rw [k6]; decide)).1]; exact k6, hrc, by rw [(g2.1 x1 (by rw [kt]; decide)).1]; exact kt, hne, by rw [rwf_rw g2 kt hne]; exact hch, g1⟩
  have key := cb_11 (x0 := x0) (x1 := x1) (rw := rw) (ch := ch) (S0 := S) (by omega) mFuel x2 S2c [] C2 (by decide) (by omega) hf
  rw [List.nil_append] at key
  exact ⟨key.1, mtf_r key.2.1, key.2.2.2.2.2.2.2.2.2⟩
theorem p_copyWhole {x2 x3 : Int32} (hS : SRr S x0 ru rw fa tb ab bb m sd rt ps kw kb) (kt : zK S x1 = 6) (hne : x1 ≠ rw) (hch : rwC S x1 = ch) (h2 : 0 ≤ x2.toInt ∧ x2.toInt ≤ 90000) (h3 : 0 ≤ x3.toInt ∧ x3.toInt ≤ 90000) (hf : d_X8_copyWhole x0 x1 x2 x3 S = some o) : ZT o.2 ∧ MTF S o.2 x0 rw tb ab fa ∧ (zI o.2 9 x0).toInt = ckO ((txF false ch x2.toInt (x3.toInt - x2.toInt).toNat).take 8) ∧ RWL o.2 rw (ckW ((txF false ch x2.toInt (x3.toInt - x2.toInt).toNat).take 8)) := by
  have hf : d_X8_copyWhole_0 x0 x1 x2 x3 S = some o := hf
  obtain ⟨hC, ⟨k8, p0, p1, p10⟩, ⟨k6, hrc⟩, -⟩ := id hS
  have hT := hC.1.1
  have z0 : (0 : Int32).toInt = 0 := rfl
  unfold d_X8_copyWhole_0 at hf
  obtain ⟨-, hf⟩ := m_chkE hf
  replace hf := m_calY hf p1
  obtain ⟨-, hf⟩ := m_chkE hf
  obtain ⟨⟨r2, S2c⟩, h_r2, hf⟩ := m_calE hf
  dsimp only at hf
  obtain ⟨-, hf⟩ := m_chkE hf
  have T2 : ZT S2c := (ok_of (t_f_X6_keep (SZ := S) hT (a7_0 S) k6 (by rw [hrc]; decide)) h_r2).1
  obtain ⟨w0, hw0⟩ := rwl_ex hT k6
  obtain ⟨g1, g2, -⟩ := p_keep hw0 (by decide) h_r2
  have e0 : w0.take (0 : Int32).toInt.toNat = [] := rfl
  rw [e0] at g1
  have nx : x0 ≠ rw := fun e => by rw [e, k6] at k8; exact absurd k8 (by decide)
  have C2 : CPi S S2c x0 x1 rw ch [] := ⟨T2, g2, by rw [(g2.1 x0 (by rw [k8]; decide)).1]; exact k8, by rw [(g2.2.1 x0 1 (by rw [k8]; decide) nx).2]; exact p1, by rw [(g2.1 rw (by rw [k6]; decide)).1]; exact k6, hrc, by rw [(g2.1 x1 (by rw [kt]; decide)).1]; exact kt, hne, by rw [rwf_rw g2 kt hne]; exact hch, g1⟩
  have key := cw_11 (G := fun S9 u => ZT S9 ∧ MTF S S9 x0 rw tb ab fa ∧ (zI S9 9 x0).toInt = ckO u ∧ RWL S9 rw (ckW u)) (x0 := x0) (x1 := x1) (rw := rw) (ch := ch) (S0 := S) (by omega) mFuel x2 S2c [] C2 (by decide) (by omega) (fun S3 C3 hf => ?_) hf
  · rw [List.nil_append] at key
    exact key
  · generalize hu : ([] ++ txF false ch x2.toInt (x3.toInt - x2.toInt).toNat).take 8 = u at C3 ⊢
    have hul : u.length ≤ 8 := by rw [← hu, List.length_take]; omega
    exact cw_48 C3 hul hf
end GTT
end
section
/-- castling told by a word -/
noncomputable def pCs (w : List Int) : Int := if w = strL 7 then 2 else if w = strL 8 then -2 else 0
noncomputable def POK (w : List Int) : Prop := w = strL 7 ∨ w = strL 8 ∨ PRSok w
noncomputable def bcW (w : List Int) : Int := if pCs w = 0 then prB w else 0
/-- the squares from which a word's moves come -/
noncomputable def AQw (m : Int → Int) (sd rt ps ko : Int) (any : Bool) (w : List Int) : Nat → Prop := AQn m sd rt ps ko (pCs w) (prK w) (prF w) (prR w) (toC sd (pCs w) (prT w)) (bcW w) (if any = true then -1 else prX w)
noncomputable def mvW (sd : Int) (w : List Int) : Nat → Int := mvA (toC sd (pCs w) (prT w)) (bcW w)
/-- a move's sign of check, as a word asks for it -/
noncomputable def csF (m : Int → Int) (sd rt ps kw kb x ck : Int) : Prop := csP (afM m sd ps x) (1 - sd) (afR rt x) (afP m sd ps x) (afK m sd ps x 0 kw) (afK m sd ps x 1 kb) ck
noncomputable def F1 (m : Int → Int) (sd rt ps kw kb ck x : Int) : Prop := ck = 0 ∨ csF m sd rt ps kw kb x ck
theorem str_78 : strL 7 ≠ strL 8 := by decide
theorem pr_rng (w : List Int) : (0 ≤ prK w ∧ prK w ≤ 6) ∧ (prX w = 0 ∨ prX w = 1) ∧ (0 ≤ prB w ∧ prB w ≤ 6) := by
  have h1 := kO_b (wA w 0)
  have h2 := kO_b (wA w ((w.length : Int) - 1))
  refine ⟨?_, ?_, ?_⟩
  · unfold prK; split <;> omega
  · unfold prX; split <;> omega
  · unfold prB; split <;> omega
theorem bc_rng {w : List Int} (h : POK w) : 0 ≤ bcW w ∧ bcW w ≤ 5 := by
  unfold bcW
  by_cases c : pCs w = 0
  · rw [if_pos c]
    rcases h with h | h | h
    · exfalso
      unfold pCs at c
      rw [if_pos h] at c
      omega
    · exfalso
      unfold pCs at c
      rw [if_neg (fun e => str_78 (e.symm.trans h)), if_pos h] at c
      omega
    · have h1 := h.1
      by_cases e : prK w = 1 ∧ wA w ((w.length : Int) - 2) = 61
      · have := h1 e; omega
      · have : prB w = 0 := if_neg e
        omega
  · rw [if_neg c]
    omega
theorem txF_b {ch : Int → Int} {lo : Bool} (h : ∀ i, 0 ≤ ch i ∧ ch i ≤ 127) : ∀ {k : Nat} {a : Int}, ∀ c ∈ txF lo ch a k, 0 ≤ c ∧ c ≤ 127
  | 0, a, c, hc => by cases hc
  | k + 1, a, c, hc => by
    have hc : c ∈ (if lo = true ∧ (ch a = 120 ∨ ch a = 43 ∨ ch a = 35) then [] else [ch a]) ++ txF lo ch (a + 1) k := hc
    rcases List.mem_append.1 hc with g | g
    · split at g
      · cases g
      · rw [List.mem_singleton.1 g]; exact h a
    · exact txF_b h c g
theorem wA_b {u : List Int} (h : ∀ c ∈ u, 0 ≤ c ∧ c ≤ 127) {n : Nat} (i : Int) : 0 ≤ wA (u.take n) i ∧ wA (u.take n) i ≤ 127 := by
  rw [wA_take]
  split
  · by_cases c : 0 ≤ i ∧ i < (u.length : Int)
    · have e : wA u i = u[i.toNat]'(by omega) := by
        have := wA_in (w := u) (i := i.toNat) (by omega)
        rw [← this]
        congr 1
        omega
      rw [e]
      exact h _ (List.getElem_mem _)
    · rw [wA_out (by omega)]
      omega
  · omega
section MTC
variable {S0 S : ZS} {x0 ru rw fa tb ab bb tr : Nat} {m : Int → Int} {sd rt ps kw kb ko : Int} {o : Int32 × ZS} {w : List Int}
/-- the reader's fields tell the word -/
noncomputable def PGf (S : ZS) (x0 : Nat) (sd : Int) (w : List Int) : Prop := ∃ tq, FLD S x0 (pCs w) (prK w) (prF w) (prR w) tq (bcW w) (prX w) ∧ (pCs w = 0 → 0 ≤ tq ∧ tq ≤ 63) ∧ toC sd (pCs w) tq = toC sd (pCs w) (prT w)
theorem p_pg {r6 : Int32} {S6 : ZS} (hS : SRr S x0 ru rw fa tb ab bb m sd rt ps kw kb) (hw : RWL S rw w) (hb : ∀ i, 0 ≤ wA w i ∧ wA w i ≤ 127) (hlw : w.length ≤ 8) (h6 : f_X8_parse x0 S = some (r6, S6)) : SRr S6 x0 ru rw fa tb ab bb m sd rt ps kw kb ∧ MTF S S6 x0 rw tb ab fa ∧ zI S6 9 x0 = zI S 9 x0 ∧ (r6.toInt = 0 ∨ r6.toInt = 1) ∧ (r6.toInt = 1 ↔ POK w) ∧ (r6.toInt = 1 → PGf S6 x0 sd w) := by
  obtain ⟨hC, ⟨k8, p0, p1, p10⟩, ⟨k6, hrc⟩, -⟩ := id hS
  have hT := hC.1.1
  have nx : rw ≠ x0 := fun e => by rw [← e, k6] at k8; exact absurd k8 (by decide)
  have T6 : ZT S6 := (ok_of (t_f_X8_parse (SZ := S) hT (a7_0 S) k8) h6).1
  obtain ⟨g1, g2⟩ := p_parse p1 nx hw hb hlw h6
  dsimp only at g1 g2
  refine ⟨sr_m hS T6 (mtf_x g1.1), mtf_x g1.1, g1.2 9 (by decide), ?_⟩
  rcases g2 with ⟨a1, a2, a3, a4⟩ | ⟨a0, a1, a2, a3, a4⟩ | ⟨a0, a1, a2, a3, a4, a5⟩
  · have ec : pCs w = 2 := if_pos a1
    refine ⟨Or.inr a2, ⟨fun _ => Or.inl a1, fun _ => a2⟩, fun _ => ⟨(zI S6 6 x0).toInt, ⟨by rw [ec]; exact a3, fun h => by rw [ec] at h; omega, rfl, ?_⟩, fun h => by rw [ec] at h; omega, ?_⟩⟩
    · unfold bcW
      rw [ec, if_neg (by decide)]
      exact a4
    · unfold toC
      rw [ec, if_neg (by decide), if_neg (by decide)]
  · have ec : pCs w = -2 := by
      unfold pCs
      rw [if_neg a0, if_pos a1]
    refine ⟨Or.inr a2, ⟨fun _ => Or.inr (Or.inl a1), fun _ => a2⟩, fun _ => ⟨(zI S6 6 x0).toInt, ⟨by rw [ec]; exact a3, fun h => by rw [ec] at h; omega, rfl, ?_⟩, fun h => by rw [ec] at h; omega, ?_⟩⟩
    · unfold bcW
      rw [ec, if_neg (by decide)]
      exact a4
    · unfold toC
      rw [ec, if_neg (by decide), if_neg (by decide)]
  · have ec : pCs w = 0 := by
      unfold pCs
      rw [if_neg a0, if_neg a1]
    refine ⟨a3, a4.trans ⟨fun h => Or.inr (Or.inr h), fun h => h.elim (fun g => absurd g a0) (fun g => g.elim (fun g => absurd g a1) id)⟩, fun h => ?_⟩
    obtain ⟨b1, b2, b3, b4, b5, b6⟩ := a5 h
    have ok := a4.1 h
    have hv := (pr_to ok).1
    refine ⟨prT w, ⟨by rw [ec]; exact a2, fun _ => ⟨b1, b2, b3, b6⟩, b4, ?_⟩, fun _ => hv.2.2.2.2.2.1, rfl⟩
    unfold bcW
    rw [if_pos ec]
    exact b5
/-- what is held while the gathered moves are looked at -/
noncomputable def MJ (S0 S : ZS) (x0 ru rw fa tb ab bb : Nat) (m : Int → Int) (sd rt ps kw kb ko : Int) (w : List Int) (ck : Int) (x5 x6 x7 : Int32) : Prop := SRr S x0 ru rw fa tb ab bb m sd rt ps kw kb ∧ MTF S0 S x0 rw tb ab fa ∧ (zI S 9 x0).toInt = ck ∧ (zI S 11 x0).toInt = (cnt (AQw m sd rt ps ko false w) 64 : Int) ∧ LST (fun i => (zA S fa i).toInt) (AQw m sd rt ps ko false w) (mvW sd w) 64 ∧ x6.toInt = (cnt (fun k => F1 m sd rt ps kw kb ck ((zA S fa k).toInt)) x7.toInt.toNat : Int) ∧ (0 < x6.toInt → ∃ a, a < 64 ∧ AQw m sd rt ps ko false w a ∧ F1 m sd rt ps kw kb ck (mvW sd w a) ∧ x5.toInt = mvW sd w a)
/-- how many moves of a word there are -/
noncomputable def NW1 (m : Int → Int) (sd rt ps kw kb ko : Int) (w : List Int) (ck : Int) : Nat := cnt (fun a => AQw m sd rt ps ko false w a ∧ F1 m sd rt ps kw kb ck (mvW sd w a)) 64
theorem mvW_b {a : Nat} (hs2 : sd = 0 ∨ sd = 1) (hok : POK w) (ha : a < 64) : 0 ≤ mvW sd w a ∧ mvW sd w a ≤ 24575 ∧ mvW sd w a % 64 = (a : Int) ∧ mvW sd w a / 64 % 64 = toC sd (pCs w) (prT w) ∧ mvW sd w a / 4096 = bcW w := by
  have h1 := bc_rng hok
  have h2 : 0 ≤ toC sd (pCs w) (prT w) ∧ toC sd (pCs w) (prT w) ≤ 63 := by
    unfold toC
    by_cases c : pCs w = 0
    · rw [if_pos c]
      have ok : PRSok w := by
        rcases hok with h | h | h
        · exfalso; unfold pCs at c; rw [if_pos h] at c; omega
        · exfalso; unfold pCs at c; rw [if_neg (fun e => str_78 (e.symm.trans h)), if_pos h] at c; omega
        · exact h
      exact (pr_to ok).1.2.2.2.2.2.1
    · rw [if_neg c]
      have : pCs w = 2 ∨ pCs w = -2 := by
        rcases hok with h | h | h
        · exact Or.inl (if_pos h)
        · right
          unfold pCs
          rw [if_neg (fun e => str_78 (e.symm.trans h)), if_pos h]
        · exfalso
          apply c
          unfold pCs
          have n7 : w ≠ strL 7 := fun e => h.2.1 (by rw [e]; decide)
          have n8 : w ≠ strL 8 := fun e => h.2.1 (by rw [e]; decide)
          rw [if_neg n7, if_neg n8]
      omega
  unfold mvW mvA
  omega
theorem mt_79 {x2 : Nat} {x3 x4 x5 x6 x7 : Int32} {ck : Int} {self29 : Nat → Nat → Nat → Int32 → Int32 → Int32 → Int32 → Int32 → ZS → Option (Int32 × ZS)} {G : Prop} (h7 : 0 ≤ x7.toInt ∧ x7.toInt < 64) (H : ∀ (x5 x6 v : Int32) (S : ZS), v.toInt = x7.toInt + 1 → MJ S0 S x0 ru rw fa tb ab bb m sd rt ps kw kb ko w ck x5 x6 v → self29 x0 bb x2 x3 x4 x5 x6 v S = some o → G) (hJ : MJ S0 S x0 ru rw fa tb ab bb m sd rt ps kw kb ko w ck x5 x6 x7) (hn : ¬ F1 m sd rt ps kw kb ck ((zA S fa x7.toInt.toNat).toInt)) (hf : d_X8_matched_79 self29 x0 bb x2 x3 x4 x5 x6 x7 S = some o) : G := by
  unfold d_X8_matched_79 at hf
  obtain ⟨v1, e_v1, hf⟩ := m_bndE hf
  have t_v1 : v1.toInt = x7.toInt + 1 := ti_add e_v1 rfl (show (1 : Int32).toInt = 1 from rfl) (by omega) (by omega)
  obtain ⟨a1, a2, a3, a4, a5, a6, a7⟩ := hJ
  refine H x5 x6 v1 S t_v1 ⟨a1, a2, a3, a4, a5, ?_, a7⟩ hf
  rw [show v1.toInt.toNat = x7.toInt.toNat + 1 by omega, cnt_n hn]
  exact a6
theorem mt_67 {x2 : Nat} {x3 x4 x5 x6 x7 : Int32} {ck : Int} {self29 : Nat → Nat → Nat → Int32 → Int32 → Int32 → Int32 → Int32 → ZS → Option (Int32 × ZS)} {G : Prop} (h7 : 0 ≤ x7.toInt ∧ x7.toInt < 64) (H : ∀ (x5 x6 v : Int32) (S : ZS), v.toInt = x7.toInt + 1 → MJ S0 S x0 ru rw fa tb ab bb m sd rt ps kw kb ko w ck x5 x6 v → self29 x0 bb x2 x3 x4 x5 x6 v S = some o → G) (hJ : MJ S0 S x0 ru rw fa tb ab bb m sd rt ps kw kb ko w ck x5 x6 x7) (hy : F1 m sd rt ps kw kb ck ((zA S fa x7.toInt.toNat).toInt)) {a : Nat} (ha : a < 64) (hq : AQw m sd rt ps ko false w a) (hl : (zA S fa x7.toInt.toNat).toInt = mvW sd w a) (hf : d_X8_matched_67 self29 x0 bb x2 x3 x4 x6 x7 S = some o) : G := by
  obtain ⟨a1, a2, a3, a4, a5, a6, a7⟩ := id hJ
  have p10 := a1.2.1.2.2.2
  have c6 : cnt (fun k => F1 m sd rt ps kw kb ck ((zA S fa k).toInt)) x7.toInt.toNat ≤ x7.toInt.toNat := cnt_le
  unfold d_X8_matched_67 at hf
  obtain ⟨-, hf⟩ := m_chkE hf
  replace hf := m_calY hf p10
  obtain ⟨-, hf⟩ := m_chkE hf
  obtain ⟨-, hf⟩ := m_chkE hf
  obtain ⟨v2, e_v2, hf⟩ := m_bndE hf
  have q2 : v2.toInt = mvW sd w a := by rw [e_v2]; exact hl
  obtain ⟨v3, e_v3, hf⟩ := m_bndE hf
  have t_v3 : v3.toInt = x6.toInt + 1 := ti_add e_v3 rfl (show (1 : Int32).toInt = 1 from rfl) (by omega) (by omega)
  unfold d_X8_matched_79 at hf
  obtain ⟨v9, e9, hf⟩ := m_bndE hf
  have t9 : v9.toInt = x7.toInt + 1 := ti_add e9 rfl (show (1 : Int32).toInt = 1 from rfl) (by omega) (by omega)
  refine H v2 v3 v9 S t9 ⟨a1, a2, a3, a4, a5, ?_, fun _ => ⟨a, ha, hq, by rw [← hl]; exact hy, q2⟩⟩ hf
  rw [show v9.toInt.toNat = x7.toInt.toNat + 1 by omega, cnt_y hy, t_v3, a6]
  omega
theorem mt_29 {x2 : Nat} {x3 x4 : Int32} {ck : Int} (hko : ko = if sd = 0 then kw else kb) (hM : MBd m) (hr : 0 ≤ rt ∧ rt ≤ 15) (hs2 : sd = 0 ∨ sd = 1) (hok : POK w) : ∀ (n : Nat) (x5 x6 x7 : Int32) (S : ZS), (0 ≤ x7.toInt ∧ x7.toInt ≤ (cnt (AQw m sd rt ps ko false w) 64 : Int)) → MJ S0 S x0 ru rw fa tb ab bb m sd rt ps kw kb ko w ck x5 x6 x7 → d_X8_matched_29 n x0 bb x2 x3 x4 x5 x6 x7 S = some o → (NW1 m sd rt ps kw kb ko w ck = 0 ∧ ∃ S1, SRr S1 x0 ru rw fa tb ab bb m sd rt ps kw kb ∧ MTF S0 S1 x0 rw tb ab fa ∧ d_X8_matched_103 x0 bb x2 x3 x4 S1 = some o) ∨ (0 < NW1 m sd rt ps kw kb ko w ck ∧ SRr o.2 x0 ru rw fa tb ab bb m sd rt ps kw kb ∧ MTF S0 o.2 x0 rw tb ab fa ∧ ((NW1 m sd rt ps kw kb ko w ck = 1 ∧ ∃ a, a < 64 ∧ AQw m sd rt ps ko false w a ∧ F1 m sd rt ps kw kb ck (mvW sd w a) ∧ o.1.toInt = mvW sd w a) ∨ (NW1 m sd rt ps kw kb ko w ck ≠ 1 ∧ o.1.toInt = -1))) := by
  intro n
  induction n with
  | zero => intro x5 x6 x7 S _ _ hf; cases hf
  | succ n ih =>
    intro x5 x6 x7 S h7 hJ hf
    have hf : d_X8_matched_29s (d_X8_matched_29 n) x0 bb x2 x3 x4 x5 x6 x7 S = some o := hf
    obtain ⟨a1, a2, a3, a4, a5, a6, a7⟩ := id hJ
    obtain ⟨hC, ⟨k8, p0, p1, p10⟩, ⟨k6, hrc⟩, ⟨k14, n64⟩, ⟨t1, t2, t3⟩, ⟨y1, y2, y3⟩⟩ := id a1
    have hc64 : cnt (AQw m sd rt ps ko false w) 64 ≤ 64 := cnt_le
    have z0 : (0 : Int32).toInt = 0 := rfl
    -- at the end
    have fin : (cnt (AQw m sd rt ps ko false w) 64 : Int) ≤ x7.toInt → x6.toInt = (NW1 m sd rt ps kw kb ko w ck : Int) := fun h => by
      have e7 : x7.toInt.toNat = cnt (AQw m sd rt ps ko false w) 64 := by omega
      rw [a6, e7, lst_cnt (F := F1 m sd rt ps kw kb ck) 64 a5]
      rfl
    have H : x7.toInt < (cnt (AQw m sd rt ps ko false w) 64 : Int) → ∀ (x5 x6 v : Int32) (S : ZS), v.toInt = x7.toInt + 1 → MJ S0 S x0 ru rw fa tb ab bb m sd rt ps kw kb ko w ck x5 x6 v → d_X8_matched_29 n x0 bb x2 x3 x4 x5 x6 v S = some o → _ := fun hlt x5 x6 v S ev hJ hf => ih x5 x6 v S (by omega) hJ hf
    unfold d_X8_matched_29s at hf
    obtain ⟨-, hf⟩ := m_chkE hf
    rcases m_ifE hf with ⟨c1, hf⟩ | ⟨c1, hf⟩
    · skip
      replace c1 := ti_leP (a := (zI S 11 x0)) (b := x7) c1 rfl rfl
      have e6 := fin (by omega)
      rcases m_ifE hf with ⟨c2, hf⟩ | ⟨c2, hf⟩
      · skip
        replace c2 := ti_leP (a := x6) (b := (0 : Int32)) c2 rfl (show (0 : Int32).toInt = 0 from rfl)
        exact Or.inl ⟨by omega, S, a1, a2, hf⟩
      · skip
        replace c2 := ti_leN (a := x6) (b := (0 : Int32)) c2 rfl (show (0 : Int32).toInt = 0 from rfl)
        rcases m_ifE hf with ⟨c3, hf⟩ | ⟨c3, hf⟩
        · skip
          replace c3 := ti_eqP (a := x6) (b := (1 : Int32)) c3 rfl (show (1 : Int32).toInt = 1 from rfl)
          unfold d_X8_matched_102 at hf
          cases hf
          try dsimp only
          refine Or.inr ⟨by omega, a1, a2, Or.inl ⟨by omega, ?_⟩⟩
          exact a7 (by omega)
        · skip
          replace c3 := ti_eqN (a := x6) (b := (1 : Int32)) c3 rfl (show (1 : Int32).toInt = 1 from rfl)
          unfold d_X8_matched_102 at hf
          cases hf
          try dsimp only
          exact Or.inr ⟨by omega, a1, a2, Or.inr ⟨by omega, rfl⟩⟩
    · skip
      replace c1 := ti_leN (a := (zI S 11 x0)) (b := x7) c1 rfl rfl
      obtain ⟨a, ha, hq, hqc⟩ := cnt_sur (P := AQw m sd rt ps ko false w) (k := x7.toInt.toNat) (N := 64) (by omega)
      have hl : (zA S fa x7.toInt.toNat).toInt = mvW sd w a := by
        have := a5 a ha hq
        rw [hqc] at this
        exact this
      obtain ⟨m1, m2, m3, m4, m5⟩ := mvW_b (a := a) hs2 hok ha
      obtain ⟨-, hf⟩ := m_chkE hf
      rcases m_ifE hf with ⟨c4, hf⟩ | ⟨c4, hf⟩
      · skip
        replace c4 := ti_eqP (a := (zI S 9 x0)) (b := (0 : Int32)) c4 rfl (show (0 : Int32).toInt = 0 from rfl)
        exact mt_67 ⟨h7.1, by omega⟩ (H (by omega)) hJ (Or.inl (by omega)) ha hq hl hf
      · skip
        replace c4 := ti_eqN (a := (zI S 9 x0)) (b := (0 : Int32)) c4 rfl (show (0 : Int32).toInt = 0 from rfl)
        obtain ⟨-, hf⟩ := m_chkE hf
        obtain ⟨-, hf⟩ := m_chkE hf
        replace hf := m_calY hf p0
        obtain ⟨-, hf⟩ := m_chkE hf
        replace hf := m_calY hf p10
        obtain ⟨-, hf⟩ := m_chkE hf
        obtain ⟨-, hf⟩ := m_chkE hf
        obtain ⟨v3, e_v3, hf⟩ := m_bndE hf
        obtain ⟨-, hf⟩ := m_chkE hf
        obtain ⟨⟨r4, S4c⟩, h_r4, hf⟩ := m_calE hf
        dsimp only at hf
        have ev : (zA S fa x7.toNatClampNeg).toInt = mvW sd w a := hl
        rw [← e_v3] at ev
        have hR : 0 ≤ afR rt v3.toInt ∧ afR rt v3.toInt ≤ 15 := by
          have := (rt_pl (r := Int32.ofInt rt) (a := v3.toInt % 64) (t := v3.toInt / 64 % 64) (by rw [Int32.toInt_ofInt_of_le (by omega) (by omega)]; exact hr)).1
          exact this
        have hM2 : MBd (afM m sd ps v3.toInt) := mbd_pl hM hs2 (by have := bc_rng hok; omega)
        obtain ⟨C4, s4, q4⟩ := p_checkSign hC hM (by omega) hs2 hR hM2 h_r4
        dsimp only at C4 s4 q4
        have mm : MTF S S4c x0 rw tb ab fa := mtf_s s4 hC.1.1 t1 t2
        have R4 := sr_m a1 C4.1.1 mm
        have nx1 : x0 ≠ tb := fun e => by have := hC.1.2.2.1.1; rw [← e, k8] at this; exact absurd this (by decide)
        have nx2 : x0 ≠ ab := fun e => by have := hC.2.1.2.1; rw [← e, k8] at this; exact absurd this (by decide)
        have i4 : ∀ j, zI S4c j x0 = zI S j x0 := fun j => s4.2.2.1 j x0 nx1 nx2
        have f4 : zA S4c fa = zA S fa := s4.2.2.2.1 fa y1 y2
        have J4 : MJ S0 S4c x0 ru rw fa tb ab bb m sd rt ps kw kb ko w ck x5 x6 x7 := ⟨R4, mtf_t a2 mm, by rw [i4]; exact a3, by rw [i4]; exact a4, by rw [f4]; exact a5, by rw [f4]; exact a6, a7⟩
        obtain ⟨-, hf⟩ := m_chkE hf
        rcases m_ifE hf with ⟨c5, hf⟩ | ⟨c5, hf⟩
        · skip
          replace c5 := ti_eqP (a := (zI S 9 x0)) (b := r4) c5 rfl rfl
          refine mt_67 ⟨h7.1, by omega⟩ (H (by omega)) J4 ?_ ha hq (by rw [f4]; exact hl) hf
          rw [f4, hl, ← ev]
          right
          have e9 : ck = r4.toInt := by omega
          rw [e9]
          exact q4
        · skip
          replace c5 := ti_eqN (a := (zI S 9 x0)) (b := r4) c5 rfl rfl
          refine mt_79 ⟨h7.1, by omega⟩ (H (by omega)) J4 ?_ hf
          rw [f4, hl, ← ev]
          rintro (g | g)
          · omega
          · have := csP_u g q4
            omega
/-- the word without x, + and # -/
theorem mt_103 {x3 x4 : Int32} {ch : Int → Int} (hS : SRr S x0 ru rw fa tb ab bb m sd rt ps kw kb) (kt : zK S tr = 6) (hne : tr ≠ rw) (hch : rwC S tr = ch) (hcb : ∀ i, 0 ≤ ch i ∧ ch i ≤ 127) (h3 : 0 ≤ x3.toInt ∧ x3.toInt ≤ 90000) (h4 : 0 ≤ x4.toInt ∧ x4.toInt ≤ 90000) (hko : ko = if sd = 0 then kw else kb) (hM : MBd m) (hr : 0 ≤ rt ∧ rt ≤ 15) (hs2 : sd = 0 ∨ sd = 1) (hw2 : w = (txF true ch x3.toInt (x4.toInt - x3.toInt).toNat).take 8) (hf : d_X8_matched_103 x0 bb tr x3 x4 S = some o) : SRr o.2 x0 ru rw fa tb ab bb m sd rt ps kw kb ∧ MTF S o.2 x0 rw tb ab fa ∧ ((POK w ∧ cnt (AQw m sd rt ps ko true w) 64 = 1 ∧ o.1.toInt = -2) ∨ (¬ (POK w ∧ cnt (AQw m sd rt ps ko true w) 64 = 1) ∧ o.1.toInt = -1)) := by
  have z0 : (0 : Int32).toInt = 0 := rfl
  have hwb : ∀ i, 0 ≤ wA w i ∧ wA w i ≤ 127 := fun i => by rw [hw2]; exact wA_b (txF_b hcb) i
  have hwl : w.length ≤ 8 := by rw [hw2, List.length_take]; omega
  unfold d_X8_matched_103 at hf
  obtain ⟨-, hf⟩ := m_chkE hf
  obtain ⟨⟨r2, S3⟩, h_r2, hf⟩ := m_cal2E hf
  dsimp only at hf
  obtain ⟨T3, m3, w3⟩ := p_copyBare (tb := tb) (ab := ab) (fa := fa) hS kt hne hch h3 h4 h_r2
  dsimp only at T3 m3 w3
  rw [← hw2] at w3
  have R3 := sr_m hS T3 m3
  obtain ⟨-, hf⟩ := m_chkE hf
  obtain ⟨⟨r6, S6c⟩, h_r6, hf⟩ := m_calE hf
  dsimp only at hf
  obtain ⟨R6, m6, -, b6, q6, f6⟩ := p_pg R3 w3 hwb hwl h_r6
  obtain ⟨-, hf⟩ := m_chkE hf
  rcases m_ifE hf with ⟨c1, hf⟩ | ⟨c1, hf⟩
  · skip
    replace c1 := ti_eqP (a := r6) (b := (0 : Int32)) c1 rfl (show (0 : Int32).toInt = 0 from rfl)
    cases hf
    try dsimp only
    exact ⟨R6, mtf_t m3 m6, Or.inr ⟨fun h => by have := q6.2 h.1; omega, rfl⟩⟩
  · skip
    replace c1 := ti_eqN (a := r6) (b := (0 : Int32)) c1 rfl (show (0 : Int32).toInt = 0 from rfl)
    obtain ⟨-, hf⟩ := m_chkE hf
    obtain ⟨S7, e_S7, hf⟩ := m_bndE hf
    obtain ⟨tq, ⟨l2, l3, l6, l7⟩, ht1, ht2⟩ := f6 (by omega)
    have hok := q6.1 (by omega)
    have T7 : ZT S7 := e_S7.symm ▸ zt_I R6.1.1.1 R6.2.1.1 (by decide) (show (-1 : Int) ≤ (-1 : Int32).toInt ∧ (-1 : Int32).toInt ≤ (1 : Int) by decide)
    have x7 : SXf S6c S7 x0 := sx_I e_S7
    have R7 := sr_m R6 T7 (mtf_x x7)
    have o7 : ∀ j, j ≠ 8 → zI S7 j x0 = zI S6c j x0 := fun j hj => by rw [e_S7, zI_j hj]
    have L7 : FLD S7 x0 (pCs w) (prK w) (prF w) (prR w) tq (bcW w) (-1) := ⟨by rw [o7 2 (by decide)]; exact l2, fun h => ⟨by rw [o7 3 (by decide)]; exact (l3 h).1, by rw [o7 4 (by decide)]; exact (l3 h).2.1, by rw [o7 5 (by decide)]; exact (l3 h).2.2.1, by rw [e_S7, zI_self]; rfl⟩, by rw [o7 6 (by decide)]; exact l6, by rw [o7 7 (by decide)]; exact l7⟩
    obtain ⟨-, hf⟩ := m_chkE hf
    obtain ⟨⟨r8, S8c⟩, h_r8, hf⟩ := m_calE hf
    dsimp only at hf
    have pr := pr_rng w
    have cs3 : pCs w = 0 ∨ pCs w = 2 ∨ pCs w = -2 := by
      unfold pCs
      split
      · exact Or.inr (Or.inl rfl)
      · split
        · exact Or.inr (Or.inr rfl)
        · exact Or.inl rfl
    have G8 := p_gather R7 L7 hko hM hr hs2 cs3 ht1 (bc_rng hok) pr.1 (by decide) h_r8
    dsimp only at G8
    obtain ⟨R8, m8, -, -, n8, -⟩ := G8
    rw [ht2] at n8
    have eA : AQn m sd rt ps ko (pCs w) (prK w) (prF w) (prR w) (toC sd (pCs w) (prT w)) (bcW w) (-1) = AQw m sd rt ps ko true w := rfl
    rw [eA] at n8
    have mA := mtf_t (mtf_t (mtf_t m3 m6) (mtf_x x7)) m8
    obtain ⟨-, hf⟩ := m_chkE hf
    obtain ⟨-, hf⟩ := m_chkE hf
    rcases m_ifE hf with ⟨c2, hf⟩ | ⟨c2, hf⟩
    · skip
      replace c2 := ti_eqP (a := (zI S8c 11 x0)) (b := (1 : Int32)) c2 rfl (show (1 : Int32).toInt = 1 from rfl)
      unfold d_X8_matched_144 at hf
      cases hf
      try dsimp only
      exact ⟨R8, mA, Or.inl ⟨hok, by omega, rfl⟩⟩
    · skip
      replace c2 := ti_eqN (a := (zI S8c 11 x0)) (b := (1 : Int32)) c2 rfl (show (1 : Int32).toInt = 1 from rfl)
      unfold d_X8_matched_144 at hf
      cases hf
      try dsimp only
      exact ⟨R8, mA, Or.inr ⟨fun h => by have := h.2; omega, rfl⟩⟩
/-- what the class answers of signs: by the counts of the moves that fit -/
noncomputable def RSc (m : Int → Int) (sd rt ps kw kb ko : Int) (u w2 : List Int) (v : Int) : Prop := (POK (ckW u) ∧ 0 < NW1 m sd rt ps kw kb ko (ckW u) (ckO u) ∧ ((NW1 m sd rt ps kw kb ko (ckW u) (ckO u) = 1 ∧ ∃ a, a < 64 ∧ AQw m sd rt ps ko false (ckW u) a ∧ F1 m sd rt ps kw kb (ckO u) (mvW sd (ckW u) a) ∧ v = mvW sd (ckW u) a) ∨ (NW1 m sd rt ps kw kb ko (ckW u) (ckO u) ≠ 1 ∧ v = -1))) ∨ (¬ (POK (ckW u) ∧ 0 < NW1 m sd rt ps kw kb ko (ckW u) (ckO u)) ∧ ((POK w2 ∧ cnt (AQw m sd rt ps ko true w2) 64 = 1 ∧ v = -2) ∨ (¬ (POK w2 ∧ cnt (AQw m sd rt ps ko true w2) 64 = 1) ∧ v = -1)))
theorem p_matched {x3 x4 : Int32} {ch : Int → Int} (hS : SRr S x0 ru rw fa tb ab bb m sd rt ps kw kb) (kt : zK S tr = 6) (hne : tr ≠ rw) (hch : rwC S tr = ch) (hcb : ∀ i, 0 ≤ ch i ∧ ch i ≤ 127) (h3 : 0 ≤ x3.toInt ∧ x3.toInt ≤ 90000) (h4 : 0 ≤ x4.toInt ∧ x4.toInt ≤ 90000) (hko : ko = if sd = 0 then kw else kb) (hM : MBd m) (hr : 0 ≤ rt ∧ rt ≤ 15) (hs2 : sd = 0 ∨ sd = 1) (hf : d_X8_matched x0 bb tr x3 x4 S = some o) : SRr o.2 x0 ru rw fa tb ab bb m sd rt ps kw kb ∧ MTF S o.2 x0 rw tb ab fa ∧ RSc m sd rt ps kw kb ko ((txF false ch x3.toInt (x4.toInt - x3.toInt).toNat).take 8) ((txF true ch x3.toInt (x4.toInt - x3.toInt).toNat).take 8) o.1.toInt := by
  have hf : d_X8_matched_0 x0 bb tr x3 x4 S = some o := hf
  generalize hu : (txF false ch x3.toInt (x4.toInt - x3.toInt).toNat).take 8 = u
  have z0 : (0 : Int32).toInt = 0 := rfl
  have hub : ∀ i, 0 ≤ wA u i ∧ wA u i ≤ 127 := fun i => by rw [← hu]; exact wA_b (txF_b hcb) i
  have hul : u.length ≤ 8 := by rw [← hu, List.length_take]; omega
  have hwl : (ckW u).length ≤ 8 := by
    unfold ckW
    split
    · rw [List.length_take]; omega
    · exact hul
  have hwb : ∀ i, 0 ≤ wA (ckW u) i ∧ wA (ckW u) i ≤ 127 := fun i => by
    unfold ckW
    split
    · rw [wA_take]
      split
      · exact hub i
      · omega
    · exact hub i
  have k8 := hS.2.1.1
  have ktb := hS.1.1.2.2.1.1
  have kab := hS.1.2.1.2.1
  have bare : ∀ S1, SRr S1 x0 ru rw fa tb ab bb m sd rt ps kw kb → MTF S S1 x0 rw tb ab fa → ¬ (POK (ckW u) ∧ 0 < NW1 m sd rt ps kw kb ko (ckW u) (ckO u)) → d_X8_matched_103 x0 bb tr x3 x4 S1 = some o → SRr o.2 x0 ru rw fa tb ab bb m sd rt ps kw kb ∧ MTF S o.2 x0 rw tb ab fa ∧ RSc m sd rt ps kw kb ko u ((txF true ch x3.toInt (x4.toInt - x3.toInt).toNat).take 8) o.1.toInt := by
    intro S1 R1 m1 hn hf
    obtain ⟨g1, g2, g3⟩ := mt_103 R1 (by rw [(m1.1 tr (by rw [kt]; decide)).1]; exact kt) hne ((mtf_rw m1 kt hne k8 ktb kab).trans hch) hcb h3 h4 hko hM hr hs2 rfl hf
    exact ⟨g1, mtf_t m1 g2, Or.inr ⟨hn, g3⟩⟩
  unfold d_X8_matched_0 at hf
  obtain ⟨-, hf⟩ := m_chkE hf
  obtain ⟨⟨r2, S3⟩, h_r2, hf⟩ := m_cal2E hf
  dsimp only at hf
  obtain ⟨T3, m3, c9, w3⟩ := p_copyWhole (tb := tb) (ab := ab) (fa := fa) hS kt hne hch h3 h4 h_r2
  dsimp only at T3 m3 c9 w3
  rw [hu] at c9 w3
  have R3 := sr_m hS T3 m3
  obtain ⟨-, hf⟩ := m_chkE hf
  obtain ⟨⟨r6, S6c⟩, h_r6, hf⟩ := m_calE hf
  dsimp only at hf
  obtain ⟨R6, m6, i9, b6, q6, f6⟩ := p_pg R3 w3 hwb hwl h_r6
  obtain ⟨-, hf⟩ := m_chkE hf
  rcases m_ifE hf with ⟨c1, hf⟩ | ⟨c1, hf⟩
  · skip
    replace c1 := ti_eqP (a := r6) (b := (0 : Int32)) c1 rfl (show (0 : Int32).toInt = 0 from rfl)
    exact bare _ R6 (mtf_t m3 m6) (fun h => by have := q6.2 h.1; omega) hf
  · skip
    replace c1 := ti_eqN (a := r6) (b := (0 : Int32)) c1 rfl (show (0 : Int32).toInt = 0 from rfl)
    obtain ⟨-, hf⟩ := m_chkE hf
    obtain ⟨⟨r7, S7c⟩, h_r7, hf⟩ := m_calE hf
    dsimp only at hf
    obtain ⟨tq, hL, ht1, ht2⟩ := f6 (by omega)
    have hok := q6.1 (by omega)
    have pr := pr_rng (ckW u)
    have cs3 : pCs (ckW u) = 0 ∨ pCs (ckW u) = 2 ∨ pCs (ckW u) = -2 := by
      unfold pCs
      split
      · exact Or.inr (Or.inl rfl)
      · split
        · exact Or.inr (Or.inr rfl)
        · exact Or.inl rfl
    have G7 := p_gather R6 hL hko hM hr hs2 cs3 ht1 (bc_rng hok) pr.1 (by omega) h_r7
    dsimp only at G7
    obtain ⟨R7, m7, -, i97, n7, l7⟩ := G7
    rw [ht2] at n7 l7
    have eA : AQn m sd rt ps ko (pCs (ckW u)) (prK (ckW u)) (prF (ckW u)) (prR (ckW u)) (toC sd (pCs (ckW u)) (prT (ckW u))) (bcW (ckW u)) (prX (ckW u)) = AQw m sd rt ps ko false (ckW u) := rfl
    rw [eA] at n7 l7
    have mA := mtf_t (mtf_t m3 m6) m7
    obtain ⟨-, hf⟩ := m_chkE hf
    have hJ : MJ S S7c x0 ru rw fa tb ab bb m sd rt ps kw kb ko (ckW u) (ckO u) (-1) 0 0 := ⟨R7, mA, by rw [i97, i9]; exact c9, n7, l7, rfl, fun h => absurd h (by decide)⟩
    rcases mt_29 hko hM hr hs2 hok mFuel (-1) 0 0 S7c (by omega) hJ hf with ⟨e, S1, R1, m1, hf1⟩ | ⟨e, R1, m1, e2⟩
    · exact bare S1 R1 m1 (fun h => by omega) hf1
    · exact ⟨R1, m1, Or.inl ⟨hok, e, e2⟩⟩
end MTC
end
