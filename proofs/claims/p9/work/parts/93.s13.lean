/-- a move's place in the order: from, to, what it becomes -/
def mvk (key : Nat) : Int := ((key / 512 : Nat) : Int) + 64 * ((key / 8 % 64 : Nat) : Int) + 4096 * ((key % 8 : Nat) : Int)
/-- legal by the reference -/
def LR (m : Int → Int) (sd rt ps ko : Int) (key : Nat) : Prop := goR m sd rt ps ((key / 512 : Nat) : Int) ((key / 8 % 64 : Nat) : Int) ∧ ¬ attd (mkR m sd ((key / 512 : Nat) : Int) ((key / 8 % 64 : Nat) : Int) 0) (kgB m sd ps ((key / 512 : Nat) : Int) ((key / 8 % 64 : Nat) : Int) 0 sd ko) (1 - sd) ∧ PRo m ((key / 512 : Nat) : Int) ((key / 8 % 64 : Nat) : Int) ((key % 8 : Nat) : Int)
/-- while the moves are found -/
def FMi (m : Int → Int) (sd rt ps ko : Int) (K : Nat) (I : Nat → Int32) (A : Nat → Nat → Int32) : Prop := TJ I ∧ TK A ∧ mR A = m ∧ (I 25).toInt = sd ∧ (I 26).toInt = rt ∧ (I 27).toInt = ps ∧ (I 29).toInt ≤ 1999 ∧ (I 33).toInt = ((cnt (LR m sd rt ps ko) K : Nat) : Int) ∧ LST (fun k => (A 32 k).toInt) (LR m sd rt ps ko) mvk K
section FMS
variable {m : Int → Int} {sd rt ps kw kb ko : Int}
theorem key_e {a t p : Nat} (ht : t < 64) (hp : p < 8) : ((a * 64 + t) * 8 + p) / 512 = a ∧ ((a * 64 + t) * 8 + p) / 8 % 64 = t ∧ ((a * 64 + t) * 8 + p) % 8 = p := by omega
theorem fm_gap {K L : Nat} {I : Nat → Int32} {A : Nat → Nat → Int32} (h : FMi m sd rt ps ko K I A) (hKL : K ≤ L) (hg : ∀ j, K ≤ j → j < L → ¬ LR m sd rt ps ko j) : FMi m sd rt ps ko L I A := by
  obtain ⟨h1, h2, h3, h4, h5, h6, h7, h8, h9⟩ := h
  refine ⟨h1, h2, h3, h4, h5, h6, h7, by rw [cnt_gap hKL hg]; exact h8, fun key hk hp => ?_⟩
  by_cases c : key < K
  · exact h9 key c hp
  · exact absurd hp (hg key (by omega) hk)
theorem fm_nA {K : Nat} {I : Nat → Int32} {A : Nat → Nat → Int32} (h : FMi m sd rt ps ko K I A) : FMi m sd rt ps ko K I (nA I A) := by
  obtain ⟨h1, h2, h3, h4, h5, h6, h7, h8, h9⟩ := h
  refine ⟨h1, tk_nA h1 h2, by rw [mR_nA]; exact h3, h4, h5, h6, h7, h8, fun key hk hp => ?_⟩
  have e : nA I A 32 = A 32 := nA_o (by decide) (by decide)
  show (nA I A 32 _).toInt = _
  rw [e]
  exact h9 key hk hp
theorem fm_add {K : Nat} {I I7 : Nat → Int32} {A A5 : Nat → Nat → Int32} {v4 v6 : Int32} (h : FMi m sd rt ps ko K I A) (hK : K < 32768) (hp : LR m sd rt ps ko K) (h0 : 0 ≤ (I 33).toInt ∧ (I 33).toInt < 2048) (e4 : v4.toInt = mvk K) (e5 : A5 = va_up A 32 (upd (A 32) (I 33).toNatClampNeg v4)) (e6 : v6 = I 33 + 1) (e7 : I7 = upd I 33 v6) : FMi m sd rt ps ko (K + 1) I7 A5 := by
  obtain ⟨h1, h2, h3, h4, h5, h6, h7, h8, h9⟩ := h
  have t6 : v6.toInt = (I 33).toInt + 1 := ti_add e6 rfl (show (1 : Int32).toInt = 1 from rfl) (by omega) (by omega)
  have o : ∀ j, j ≠ 33 → I7 j = I j := fun j hj => by rw [e7]; exact upd_ne hj
  have hn : (I 33).toNatClampNeg = cnt (LR m sd rt ps ko) K := by
    have : (I 33).toNatClampNeg = (I 33).toInt.toNat := rfl
    omega
  have hm : 0 ≤ mvk K ∧ mvk K ≤ 24575 := by
    have hq := hp.2.2
    unfold PRo at hq
    unfold mvk
    have a1 : K / 512 < 64 := by omega
    have a2 : K / 8 % 64 < 64 := Nat.mod_lt _ (by decide)
    omega
  refine ⟨?_, ?_, ?_, by rw [o 25 (by decide)]; exact h4, by rw [o 26 (by decide)]; exact h5, by rw [o 27 (by decide)]; exact h6, by rw [o 29 (by decide)]; exact h7, ?_, fun key hk hpk => ?_⟩
  · rw [e7]
    exact tj_u h1 (k := 33) (show (0 : Int) ≤ v6.toInt by omega) (show v6.toInt ≤ (2048 : Int) by omega)
  · rw [e5]
    exact tk_u h2 (j := 32) (show (0 : Int) ≤ v4.toInt by omega) (show v4.toInt ≤ (24575 : Int) by omega)
  · rw [← h3]
    exact mR_fr (by rw [e5]; exact va_up_ne _ _ (by decide))
  · rw [e7, upd_self, t6, cnt_y hp]
    omega
  · show (A5 32 _).toInt = _
    have e : A5 32 = upd (A 32) (I 33).toNatClampNeg v4 := by rw [e5]; exact va_up_self _ _ _
    rw [e]
    by_cases c : key = K
    · rw [c, hn, upd_self]; exact e4
    · have hlt : cnt (LR m sd rt ps ko) key < cnt (LR m sd rt ps ko) K := cnt_lt hpk (by omega)
      rw [upd_ne (by omega)]
      exact h9 key (by omega) hpk
/-- the key of a way, before what it becomes -/
def kyb (x1 x2 : Int32) : Nat := (x1.toInt.toNat * 64 + x2.toInt.toNat) * 8
theorem kyb_e {x1 x2 : Int32} {p : Nat} (h1 : 0 ≤ x1.toInt ∧ x1.toInt < 64) (h2 : 0 ≤ x2.toInt ∧ x2.toInt < 64) (hp : p < 8) : (((kyb x1 x2 + p) / 512 : Nat) : Int) = x1.toInt ∧ (((kyb x1 x2 + p) / 8 % 64 : Nat) : Int) = x2.toInt ∧ (((kyb x1 x2 + p) % 8 : Nat) : Int) = (p : Int) ∧ kyb x1 x2 + p < 32768 := by
  unfold kyb
  obtain ⟨a1, a2, a3⟩ := key_e (a := x1.toInt.toNat) (t := x2.toInt.toNat) (p := p) (by omega) hp
  rw [a1, a2, a3]
  omega
theorem lr_k {x1 x2 : Int32} {p : Nat} (h1 : 0 ≤ x1.toInt ∧ x1.toInt < 64) (h2 : 0 ≤ x2.toInt ∧ x2.toInt < 64) (hp : p < 8) : LR m sd rt ps ko (kyb x1 x2 + p) ↔ goR m sd rt ps x1.toInt x2.toInt ∧ ¬ attd (mkR m sd x1.toInt x2.toInt 0) (kgB m sd ps x1.toInt x2.toInt 0 sd ko) (1 - sd) ∧ PRo m x1.toInt x2.toInt (p : Int) := by
  obtain ⟨a1, a2, a3, -⟩ := kyb_e h1 h2 hp
  unfold LR
  rw [a1, a2, a3]
theorem fm_157 {x1 x2 : Int32} {o : Int32 × MS} {I : Nat → Int32} {A : Nat → Nat → Int32} {self7 : Int32 → (Nat → Int32) → (Nat → Nat → Int32) → Option (Int32 × MS)} {self15 : Int32 → Int32 → (Nat → Int32) → (Nat → Nat → Int32) → Option (Int32 × MS)} {G : Int32 × MS → Prop} (h1 : 0 ≤ x1.toInt ∧ x1.toInt < 64) (h2 : 0 ≤ x2.toInt ∧ x2.toInt < 64) (H : ∀ (v : Int32) (I : Nat → Int32) (A : Nat → Nat → Int32), v.toInt = x2.toInt + 1 → FMi m sd rt ps ko (kyb x1 x2 + 8) I A → self15 x1 v I A = some o → G o) {q : Nat} (hq : q ≤ 8) (hF : FMi m sd rt ps ko (kyb x1 x2 + q) I A) (hg : ∀ p, q ≤ p → p < 8 → ¬ LR m sd rt ps ko (kyb x1 x2 + p)) (hf : f_findMoves_157 self7 self15 x1 x2 I A = some o) : G o := by
  unfold f_findMoves_157 at hf
  obtain ⟨v1, e1, hf⟩ := m_bndE hf
  refine H v1 I A (ti_add e1 rfl (show (1 : Int32).toInt = 1 from rfl) (by omega) (by omega)) (fm_gap hF (by omega) (fun j j1 j2 hj => ?_)) hf
  have e : j = kyb x1 x2 + (j - kyb x1 x2) := by omega
  rw [e] at hj
  exact hg (j - kyb x1 x2) (by omega) (by omega) hj
theorem fm_100 {x1 x2 x3 x4 : Int32} {o : Int32 × MS} {self7 : Int32 → (Nat → Int32) → (Nat → Nat → Int32) → Option (Int32 × MS)} {self15 : Int32 → Int32 → (Nat → Int32) → (Nat → Nat → Int32) → Option (Int32 × MS)} {G : Int32 × MS → Prop} (h1 : 0 ≤ x1.toInt ∧ x1.toInt < 64) (h2 : 0 ≤ x2.toInt ∧ x2.toInt < 64) (h3 : x3.toInt = 0 ∨ x3.toInt = 1) (h3l : x3.toInt = 1 ↔ m x1.toInt % 8 = 1 ∧ (x2.toInt < 8 ∨ 56 ≤ x2.toInt)) (h4 : x4.toInt = 0 ∨ x4.toInt = 1) (hgo : goR m sd rt ps x1.toInt x2.toInt) (h4s : x4.toInt = 1 ↔ ¬ attd (mkR m sd x1.toInt x2.toInt 0) (kgB m sd ps x1.toInt x2.toInt 0 sd ko) (1 - sd)) (H : ∀ (v : Int32) (I : Nat → Int32) (A : Nat → Nat → Int32), v.toInt = x2.toInt + 1 → FMi m sd rt ps ko (kyb x1 x2 + 8) I A → self15 x1 v I A = some o → G o) : ∀ (n : Nat) (x5 : Int32) (I : Nat → Int32) (A : Nat → Nat → Int32), (0 ≤ x5.toInt ∧ x5.toInt ≤ 6) → (x3.toInt = 0 → x5.toInt ≤ 1) → (x3.toInt = 1 → 2 ≤ x5.toInt) → FMi m sd rt ps ko (kyb x1 x2 + x5.toInt.toNat) I A → f_findMoves_100 self7 self15 n x1 x2 x3 x4 x5 I A = some o → G o := by
  intro n
  have z0 : (0 : Int32).toInt = 0 := rfl
  have z5 : (5 : Int32).toInt = 5 := rfl
  induction n with
  | zero => intro x5 I A _ _ _ _ hf; cases hf
  | succ n ih =>
    intro x5 I A b5 c0 c1 hF hf
    have hf : f_findMoves_100s self7 self15 (f_findMoves_100 self7 self15 n) x1 x2 x3 x4 x5 I A = some o := hf
    unfold f_findMoves_100s at hf
    rcases m_ifE hf with ⟨c, hf⟩ | ⟨c, hf⟩
    · refine fm_157 h1 h2 H (q := x5.toInt.toNat) (by omega) hF (fun p _ p8 hp => ?_) hf
      have := h4s.2 ((lr_k h1 h2 p8).1 hp).2.1
      rw [c] at this
      omega
    · have hx4 : x4.toInt = 1 := h4.resolve_left (fun h => c (Int32.toInt_inj.1 h))
      have hsf := h4s.1 hx4
      -- one more
      have add : ∀ {t0 : Int32}, (∀ p : Nat, x5.toInt.toNat ≤ p → p < 8 → t0.toInt < x5.toInt → ¬ PRo m x1.toInt x2.toInt (p : Int)) → (¬ t0.toInt < x5.toInt → PRo m x1.toInt x2.toInt x5.toInt ∧ x5.toInt ≤ 5 ∧ (x3.toInt = 0 → x5.toInt = 0)) → f_findMoves_116 self7 self15 (f_findMoves_100 self7 self15 n) x1 x2 x3 x4 x5 t0 x5 I A = some o → G o := by
        intro t0 g1 g2 hf
        unfold f_findMoves_116 at hf
        rcases m_ifE hf with ⟨d, hf⟩ | ⟨d, hf⟩
        · have d1 := ti_ltP (a := t0) (b := x5) d rfl rfl
          exact fm_157 h1 h2 H (q := x5.toInt.toNat) (by omega) hF (fun p p1 p8 hp => g1 p p1 p8 d1 ((lr_k h1 h2 p8).1 hp).2.2) hf
        · have d1 := ti_ltN (a := t0) (b := x5) d rfl rfl
          obtain ⟨k1, k2, k3⟩ := g2 (by omega)
          obtain ⟨v1, e1, hf⟩ := m_bndE hf
          obtain ⟨v2, e2, hf⟩ := m_bndE hf
          obtain ⟨v3, e3, hf⟩ := m_bndE hf
          obtain ⟨v4, e4, hf⟩ := m_bndE hf
          obtain ⟨hi, hf⟩ := m_chkE hf
          obtain ⟨A5, e5, hf⟩ := m_bndE hf
          obtain ⟨v6, e6, hf⟩ := m_bndE hf
          obtain ⟨I7, e7, hf⟩ := m_bndE hf
          obtain ⟨v8, e8, hf⟩ := m_bndE hf
          have t1 : v1.toInt = 64 * x2.toInt := ti_mul e1 (show (64 : Int32).toInt = 64 from rfl) rfl (by omega) (by omega)
          have t2 : v2.toInt = x1.toInt + 64 * x2.toInt := ti_add e2 rfl t1 (by omega) (by omega)
          have t3 : v3.toInt = 4096 * x5.toInt := ti_mul e3 (show (4096 : Int32).toInt = 4096 from rfl) rfl (by omega) (by omega)
          have t4 : v4.toInt = x1.toInt + 64 * x2.toInt + 4096 * x5.toInt := ti_add e4 t2 t3 (by omega) (by omega)
          have t8 : v8.toInt = x5.toInt + 1 := ti_add e8 rfl (show (1 : Int32).toInt = 1 from rfl) (by omega) (by omega)
          obtain ⟨a1, a2, a3, a4⟩ := kyb_e (p := x5.toInt.toNat) h1 h2 (by omega)
          have ep : ((x5.toInt.toNat : Nat) : Int) = x5.toInt := by omega
          have hL : LR m sd rt ps ko (kyb x1 x2 + x5.toInt.toNat) := (lr_k h1 h2 (by omega)).2 ⟨hgo, hsf, by rw [ep]; exact k1⟩
          have hmv : v4.toInt = mvk (kyb x1 x2 + x5.toInt.toNat) := by
            unfold mvk
            rw [a1, a2, a3, ep]; exact t4
          have hc : (I 33).toNatClampNeg = (I 33).toInt.toNat := rfl
          have g0 : 0 ≤ (I 33).toInt := by rw [hF.2.2.2.2.2.2.2.1]; omega
          have g2k : (I 33).toInt < 2048 := by
            apply Classical.byContradiction
            intro h
            exact hi (Or.inr (by omega))
          have hF2 := fm_add hF a4 hL ⟨g0, g2k⟩ hmv e5 e6 e7
          refine ih v8 I7 A5 (by omega) (fun h => by have := k3 h; omega) (fun h => by have := c1 h; omega) ?_ hf
          have e : kyb x1 x2 + v8.toInt.toNat = kyb x1 x2 + x5.toInt.toNat + 1 := by omega
          rw [e]
          exact hF2
      rcases m_ifE hf with ⟨d, hf⟩ | ⟨d, hf⟩
      · have d0 : x3.toInt = 0 := by rw [d]; rfl
        have nl : ¬ (m x1.toInt % 8 = 1 ∧ (x2.toInt < 8 ∨ 56 ≤ x2.toInt)) := fun g => by have := h3l.2 g; omega
        refine add (fun p p1 p8 pl g => ?_) (fun g => ?_) hf
        · rw [z0] at pl
          rcases g with ⟨g, -⟩ | ⟨-, -, g1, g2⟩
          · omega
          · exact nl ⟨g1, g2⟩
        · have e : x5.toInt = 0 := by omega
          exact ⟨Or.inl ⟨e, nl⟩, by omega, fun _ => e⟩
      · have d1 : x3.toInt = 1 := h3.resolve_left (fun h => d (Int32.toInt_inj.1 h))
        have ly := h3l.1 d1
        have c2 := c1 d1
        refine add (fun p p1 p8 pl g => ?_) (fun g => ?_) hf
        · rw [z5] at pl
          rcases g with ⟨-, g⟩ | ⟨g1, g2, -⟩
          · exact g ly
          · omega
        · exact ⟨Or.inr ⟨c2, by omega, ly.1, ly.2⟩, by omega, fun h => by omega⟩
/-- the position, for the reference's side -/
theorem rs_v {x1 x2 v2 : Int32} {o : Int32 × MS} {I : Nat → Int32} {A : Nat → Nat → Int32} {K : Nat} (hP : POS m sd rt ps kw kb) (hko : ko = if sd = 0 then kw else kb) (h1 : 0 ≤ x1.toInt ∧ x1.toInt < 64) (h2 : 0 ≤ x2.toInt ∧ x2.toInt < 64) (hgo : goR m sd rt ps x1.toInt x2.toInt) (hF : FMi m sd rt ps ko K I A) (e2 : v2.toInt = x1.toInt + 64 * x2.toInt) (hf : f_isSafe v2 I A = some o) : o.2 = (I, nA I A) ∧ (o.1.toInt = 0 ∨ o.1.toInt = 1) ∧ (o.1.toInt = 1 ↔ ¬ attd (mkR m sd x1.toInt x2.toInt 0) (kgB m sd ps x1.toInt x2.toInt 0 sd ko) (1 - sd)) := by
  obtain ⟨f1, f2, f3, f4, f5, f6, f7, -, -⟩ := hF
  have hs := hP.1
  have hr := ((go_rch hs).1 hgo).1
  have a1 : v2.toInt % 64 = x1.toInt := by omega
  have a2 : v2.toInt / 64 % 64 = x2.toInt := by omega
  have a3 : v2.toInt / 4096 = 0 := by omega
  have ek := mk_pl (p := 0) hs h1 h2 (by decide) hP.2.2.2.2.1 hr
  -- what a pawn becomes does not matter here: the man itself comes
  have hM2 : MBd (mkR m sd x1.toInt x2.toInt 0) := by rw [ek]; exact mbd_pl hP.2.1 hs (by decide)
  have hK : KU (mkR m sd x1.toInt x2.toInt 0) sd (kgB m sd ps x1.toInt x2.toInt 0 sd ko) := by
    rw [ek]
    exact ku_p0 hP h1 h2 hr hko
  have q := p_rSafe (k := kgB m sd ps x1.toInt x2.toInt 0 sd ko) (sd := sd) f1 f2 (by omega) (by rw [f3]; exact hP.2.1) f7 f4 hs (by rw [f3, a1, a2, a3]; exact hK) (by rw [f3, a1, a2, a3]; exact hM2) hf
  rw [f3, a1, a2, a3] at q
  exact q
theorem fm_76 {x1 x2 t0 : Int32} {o : Int32 × MS} {I : Nat → Int32} {A : Nat → Nat → Int32} {self7 : Int32 → (Nat → Int32) → (Nat → Nat → Int32) → Option (Int32 × MS)} {self15 : Int32 → Int32 → (Nat → Int32) → (Nat → Nat → Int32) → Option (Int32 × MS)} {G : Int32 × MS → Prop} (hP : POS m sd rt ps kw kb) (hko : ko = if sd = 0 then kw else kb) (h1 : 0 ≤ x1.toInt ∧ x1.toInt < 64) (h2 : 0 ≤ x2.toInt ∧ x2.toInt < 64) (h3 : t0.toInt = 0 ∨ t0.toInt = 1) (h3l : t0.toInt = 1 ↔ m x1.toInt % 8 = 1 ∧ (x2.toInt < 8 ∨ 56 ≤ x2.toInt)) (hgo : goR m sd rt ps x1.toInt x2.toInt) (H : ∀ (v : Int32) (I : Nat → Int32) (A : Nat → Nat → Int32), v.toInt = x2.toInt + 1 → FMi m sd rt ps ko (kyb x1 x2 + 8) I A → self15 x1 v I A = some o → G o) (hF : FMi m sd rt ps ko (kyb x1 x2) I A) (hf : f_findMoves_76 self7 self15 x1 x2 t0 I A = some o) : G o := by
  unfold f_findMoves_76 at hf
  obtain ⟨v1, e1, hf⟩ := m_bndE hf
  obtain ⟨v2, e2, hf⟩ := m_bndE hf
  have t1 : v1.toInt = 64 * x2.toInt := ti_mul e1 (show (64 : Int32).toInt = 64 from rfl) rfl (by omega) (by omega)
  have t2 : v2.toInt = x1.toInt + 64 * x2.toInt := ti_add e2 rfl t1 (by omega) (by omega)
  obtain ⟨o3, ho3, hf⟩ := m_clE hf
  obtain ⟨s3, r3, q3⟩ := rs_v hP hko h1 h2 hgo hF t2 ho3
  rw [s3] at hf
  have hF2 := fm_nA hF
  have z0 : (0 : Int32).toInt = 0 := rfl
  have z2 : (2 : Int32).toInt = 2 := rfl
  rcases m_ifE hf with ⟨c, hf⟩ | ⟨c, hf⟩
  · have c0 : t0.toInt = 0 := by rw [c]; rfl
    unfold f_findMoves_98 at hf
    exact fm_100 h1 h2 h3 h3l r3 hgo q3 H mFuel 0 _ _ (by omega) (fun _ => by omega) (fun h => by omega) hF2 hf
  · have c1 : t0.toInt = 1 := h3.resolve_left (fun h => c (Int32.toInt_inj.1 h))
    have ly := h3l.1 c1
    unfold f_findMoves_98 at hf
    refine fm_100 h1 h2 h3 h3l r3 hgo q3 H mFuel 2 _ _ (by omega) (fun h => by omega) (fun _ => by omega) ?_ hf
    refine fm_gap hF2 (by omega) (fun j j1 j2 hj => ?_)
    have e : j = kyb x1 x2 + (j - kyb x1 x2) := by omega
    have hj2 : j < kyb x1 x2 + 2 := j2
    rw [e] at hj
    have hq := ((lr_k h1 h2 (by omega)).1 hj).2.2
    rcases hq with ⟨-, g⟩ | ⟨g, -⟩
    · exact g ly
    · omega
theorem fm_15 {x1 : Int32} {o : Int32 × MS} {self7 : Int32 → (Nat → Int32) → (Nat → Nat → Int32) → Option (Int32 × MS)} {G : Int32 × MS → Prop} (hP : POS m sd rt ps kw kb) (hko : ko = if sd = 0 then kw else kb) (h1 : 0 ≤ x1.toInt ∧ x1.toInt < 64) (H7 : ∀ (v : Int32) (I : Nat → Int32) (A : Nat → Nat → Int32), v.toInt = x1.toInt + 1 → FMi m sd rt ps ko (v.toInt.toNat * 512) I A → self7 v I A = some o → G o) : ∀ (n : Nat) (x2 : Int32) (I : Nat → Int32) (A : Nat → Nat → Int32), (0 ≤ x2.toInt ∧ x2.toInt ≤ 64) → FMi m sd rt ps ko (kyb x1 x2) I A → f_findMoves_15 self7 n x1 x2 I A = some o → G o := by
  intro n
  have hs := hP.1
  induction n with
  | zero => intro x2 I A _ _ hf; cases hf
  | succ n ih =>
    intro x2 I A b2 hF hf
    have hf : f_findMoves_15s self7 (f_findMoves_15 self7 n) x1 x2 I A = some o := hf
    -- on to the next square from which one goes
    have nxt : ∀ {I : Nat → Int32} {A : Nat → Nat → Int32}, FMi m sd rt ps ko (kyb x1 x2) I A → (∀ j, kyb x1 x2 ≤ j → j < (x1.toInt.toNat + 1) * 512 → ¬ LR m sd rt ps ko j) → f_findMoves_163 self7 x1 I A = some o → G o := by
      intro I A hF hg hf
      unfold f_findMoves_163 at hf
      obtain ⟨v1, e1, hf⟩ := m_bndE hf
      have t1 : v1.toInt = x1.toInt + 1 := ti_add e1 rfl (show (1 : Int32).toInt = 1 from rfl) (by omega) (by omega)
      refine H7 v1 I A t1 ?_ hf
      have e : v1.toInt.toNat = x1.toInt.toNat + 1 := by omega
      rw [e]
      exact fm_gap hF (by unfold kyb; omega) hg
    unfold f_findMoves_15s at hf
    rcases m_ifE hf with ⟨c, hf⟩ | ⟨c, hf⟩
    · have c1 := ti_leP (a := (64 : Int32)) (b := x2) c (show (64 : Int32).toInt = 64 from rfl) rfl
      exact nxt hF (fun j j1 j2 => by unfold kyb at j1; omega) hf
    · have c1 := ti_leN (a := (64 : Int32)) (b := x2) c (show (64 : Int32).toInt = 64 from rfl) rfl
      have h2 : 0 ≤ x2.toInt ∧ x2.toInt < 64 := ⟨b2.1, c1⟩
      obtain ⟨-, hf⟩ := m_chkE hf
      obtain ⟨v1, e1, hf⟩ := m_bndE hf
      obtain ⟨f1, f2, f3, f4, f5, f6, f7, -, -⟩ := id hF
      have hv : v1.toInt = m x1.toInt := by
        rw [← f3]
        unfold mR
        rw [if_pos h1, e1]
        rfl
      have hMv := hP.2.1 x1.toInt
      obtain ⟨o2, ho2, hf⟩ := m_clE hf
      obtain ⟨s2, -, q2⟩ := ok_of (x_sideOf (x0 := v1) f1 f2 (by omega)) ho2
      rw [s2] at hf
      have H15 : ∀ (v : Int32) (I : Nat → Int32) (A : Nat → Nat → Int32), v.toInt = x2.toInt + 1 → FMi m sd rt ps ko (kyb x1 x2 + 8) I A → f_findMoves_15 self7 n x1 v I A = some o → G o := by
        intro v I A ev hF hf
        refine ih v I A (by omega) ?_ hf
        have e : kyb x1 v = kyb x1 x2 + 8 := by unfold kyb; omega
        rw [e]; exact hF
      rcases m_ifE hf with ⟨d, hf⟩ | ⟨d, hf⟩
      · obtain ⟨o3, ho3, hf⟩ := m_clE hf
        obtain ⟨s3, r3, q3⟩ := ok_of (x_goes (P := goR m sd rt ps x1.toInt x2.toInt) (x1 := x1) (x2 := x2) f1 f2 (by omega) (by omega) (by show goR m sd rt ps x1.toInt x2.toInt ↔ goR (mR A) (I 25).toInt (I 26).toInt (I 27).toInt x1.toInt x2.toInt; rw [f3, f4, f5, f6]) (by show MBd (mR A); rw [f3]; exact hP.2.1) (by show 0 ≤ (I 26).toInt ∧ (I 26).toInt ≤ 15; rw [f5]; exact hP.2.2.2.2.2.2.1)) ho3
        rw [s3] at hf
        rcases m_ifE hf with ⟨e, hf⟩ | ⟨e, hf⟩
        · refine fm_157 h1 h2 H15 (q := 0) (by omega) hF (fun p _ p8 hp => ?_) hf
          have := q3.2 ((lr_k h1 h2 p8).1 hp).1
          rw [e] at this
          exact absurd this (by decide)
        · have hgo := q3.1 (by have h9 : o3.1.toInt ≠ 0 := fun h => e (Int32.toInt_inj.1 h); omega)
          obtain ⟨-, hf⟩ := m_chkE hf
          obtain ⟨v4, e4, hf⟩ := m_bndE hf
          have hv4 : v4.toInt = m x1.toInt := by
            rw [← f3]
            unfold mR
            rw [if_pos h1, e4]
            rfl
          obtain ⟨o5, ho5, hf⟩ := m_clE hf
          obtain ⟨s5, -, q5⟩ := ok_of (x_kind (x0 := v4) f1 f2 (by omega)) ho5
          rw [s5] at hf
          rw [hv4] at q5
          have z1 : (1 : Int32).toInt = 1 := rfl
          have z0 : (0 : Int32).toInt = 0 := rfl
          have z8 : (8 : Int32).toInt = 8 := rfl
          have z55 : (55 : Int32).toInt = 55 := rfl
          have yes : m x1.toInt % 8 = 1 → (x2.toInt < 8 ∨ 56 ≤ x2.toInt) → f_findMoves_71 self7 (f_findMoves_15 self7 n) x1 x2 I A = some o → G o := by
            intro g1 g2 hf
            unfold f_findMoves_71 at hf
            exact fm_76 hP hko h1 h2 (Or.inr rfl) ⟨fun _ => ⟨g1, g2⟩, fun _ => rfl⟩ hgo H15 hF hf
          have no : ¬ (m x1.toInt % 8 = 1 ∧ (x2.toInt < 8 ∨ 56 ≤ x2.toInt)) → f_findMoves_75 self7 (f_findMoves_15 self7 n) x1 x2 I A = some o → G o := by
            intro g hf
            unfold f_findMoves_75 at hf
            exact fm_76 hP hko h1 h2 (Or.inl rfl) ⟨fun h => absurd h (by decide), fun h => absurd h g⟩ hgo H15 hF hf
          rcases m_ifE hf with ⟨k, hf⟩ | ⟨k, hf⟩
          · have k1 : m x1.toInt % 8 = 1 := by rw [← q5, k]; rfl
            rcases m_ifE hf with ⟨l, hf⟩ | ⟨l, hf⟩
            · have l1 := ti_ltP (a := x2) (b := (8 : Int32)) l rfl z8
              exact yes k1 (Or.inl l1) hf
            · have l1 := ti_ltN (a := x2) (b := (8 : Int32)) l rfl z8
              rcases m_ifE hf with ⟨r, hf⟩ | ⟨r, hf⟩
              · have r1 := ti_leP (a := x2) (b := (55 : Int32)) r rfl z55
                exact no (fun g => by omega) hf
              · have r1 := ti_leN (a := x2) (b := (55 : Int32)) r rfl z55
                exact yes k1 (Or.inr (by omega)) hf
          · have k1 : ¬ m x1.toInt % 8 = 1 := fun h => k (Int32.toInt_inj.1 (by rw [q5, h]; rfl))
            exact no (fun g => k1 g.1) hf
      · refine nxt hF (fun j j1 j2 hj => ?_) hf
        apply d
        have hm1 := hj.1.1
        have ej : ((j / 512 : Nat) : Int) = x1.toInt := by
          unfold kyb at j1
          omega
        rw [ej] at hm1
        apply Int32.toInt_inj.1
        show o2.1.toInt = (I 25).toInt
        rw [q2, f4, hv, if_neg hm1.1]
        exact hm1.2
theorem fm_7 {o : Int32 × MS} (hP : POS m sd rt ps kw kb) (hko : ko = if sd = 0 then kw else kb) : ∀ (n : Nat) (x1 : Int32) (I : Nat → Int32) (A : Nat → Nat → Int32), (0 ≤ x1.toInt ∧ x1.toInt ≤ 64) → FMi m sd rt ps ko (x1.toInt.toNat * 512) I A → f_findMoves_7 n x1 I A = some o → FMi m sd rt ps ko 32768 o.2.1 o.2.2 := by
  intro n
  induction n with
  | zero => intro x1 I A _ _ hf; cases hf
  | succ n ih =>
    intro x1 I A b1 hF hf
    have hf : f_findMoves_7s (f_findMoves_7 n) x1 I A = some o := hf
    unfold f_findMoves_7s at hf
    rcases m_ifE hf with ⟨c, hf⟩ | ⟨c, hf⟩
    · have c1 := ti_leP (a := (64 : Int32)) (b := x1) c (show (64 : Int32).toInt = 64 from rfl) rfl
      cases hf
      have e : x1.toInt.toNat * 512 = 32768 := by omega
      rw [e] at hF
      exact hF
    · have c1 := ti_leN (a := (64 : Int32)) (b := x1) c (show (64 : Int32).toInt = 64 from rfl) rfl
      refine fm_15 (G := fun o => FMi m sd rt ps ko 32768 o.2.1 o.2.2) hP hko ⟨b1.1, c1⟩ (fun v I A ev hF hf => ih v I A (by omega) hF hf) mFuel 0 I A (by decide) ?_ hf
      have e : kyb x1 0 = x1.toInt.toNat * 512 := by
        unfold kyb
        have z0 : (0 : Int32).toInt = 0 := rfl
        rw [z0]
        omega
      rw [e]; exact hF
/-- the reference's list of moves -/
theorem p_find {o : Int32 × MS} {I : Nat → Int32} {A : Nat → Nat → Int32} (hP : POS m sd rt ps kw kb) (hko : ko = if sd = 0 then kw else kb) (hI : TJ I) (hA : TK A) (hm : mR A = m) (h25 : (I 25).toInt = sd) (h26 : (I 26).toInt = rt) (h27 : (I 27).toInt = ps) (h29 : (I 29).toInt ≤ 1999) (hf : f_findMoves I A = some o) : FMi m sd rt ps ko 32768 o.2.1 o.2.2 := by
  have hf : f_findMoves_0 I A = some o := hf
  unfold f_findMoves_0 at hf
  obtain ⟨I1, e1, hf⟩ := m_bndE hf
  have oo : ∀ j, j ≠ 33 → I1 j = I j := fun j hj => by rw [e1]; exact upd_ne hj
  refine fm_7 hP hko mFuel 0 I1 A (by decide) ?_ hf
  refine ⟨by rw [e1]; exact tj_u hI (k := 33) (by decide) (by decide), hA, hm, by rw [oo 25 (by decide)]; exact h25, by rw [oo 26 (by decide)]; exact h26, by rw [oo 27 (by decide)]; exact h27, by rw [oo 29 (by decide)]; exact h29, ?_, fun key hk => absurd hk (Nat.not_lt_zero _)⟩
  rw [e1, upd_self]
  rfl
end FMS
