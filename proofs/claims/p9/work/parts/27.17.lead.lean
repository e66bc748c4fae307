theorem aK_ix {I : Nat → Int32} {A : Nat → Nat → Int32} {g : Nat} (hA : TK A) (h : (I 5).toInt = (g : Int)) : ((aK A g : Nat) : Int) = (A 7 ((I 5)).toNatClampNeg).toInt := by
  have e : ((I 5)).toNatClampNeg = g := by have := ti_nc (a := I 5) (by omega); omega
  have := tA_7 hA g
  rw [e]; unfold aK; omega
def ldA (A : Nat → Nat → Int32) (g u b H : Nat) (F h : Int32) : Nat → Nat → Int32 := va_up (va_up A 11 (upd (upd (A 11) (301 * g + b) (A 11 (301 * g + H))) (301 * g + H) F)) 10 (upd (A 10) (301 * g + u) h)
theorem t_lead_123 {I : Nat → Int32} {A : Nat → Nat → Int32} {g u H : Nat} (hg : g ≤ 1) (h5 : (I 5).toInt = (g : Int)) (h6 : (I 6).toInt = (H : Int)) (hu : u ≤ 300) (hH : H ≤ 300) : ∀ (l : List Nat) (b n : Nat) (x1 x2 x3 : Int32), x1.toInt = (u : Int) → x3.toInt = (b : Int) → b ≤ 300 → (∀ k ∈ l, k ≤ 300) → chn (aN A g) l (aN A g b) → H ∈ l → l.length < n → ∃ (l1 r : List Nat) (b' : Nat), b :: l = l1 ++ b' :: H :: r ∧ b' ≤ 300 ∧ f_lead_123 n x1 x2 x3 I A = some (1, (I, ldA A g u b' H x2 (I 6))) := by
  intro l
  induction l with
  | nil => intro b n x1 x2 x3 _ _ _ _ _ hm; cases hm
  | cons k l ih =>
    intro b n x1 x2 x3 h1 h3 hb hl hc hm hn
    cases n with
    | zero => exact absurd hn (Nat.not_lt_zero _)
    | succ n =>
      have hk := hl k List.mem_cons_self
      have hck : aN A g b = (k : Int) := hc.1
      by_cases e : k = H
      · subst e
        refine ⟨[], l, b, rfl, hb, ?_⟩
        have key : Ok (f_lead_123s (f_lead_123 n) x1 x2 x3 I A) (fun o => o = (1, (I, ldA A g u b k x2 (I 6)))) := by
          unfold f_lead_123s
          refine ok_bnd (fun v1 e1 => ?_)
          have t1 := ti_mul e1 (show (301 : Int32).toInt = 301 from rfl) h5 (by omega) (by omega)
          refine ok_bnd (fun v2 e2 => ?_)
          have t2 := ti_add e2 t1 h3 (by omega) (by omega)
          have i2 : v2.toNatClampNeg = 301 * g + b := by have := ti_nc (a := v2) (by omega); omega
          refine ok_chk (ti_in (by omega) (by omega)) ?_
          refine ok_bnd (fun v3 e3 => ?_)
          have w3 : v3.toInt = aN A g b := by rw [e3, i2]; rfl
          refine ok_ifT (Int32.toInt_inj.mp (by rw [w3, hck, h6])) ?_
          refine ok_bnd (fun v4 e4 => ?_)
          have t4 := ti_mul e4 (show (301 : Int32).toInt = 301 from rfl) h5 (by omega) (by omega)
          refine ok_bnd (fun v5 e5 => ?_)
          have t5 := ti_add e5 t4 h3 (by omega) (by omega)
          have i5 : v5.toNatClampNeg = 301 * g + b := by have := ti_nc (a := v5) (by omega); omega
          refine ok_bnd (fun v6 e6 => ?_)
          have t6 := ti_mul e6 (show (301 : Int32).toInt = 301 from rfl) h5 (by omega) (by omega)
          refine ok_bnd (fun v7 e7 => ?_)
          have t7 := ti_add e7 t6 h6 (by omega) (by omega)
          have i7 : v7.toNatClampNeg = 301 * g + k := by have := ti_nc (a := v7) (by omega); omega
          refine ok_chk (ti_in (by omega) (by omega)) ?_
          refine ok_bnd (fun v8 e8 => ?_)
          rw [i7] at e8
          refine ok_chk (ti_in (by omega) (by omega)) ?_
          refine ok_bnd (fun A9 e9 => ?_)
          rw [i5, e8] at e9
          refine ok_bnd (fun v10 e10 => ?_)
          have t10 := ti_mul e10 (show (301 : Int32).toInt = 301 from rfl) h5 (by omega) (by omega)
          refine ok_bnd (fun v11 e11 => ?_)
          have t11 := ti_add e11 t10 h6 (by omega) (by omega)
          have i11 : v11.toNatClampNeg = 301 * g + k := by have := ti_nc (a := v11) (by omega); omega
          refine ok_chk (ti_in (by omega) (by omega)) ?_
          refine ok_bnd (fun A12 e12 => ?_)
          rw [i11] at e12
          refine ok_bnd (fun v13 e13 => ?_)
          have t13 := ti_mul e13 (show (301 : Int32).toInt = 301 from rfl) h5 (by omega) (by omega)
          refine ok_bnd (fun v14 e14 => ?_)
          have t14 := ti_add e14 t13 h1 (by omega) (by omega)
          have i14 : v14.toNatClampNeg = 301 * g + u := by have := ti_nc (a := v14) (by omega); omega
          refine ok_chk (ti_in (by omega) (by omega)) ?_
          refine ok_bnd (fun A15 e15 => ?_)
          rw [i14] at e15
          refine ok_chk (by decide) (ok_ret ?_)
          rw [e15, e12, e9]
          unfold ldA
          congr 2
          funext j
          by_cases j10 : j = 10
          · subst j10; rfl
          · by_cases j11 : j = 11
            · subst j11; rfl
            · rw [va_up_ne _ _ j10, va_up_ne _ _ j11, va_up_ne _ _ j11, va_up_ne _ _ j10, va_up_ne _ _ j11]
        obtain ⟨o, h8, h9⟩ := key
        show f_lead_123s (f_lead_123 n) x1 x2 x3 I A = _
        rw [h8, h9]
      · have hm2 : H ∈ l := by
          rcases List.mem_cons.mp hm with h | h
          · exact absurd h.symm e
          · exact h
        have key : ∃ v : Int32, v.toInt = (k : Int) ∧ f_lead_123s (f_lead_123 n) x1 x2 x3 I A = f_lead_123 n x1 x2 v I A := by
          have key2 : Ok (f_lead_123s (f_lead_123 n) x1 x2 x3 I A) (fun o => ∃ v : Int32, v.toInt = (k : Int) ∧ f_lead_123 n x1 x2 v I A = some o) ∨ True := Or.inr trivial
          refine ⟨A 11 (301 * g + b), hck, ?_⟩
          unfold f_lead_123s
          have t1 := ti_mul (c := 301 * I 5) rfl (show (301 : Int32).toInt = 301 from rfl) h5 (by omega) (by omega)
          have t2 := ti_add (c := 301 * I 5 + x3) rfl t1 h3 (by omega) (by omega)
          have i2 : (301 * I 5 + x3 : Int32).toNatClampNeg = 301 * g + b := by have := ti_nc (a := 301 * I 5 + x3) (by omega); omega
          have hin : ¬ ((301 * I 5 + x3 : Int32) < 0 ∨ 602 ≤ (301 * I 5 + x3 : Int32).toNatClampNeg) := ti_in (by omega) (by omega)
          have hne : ¬ A 11 (301 * I 5 + x3 : Int32).toNatClampNeg = I 6 := fun h => by
            rw [i2] at h
            have h' := congrArg Int32.toInt h
            have h'' : (A 11 (301 * g + b)).toInt = (k : Int) := hck
            omega
          have e1 : ∀ {β : Type} {q : Option β}, m_chk (¬ ((301 * I 5 + x3 : Int32) < 0 ∨ 602 ≤ (301 * I 5 + x3 : Int32).toNatClampNeg)) q = q := fun {β} {q} => if_pos hin
          have e2 : ∀ {β : Type} {q r : Option β}, m_if (A 11 (301 * I 5 + x3 : Int32).toNatClampNeg = I 6) q r = r := fun {β} {q r} => if_neg hne
          rw [m_bnd, m_bnd, e1, m_bnd, e2, m_bnd, m_bnd, e1, m_bnd, i2]
        obtain ⟨v, hv, hrun⟩ := key
        obtain ⟨l1, r, b', h7, h8, h9⟩ := ih k n x1 x2 v h1 hv hk (fun j hj => hl j (List.mem_cons_of_mem _ hj)) hc.2 hm2 (by simp only [List.length_cons] at hn; omega)
        refine ⟨b :: l1, r, b', by rw [h7]; rfl, h8, ?_⟩
        show f_lead_123s (f_lead_123 n) x1 x2 x3 I A = _
        rw [hrun, h9]
def chk6 (A : Nat → Nat → Int32) (g F : Nat) (m : Int) : Prop := ∀ k : Nat, 1 ≤ k → (k : Int) < m → bh (aP A g) F k → ∀ D, TTd (aK A g) (aP A g) (aC A g) D → D k ≠ 6
theorem chk6_up {A : Nat → Nat → Int32} {g F : Nat} {m v : Int} (h : chk6 A g F m) (hv : v = m + 1) (hx : bh (aP A g) F m.toNat → ∀ D, TTd (aK A g) (aP A g) (aC A g) D → D m.toNat ≠ 6) : chk6 A g F v := by
  intro k h1 h2 h3 D hD
  by_cases e : (k : Int) = m
  · have e2 : m.toNat = k := by omega
    rw [e2] at hx
    exact hx h3 D hD
  · exact h k h1 (by omega) h3 D hD
theorem first_ge {A : Nat → Nat → Int32} {g H : Nat} (h : TRE A g) (h1 : 1 ≤ H) (h2 : H ≤ aK A g) : (1 ≤ aC A g (aP A g H).toNat ∧ aC A g (aP A g H).toNat ≤ (aK A g : Int)) ∧ (0 ≤ aP A g H ∧ aP A g H < (H : Int)) := by
  obtain ⟨hb, L, D, hl, hd⟩ := h
  have h3 := (hb H h1 h2).1
  obtain ⟨a, b, c⟩ := hl (aP A g H).toNat (by omega)
  have hm := (c H).mpr ⟨h1, h2, by omega⟩
  cases hL : L (aP A g H).toNat with
  | nil => rw [hL] at hm; cases hm
  | cons x l =>
    have hx := (c x).mp (by rw [hL]; exact List.mem_cons_self)
    rw [hL] at a
    have := a.1
    exact ⟨by omega, h3⟩
theorem lead_fin {gg : Nat} {I : Nat → Int32} {A : Nat → Nat → Int32} {x1 x2 : Int32} (hI : TJ I) (hA : TK A) (h5 : (I 5).toInt = (gg : Int)) (ht : TRE A gg) (h6 : 1 ≤ (I 6).toInt ∧ (I 6).toInt ≤ (aK A gg : Int)) (h29 : (I 29).toInt ≤ 1999) (hx1 : x1.toInt = aP A gg (I 6).toInt.toNat) (hx2 : x2.toInt = aC A gg x1.toInt.toNat) (hne : x2.toInt ≠ (I 6).toInt) {m : Int} (hchk : chk6 A gg x2.toInt.toNat m) (hm : (aK A gg : Int) < m) : Ok (f_lead_123 mFuel x1 x2 x2 I A) (fun o => TJ o.2.1 ∧ TK o.2.2 ∧ ((0 : Int) ≤ o.1.toInt ∧ o.1.toInt ≤ (1 : Int)) ∧ (RIv o.2.1 o.2.2)) := by
  have hb5 := tI_5 hI
  have hk := aK_le (g := gg) hA
  have hf := first_ge (H := (I 6).toInt.toNat) ht (by omega) (by omega)
  have htc := ht
  obtain ⟨hb, L, D, hl, hd⟩ := htc
  have hu : x1.toInt.toNat ≤ aK A gg := by omega
  obtain ⟨a, b, c⟩ := hl x1.toInt.toNat hu
  have hHm : (I 6).toInt.toNat ∈ L x1.toInt.toNat := (c _).mpr ⟨by omega, by omega, by omega⟩
  rw [← hx1] at hf
  cases hL : L x1.toInt.toNat with
  | nil => rw [hL] at hHm; cases hHm
  | cons F l =>
    rw [hL] at a hHm
    have hF : x2.toInt = (F : Int) := by rw [hx2]; exact a.1
    have hFm := (c F).mp (by rw [hL]; exact List.mem_cons_self)
    have hHl : (I 6).toInt.toNat ∈ l := by
      rcases List.mem_cons.mp hHm with h | h
      · omega
      · exact h
    have hlk : ∀ k ∈ l, 1 ≤ k ∧ k ≤ aK A gg := fun k hk' => by
      have := (c k).mp (by rw [hL]; exact List.mem_cons_of_mem _ hk')
      omega
    have hlen := chn_len hl hu
    rw [hL] at hlen
    simp only [List.length_cons] at hlen
    obtain ⟨l1, r, b', e1, e2, e3⟩ := t_lead_123 (I := I) (A := A) (g := gg) (u := x1.toInt.toNat) (H := (I 6).toInt.toNat) (by omega) h5 (by omega) (by omega) (by omega) l F mFuel x1 x2 x2 (by omega) hF (by omega) (fun k hk' => by have := hlk k hk'; omega) a.2 hHl (by show _ < 200000; omega)
    have hLu : L x1.toInt.toNat = l1 ++ b' :: (I 6).toInt.toNat :: r := by rw [hL]; exact e1
    have hbm := (c b').mp (by rw [hLu]; simp)
    have hbH : b' ≠ (I 6).toInt.toNat := by
      rw [hLu] at b
      have b2 := (List.nodup_append.mp b).2.1
      intro e
      exact (List.nodup_cons.mp b2).1 (by rw [e]; exact List.mem_cons_self)
    refine ⟨_, e3, hI, ?_, (show (0 : Int) ≤ (1 : Int32).toInt ∧ (1 : Int32).toInt ≤ (1 : Int) by decide), ?_⟩
    · unfold ldA
      have g11 : ∀ i, (tC 11 i).1 ≤ (upd (upd (A 11) (301 * gg + b') (A 11 (301 * gg + (I 6).toInt.toNat))) (301 * gg + (I 6).toInt.toNat) x2 i).toInt ∧ (upd (upd (A 11) (301 * gg + b') (A 11 (301 * gg + (I 6).toInt.toNat))) (301 * gg + (I 6).toInt.toNat) x2 i).toInt ≤ (tC 11 i).2 := fun i => by
        by_cases c1 : i = 301 * gg + (I 6).toInt.toNat
        · rw [c1, upd_self]; exact ⟨show (-1 : Int) ≤ x2.toInt by omega, show x2.toInt ≤ (300 : Int) by omega⟩
        · rw [upd_ne c1]
          by_cases c2 : i = 301 * gg + b'
          · rw [c2, upd_self]; exact hA 11 _
          · rw [upd_ne c2]; exact hA 11 i
      refine tk_x (tk_x hA g11) (fun i => ?_)
      have hb6 := tI_6 hI
      by_cases c1 : i = 301 * gg + x1.toInt.toNat
      · rw [c1, upd_self]; exact ⟨show (-1 : Int) ≤ (I 6).toInt by omega, show (I 6).toInt ≤ (300 : Int) by omega⟩
      · rw [upd_ne c1]; exact hA 10 i
    · have s7 : ldA A gg x1.toInt.toNat b' (I 6).toInt.toNat x2 (I 6) 7 = A 7 := rfl
      have s8 : ldA A gg x1.toInt.toNat b' (I 6).toInt.toNat x2 (I 6) 8 = A 8 := rfl
      have s9 : ldA A gg x1.toInt.toNat b' (I 6).toInt.toNat x2 (I 6) 9 = A 9 := rfl
      have s10 : ldA A gg x1.toInt.toNat b' (I 6).toInt.toNat x2 (I 6) 10 = upd (A 10) (301 * gg + x1.toInt.toNat) (I 6) := rfl
      have s11 : ldA A gg x1.toInt.toNat b' (I 6).toInt.toNat x2 (I 6) 11 = upd (upd (A 11) (301 * gg + b') (A 11 (301 * gg + (I 6).toInt.toNat))) (301 * gg + (I 6).toInt.toNat) x2 := rfl
      generalize ldA A gg x1.toInt.toNat b' (I 6).toInt.toNat x2 (I 6) = A' at s7 s8 s9 s10 s11
      have eK : aK A' gg = aK A gg := by unfold aK; rw [s7]
      have eP : aP A' gg = aP A gg := by funext j; unfold aP; rw [s8]
      have eM : aM A' gg = aM A gg := by funext j; unfold aM; rw [s9]
      have hTT : TRE A' gg := by
        unfold TRE
        rw [eK, eP, eM]
        refine TT_lead (n := aK A gg) (u := x1.toInt.toNat) (F := F) (H := (I 6).toInt.toNat) (b := b') hb hl hd hu hLu (by rw [← hx2]; exact hF) (fun k h1 h2 h3 => ?_) (fun j hj hne' => ?_) ?_ ?_ ?_ (fun j hj h1 h2 => ?_)
        · refine hchk k h1 (by omega) ?_ D hd
          have : x2.toInt.toNat = F := by omega
          rw [this]; exact h3
        · show (A' 10 (301 * gg + j)).toInt = _
          rw [s10, upd_ne (by omega)]; rfl
        · show (A' 10 (301 * gg + x1.toInt.toNat)).toInt = _
          rw [s10, upd_self]; omega
        · show (A' 11 (301 * gg + b')).toInt = (A 11 (301 * gg + (I 6).toInt.toNat)).toInt
          rw [s11, upd_ne (by omega), upd_self]
        · show (A' 11 (301 * gg + (I 6).toInt.toNat)).toInt = _
          rw [s11, upd_self]; exact hF
        · show (A' 11 (301 * gg + j)).toInt = (A 11 (301 * gg + j)).toInt
          rw [s11, upd_ne (by omega), upd_ne (by omega)]
      exact RIv_mk hTT h5 (by rw [eK]; exact h6.2) h29
