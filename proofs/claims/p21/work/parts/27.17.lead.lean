theorem aK_ix {I : Nat → Int32} {A : Nat → Nat → Int32} {g : Nat} (hA : TK A) (h : (I 5).toInt = (g : Int)) : ((aK A g : Nat) : Int) = (A 7 ((I 5)).toNatClampNeg).toInt := by
  have e : ((I 5)).toNatClampNeg = g := by have := ti_nc (a := I 5) (by omega); omega
  have := tA_7 hA g
  rw [e]; unfold aK; omega
def ldA (A : Nat → Nat → Int32) (g u b H : Nat) (F h : Int32) : Nat → Nat → Int32 := va_up (va_up A 11 (upd (upd (A 11) (301 * g + b) (A 11 (301 * g + H))) (301 * g + H) F)) 10 (upd (A 10) (301 * g + u) h)
theorem t_lead_123 {I : Nat → Int32} {A : Nat → Nat → Int32} {g u H : Nat} (hg : g ≤ 1) (h5 : (I 5).toInt = (g : Int)) (h6 : (I 6).toInt = (H : Int)) (hu : u ≤ 300) (hH : H ≤ 300) : ∀ (l : List Nat) (b n : Nat) (x1 x2 x3 : Int32), x1.toInt = (u : Int) → x3.toInt = (b : Int) → b ≤ 300 → (∀ k ∈ l, k ≤ 300) → chn (aN A g) l (aN A g b) → H ∈ l → l.length < n → ∃ (l1 r : List Nat) (b' : Nat), b :: l = l1 ++ b' :: H :: r ∧ b' ≤ 300 ∧ f_lead_123 n x1 x2 x3 I A = some (1, (I, ldA A g u b' H x2 (I 6))) := by
  intro l
  induction l with
  | nil => intro b n x1 x2 x3 _ _ _ _ _ hm; cases hm
  | cons k l ih =>
    intro b n x1 x2 x3 h1 h3 hb hl hc hm hn
    cases n with
    | zero => exact absurd hn (Nat.not_lt_zero _)
    | succ n =>
      have hk := hl k List.mem_cons_self
      have hck : aN A g b = (k : Int) := hc.1
      by_cases e : k = H
      · subst e
        refine ⟨[], l, b, rfl, hb, ?_⟩
        have key : Ok (f_lead_123s (f_lead_123 n) x1 x2 x3 I A) (fun o => o = (1, (I, ldA A g u b k x2 (I 6)))) := by
          unfold f_lead_123s
          refine ok_bnd (fun v1 e1 => ?_)
          have t1 := ti_mul e1 (show (301 : Int32).toInt = 301 from rfl) h5 (by omega) (by omega)
          refine ok_bnd (fun v2 e2 => ?_)
          have t2 := ti_add e2 t1 h3 (by omega) (by omega)
          have i2 : v2.toNatClampNeg = 301 * g + b := by have := ti_nc (a := v2) (by omega); omega
          refine ok_chk (ti_in (by omega) (by omega)) ?_
          refine ok_bnd (fun v3 e3 => ?_)
          have w3 : v3.toInt = aN A g b := by rw [e3, i2]; rfl
          refine ok_ifT (Int32.toInt_inj.mp (by rw [w3, hck, h6])) ?_
          refine ok_bnd (fun v4 e4 => ?_)
          have t4 := ti_mul e4 (show (301 : Int32).toInt = 301 from rfl) h5 (by omega) (by omega)
          refine ok_bnd (fun v5 e5 => ?_)
          have t5 := ti_add e5 t4 h3 (by omega) (by omega)
          have i5 : v5.toNatClampNeg = 301 * g + b := by have := ti_nc (a := v5) (by omega); omega
          refine ok_bnd (fun v6 e6 => ?_)
          have t6 := ti_mul e6 (show (301 : Int32).toInt = 301 from rfl) h5 (by omega) (by omega)
          refine ok_bnd (fun v7 e7 => ?_)
          have t7 := ti_add e7 t6 h6 (by omega) (by omega)
          have i7 : v7.toNatClampNeg = 301 * g + k := by have := ti_nc (a := v7) (by omega); omega
          refine ok_chk (ti_in (by omega) (by omega)) ?_
          refine ok_bnd (fun v8 e8 => ?_)
          rw [i7] at e8
          refine ok_chk (ti_in (by omega) (by omega)) ?_
          refine ok_bnd (fun A9 e9 => ?_)
          rw [i5, e8] at e9
          refine ok_bnd (fun v10 e10 => ?_)
          have t10 := ti_mul e10 (show (301 : Int32).toInt = 301 from rfl) h5 (by omega) (by omega)
          refine ok_bnd (fun v11 e11 => ?_)
          have t11 := ti_add e11 t10 h6 (by omega) (by omega)
          have i11 : v11.toNatClampNeg = 301 * g + k := by have := ti_nc (a := v11) (by omega); omega
          refine ok_chk (ti_in (by omega) (by omega)) ?_
          refine ok_bnd (fun A12 e12 => ?_)
          rw [i11] at e12
          refine ok_bnd (fun v13 e13 => ?_)
          have t13 := ti_mul e13 (show (301 : Int32).toInt = 301 from rfl) h5 (by omega) (by omega)
          refine ok_bnd (fun v14 e14 => ?_)
          have t14 := ti_add e14 t13 h1 (by omega) (by omega)
          have i14 : v14.toNatClampNeg = 301 * g + u := by have := ti_nc (a := v14) (by omega); omega
          refine ok_chk (ti_in (by omega) (by omega)) ?_
          refine ok_bnd (fun A15 e15 => ?_)
          rw [i14] at e15
          refine ok_chk (by decide) (ok_ret ?_)
          rw [e15, e12, e9]
          unfold ldA
          congr 2
          funext j
          by_cases j10 : j = 10
          · subst j10; rfl
          · by_cases j11 : j = 11
            · subst j11; rfl
            · rw [va_up_ne _ _ j10, va_up_ne _ _ j11, va_up_ne _ _ j11, va_up_ne _ _ j10, va_up_ne _ _ j11]
        obtain ⟨o, h8, h9⟩ := key
        show f_lead_123s (f_lead_123 n) x1 x2 x3 I A = _
        rw [h8, h9]
      · have hm2 : H ∈ l := by
          rcases List.mem_cons.mp hm with h | h
          · exact absurd h.symm e
          · exact h
        have key : ∃ v : Int32, v.toInt = (k : Int) ∧ f_lead_123s (f_lead_123 n) x1 x2 x3 I A = f_lead_123 n x1 x2 v I A := by
          have key2 : Ok (f_lead_123s (f_lead_123 n) x1 x2 x3 I A) (fun o => ∃ v : Int32, v.toInt = (k : Int) ∧ f_lead_123 n x1 x2 v I A = some o) ∨ True := Or.inr trivial
          refine ⟨A 11 (301 * g + b), hck, ?_⟩
          unfold f_lead_123s
          have t1 := ti_mul (c := 301 * I 5) rfl (show (301 : Int32).toInt = 301 from rfl) h5 (by omega) (by omega)
          have t2 := ti_add (c := 301 * I 5 + x3) rfl t1 h3 (by omega) (by omega)
          have i2 : (301 * I 5 + x3 : Int32).toNatClampNeg = 301 * g + b := by have := ti_nc (a := 301 * I 5 + x3) (by omega); omega
          have hin : ¬ ((301 * I 5 + x3 : Int32) < 0 ∨ 602 ≤ (301 * I 5 + x3 : Int32).toNatClampNeg) := ti_in (by omega) (by omega)
          have hne : ¬ A 11 (301 * I 5 + x3 : Int32).toNatClampNeg = I 6 := fun h => by
            rw [i2] at h
            have h' := congrArg Int32.toInt h
            have h'' : (A 11 (301 * g + b)).toInt = (k : Int) := hck
            omega
          have e1 : ∀ {β : Type} {q : Option β}, m_chk (¬ ((301 * I 5 + x3 : Int32) < 0 ∨ 602 ≤ (301 * I 5 + x3 : Int32).toNatClampNeg)) q = q := fun {β} {q} => if_pos hin
          have e2 : ∀ {β : Type} {q r : Option β}, m_if (A 11 (301 * I 5 + x3 : Int32).toNatClampNeg = I 6) q r = r := fun {β} {q r} => if_neg hne
          rw [m_bnd, m_bnd, e1, m_bnd, e2, m_bnd, m_bnd, e1, m_bnd, i2]
        obtain ⟨v, hv, hrun⟩ := key
        obtain ⟨l1, r, b', h7, h8, h9⟩ := ih k n x1 x2 v h1 hv hk (fun j hj => hl j (List.mem_cons_of_mem _ hj)) hc.2 hm2 (by simp only [List.length_cons] at hn; omega)
        refine ⟨b :: l1, r, b', by rw [h7]; rfl, h8, ?_⟩
        show f_lead_123s (f_lead_123 n) x1 x2 x3 I A = _
        rw [hrun, h9]
