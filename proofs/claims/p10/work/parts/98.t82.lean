section RSU
variable {I : Nat → Int32} {A : Nat → Nat → Int32} {o : Int32 × MS} {x0 x1 x2 x3 : Int32} {w : List Int} {r : Int}
theorem i32_4 {x : Int32} (h : 0 ≤ x.toInt ∧ x.toInt ≤ 3) : x = 0 ∨ x = 1 ∨ x = 2 ∨ x = 3 := by
  have e : x.toInt = 0 ∨ x.toInt = 1 ∨ x.toInt = 2 ∨ x.toInt = 3 := by omega
  rcases e with e | e | e | e
  · exact Or.inl (i32_of e)
  · exact Or.inr (Or.inl (i32_of e))
  · exact Or.inr (Or.inr (Or.inl (i32_of e)))
  · exact Or.inr (Or.inr (Or.inr (i32_of e)))
theorem i32_7 {x : Int32} (h : 0 ≤ x.toInt ∧ x.toInt ≤ 6) : x = 0 ∨ x = 1 ∨ x = 2 ∨ x = 3 ∨ x = 4 ∨ x = 5 ∨ x = 6 := by
  by_cases h3 : x.toInt ≤ 3
  · have := i32_4 ⟨h.1, h3⟩
    rcases this with e | e | e | e
    · exact Or.inl e
    · exact Or.inr (Or.inl e)
    · exact Or.inr (Or.inr (Or.inl e))
    · exact Or.inr (Or.inr (Or.inr (Or.inl e)))
  · have e : x.toInt = 4 ∨ x.toInt = 5 ∨ x.toInt = 6 := by omega
    rcases e with e | e | e
    · exact Or.inr (Or.inr (Or.inr (Or.inr (Or.inl (i32_of e)))))
    · exact Or.inr (Or.inr (Or.inr (Or.inr (Or.inr (Or.inl (i32_of e))))))
    · exact Or.inr (Or.inr (Or.inr (Or.inr (Or.inr (Or.inr (i32_of e))))))
theorem v_resSize (h : 0 ≤ x0.toInt ∧ x0.toInt ≤ 3) (hf : f_resultSize x0 I A = some o) : o.1.toInt = rsN x0.toInt := by
  rw [rsN_v]
  rcases i32_4 h with e | e | e | e <;> subst e
  · have e2 : f_resultSize 0 I A = some (1, (I, A)) := rfl
    rw [e2] at hf; cases hf; rfl
  · have e2 : f_resultSize 1 I A = some (3, (I, A)) := rfl
    rw [e2] at hf; cases hf; rfl
  · have e2 : f_resultSize 2 I A = some (3, (I, A)) := rfl
    rw [e2] at hf; cases hf; rfl
  · have e2 : f_resultSize 3 I A = some (7, (I, A)) := rfl
    rw [e2] at hf; cases hf; rfl
theorem v_resSign (h : 0 ≤ x0.toInt ∧ x0.toInt ≤ 3) (h1 : 0 ≤ x1.toInt ∧ x1.toInt < rsN x0.toInt) (hf : f_resultSign x0 x1 I A = some o) : o.1.toInt = wA (strL (rsS x0.toInt)) x1.toInt := by
  rw [rsN_v] at h1
  rcases i32_4 h with e | e | e | e <;> subst e
  · have l : x1.toInt < 1 := h1.2
    have e1 : x1 = 0 := i32_of (show x1.toInt = 0 by omega)
    subst e1
    have e2 : f_resultSign 0 0 I A = some (42, (I, A)) := rfl
    rw [e2] at hf; cases hf; exact (by decide : (42 : Int32).toInt = wA (strL (rsS (0 : Int32).toInt)) (0 : Int32).toInt)
  · have l : x1.toInt < 3 := h1.2
    rcases i32_4 (x := x1) (by omega) with e | e | e | e <;> subst e
    · have e2 : f_resultSign 1 0 I A = some (49, (I, A)) := rfl
      rw [e2] at hf; cases hf; exact (by decide : (49 : Int32).toInt = wA (strL (rsS (1 : Int32).toInt)) (0 : Int32).toInt)
    · have e2 : f_resultSign 1 1 I A = some (45, (I, A)) := rfl
      rw [e2] at hf; cases hf; exact (by decide : (45 : Int32).toInt = wA (strL (rsS (1 : Int32).toInt)) (1 : Int32).toInt)
    · have e2 : f_resultSign 1 2 I A = some (48, (I, A)) := rfl
      rw [e2] at hf; cases hf; exact (by decide : (48 : Int32).toInt = wA (strL (rsS (1 : Int32).toInt)) (2 : Int32).toInt)
    · exact absurd l (by decide)
  · have l : x1.toInt < 3 := h1.2
    rcases i32_4 (x := x1) (by omega) with e | e | e | e <;> subst e
    · have e2 : f_resultSign 2 0 I A = some (48, (I, A)) := rfl
      rw [e2] at hf; cases hf; exact (by decide : (48 : Int32).toInt = wA (strL (rsS (2 : Int32).toInt)) (0 : Int32).toInt)
    · have e2 : f_resultSign 2 1 I A = some (45, (I, A)) := rfl
      rw [e2] at hf; cases hf; exact (by decide : (45 : Int32).toInt = wA (strL (rsS (2 : Int32).toInt)) (1 : Int32).toInt)
    · have e2 : f_resultSign 2 2 I A = some (49, (I, A)) := rfl
      rw [e2] at hf; cases hf; exact (by decide : (49 : Int32).toInt = wA (strL (rsS (2 : Int32).toInt)) (2 : Int32).toInt)
    · exact absurd l (by decide)
  · have l : x1.toInt < 7 := h1.2
    rcases i32_7 (x := x1) (by omega) with e | e | e | e | e | e | e <;> subst e
    · have e2 : f_resultSign 3 0 I A = some (49, (I, A)) := rfl
      rw [e2] at hf; cases hf; exact (by decide : (49 : Int32).toInt = wA (strL (rsS (3 : Int32).toInt)) (0 : Int32).toInt)
    · have e2 : f_resultSign 3 1 I A = some (47, (I, A)) := rfl
      rw [e2] at hf; cases hf; exact (by decide : (47 : Int32).toInt = wA (strL (rsS (3 : Int32).toInt)) (1 : Int32).toInt)
    · have e2 : f_resultSign 3 2 I A = some (50, (I, A)) := rfl
      rw [e2] at hf; cases hf; exact (by decide : (50 : Int32).toInt = wA (strL (rsS (3 : Int32).toInt)) (2 : Int32).toInt)
    · have e2 : f_resultSign 3 3 I A = some (45, (I, A)) := rfl
      rw [e2] at hf; cases hf; exact (by decide : (45 : Int32).toInt = wA (strL (rsS (3 : Int32).toInt)) (3 : Int32).toInt)
    · have e2 : f_resultSign 3 4 I A = some (49, (I, A)) := rfl
      rw [e2] at hf; cases hf; exact (by decide : (49 : Int32).toInt = wA (strL (rsS (3 : Int32).toInt)) (4 : Int32).toInt)
    · have e2 : f_resultSign 3 5 I A = some (47, (I, A)) := rfl
      rw [e2] at hf; cases hf; exact (by decide : (47 : Int32).toInt = wA (strL (rsS (3 : Int32).toInt)) (5 : Int32).toInt)
    · have e2 : f_resultSign 3 6 I A = some (50, (I, A)) := rfl
      rw [e2] at hf; cases hf; exact (by decide : (50 : Int32).toInt = wA (strL (rsS (3 : Int32).toInt)) (6 : Int32).toInt)
theorem iv_28 {g k : Int} (hv : VLr A g k w) (hg : g = 0 ∨ g = 1) (hk : 0 ≤ k ∧ k ≤ 7) (h1 : x1.toInt = g) (h2 : x2.toInt = k) (h3 : 0 ≤ x3.toInt ∧ x3.toInt ≤ 3) : ∀ (n : Nat) (x4 x5 : Int32), (x4.toInt = 0 ∨ x4.toInt = 1) → (x4.toInt = 1 ↔ (w.length : Int) = rsN x3.toInt ∧ ∀ i : Int, 0 ≤ i → i < x5.toInt → wA w i = wA (strL (rsS x3.toInt)) i) → 0 ≤ x5.toInt → x5.toInt ≤ rsN x3.toInt → f_isResultValue_28 n x1 x2 x3 x4 x5 I A = some o → (o.1.toInt = 0 ∨ o.1.toInt = 1) ∧ (o.1.toInt = 1 ↔ w = strL (rsS x3.toInt)) := by
  intro n
  induction n with
  | zero => intro x4 x5 _ _ _ _ hf; cases hf
  | succ n ih =>
    intro x4 x5 h4 hq h50 h51 hf
    have hf : f_isResultValue_28s (f_isResultValue_28 n) x1 x2 x3 x4 x5 I A = some o := hf
    have nb := rsN_b x3.toInt
    unfold f_isResultValue_28s at hf
    obtain ⟨r1, h_r1, hf⟩ := m_clR hf (fun _ h => rro_resultSize h)
    have q1 := v_resSize h3 h_r1
    dsimp only at q1
    rcases m_ifE hf with ⟨c1, hf⟩ | ⟨c1, hf⟩
    · replace c1 := ti_leP (a := r1) (b := x5) c1 rfl rfl
      unfold f_isResultValue_82 at hf
      obtain ⟨-, hf⟩ := m_chkE hf
      cases hf
      refine ⟨h4, ⟨fun e => ?_, fun e => hq.2 ⟨by rw [e]; rfl, fun i _ _ => by rw [e]⟩⟩⟩
      obtain ⟨b1, b2⟩ := hq.1 e
      have ll : w.length = (strL (rsS x3.toInt)).length := by
        have : (w.length : Int) = ((strL (rsS x3.toInt)).length : Int) := b1
        omega
      exact wA_ext ll (fun i i0 i1 => b2 i i0 (by
        have : ((strL (rsS x3.toInt)).length : Int) = rsN x3.toInt := rfl
        omega))
    · replace c1 := ti_leN (a := r1) (b := x5) c1 rfl rfl
      rcases m_ifE hf with ⟨c2, hf⟩ | ⟨c2, hf⟩
      · replace c2 := ti_eqP (a := x4) (b := (0 : Int32)) c2 rfl (show (0 : Int32).toInt = 0 from rfl)
        unfold f_isResultValue_82 at hf
        obtain ⟨-, hf⟩ := m_chkE hf
        cases hf
        refine ⟨h4, ⟨fun e => absurd (show x4.toInt = 1 from e) (by omega), fun e => ?_⟩⟩
        exact hq.2 ⟨by rw [e]; rfl, fun i _ _ => by rw [e]⟩
      · replace c2 := ti_eqN (a := x4) (b := (0 : Int32)) c2 rfl (show (0 : Int32).toInt = 0 from rfl)
        obtain ⟨wl, wc⟩ := hq.1 (by omega)
        obtain ⟨v2, e_v2, hf⟩ := m_bndE hf
        have t2 : v2.toInt = 768 * x1.toInt := ti_mul e_v2 (show (768 : Int32).toInt = 768 from rfl) rfl (by omega) (by omega)
        obtain ⟨v3, e_v3, hf⟩ := m_bndE hf
        have t3 : v3.toInt = 96 * x2.toInt := ti_mul e_v3 (show (96 : Int32).toInt = 96 from rfl) rfl (by omega) (by omega)
        obtain ⟨v4, e_v4, hf⟩ := m_bndE hf
        have t4 : v4.toInt = v2.toInt + v3.toInt := ti_add e_v4 rfl rfl (by omega) (by omega)
        obtain ⟨v5, e_v5, hf⟩ := m_bndE hf
        have t5 : v5.toInt = v4.toInt + x5.toInt := ti_add e_v5 rfl rfl (by omega) (by omega)
        obtain ⟨-, hf⟩ := m_chkE hf
        obtain ⟨v6, e_v6, hf⟩ := m_bndE hf
        have t6 : v6.toInt = wA w x5.toInt := by
          rw [e_v6, cl_n (n := (768 * g + 96 * k + x5.toInt).toNat) (by omega)]
          exact hv.2.2 x5.toInt h50 (by omega)
        obtain ⟨r7, h_r7, hf⟩ := m_clR hf (fun _ h => rro_resultSign h)
        have q7 := v_resSign h3 ⟨h50, by omega⟩ h_r7
        dsimp only at q7
        have go : ∀ (y : Int32), (y.toInt = 0 ∨ y.toInt = 1) → (y.toInt = 1 ↔ v6.toInt = r7.toInt) → f_isResultValue_74 (f_isResultValue_28 n) x1 x2 x3 x5 y I A = some o → (o.1.toInt = 0 ∨ o.1.toInt = 1) ∧ (o.1.toInt = 1 ↔ w = strL (rsS x3.toInt)) := fun y hy hyq hf => by
          unfold f_isResultValue_74 at hf
          obtain ⟨v8, e8, hf⟩ := m_bndE hf
          have t8 : v8.toInt = x5.toInt + 1 := ti_add e8 rfl (show (1 : Int32).toInt = 1 from rfl) (by omega) (by omega)
          refine ih y v8 hy ⟨fun e => ⟨wl, fun i i0 i1 => ?_⟩, fun e => hyq.2 ?_⟩ (by omega) (by omega) hf
          · by_cases ei : i = x5.toInt
            · rw [ei, ← t6, ← q7]; exact hyq.1 e
            · exact wc i i0 (by omega)
          · rw [t6, q7]; exact e.2 x5.toInt h50 (by omega)
        rcases m_ifE hf with ⟨c3, hf⟩ | ⟨c3, hf⟩
        · replace c3 := ti_eqP (a := v6) (b := r7) c3 rfl rfl
          exact go 1 (Or.inr rfl) ⟨fun _ => c3, fun _ => rfl⟩ hf
        · replace c3 := ti_eqN (a := v6) (b := r7) c3 rfl rfl
          exact go 0 (Or.inl rfl) ⟨fun e => absurd e (by decide), fun e => absurd e c3⟩ hf
theorem v_isResultValue {g k : Int} (hv : VLr A g k w) (hg : g = 0 ∨ g = 1) (hk : 0 ≤ k ∧ k ≤ 7) (h1 : x1.toInt = g) (h2 : x2.toInt = k) (h3 : 0 ≤ x3.toInt ∧ x3.toInt ≤ 3) (hf : f_isResultValue x1 x2 x3 I A = some o) : (o.1.toInt = 0 ∨ o.1.toInt = 1) ∧ (o.1.toInt = 1 ↔ w = strL (rsS x3.toInt)) := by
  have hf : f_isResultValue_0 x1 x2 x3 I A = some o := hf
  unfold f_isResultValue_0 at hf
  have nb := rsN_b x3.toInt
  have z0 : (0 : Int32).toInt = 0 := rfl
  obtain ⟨v1, e_v1, hf⟩ := m_bndE hf
  have t1 : v1.toInt = 8 * x1.toInt := ti_mul e_v1 (show (8 : Int32).toInt = 8 from rfl) rfl (by omega) (by omega)
  obtain ⟨v2, e_v2, hf⟩ := m_bndE hf
  have t2 : v2.toInt = v1.toInt + x2.toInt := ti_add e_v2 rfl rfl (by omega) (by omega)
  obtain ⟨-, hf⟩ := m_chkE hf
  obtain ⟨v3, e_v3, hf⟩ := m_bndE hf
  have t3 : v3.toInt = (w.length : Int) := by
    rw [e_v3, cl_n (n := (8 * g + k).toNat) (by omega)]
    exact hv.1
  obtain ⟨r4, h_r4, hf⟩ := m_clR hf (fun _ h => rro_resultSize h)
  have q4 := v_resSize h3 h_r4
  dsimp only at q4
  rcases m_ifE hf with ⟨c1, hf⟩ | ⟨c1, hf⟩
  · replace c1 := ti_eqP (a := v3) (b := r4) c1 rfl rfl
    exact iv_28 hv hg hk h1 h2 h3 mFuel 1 0 (Or.inr rfl) ⟨fun _ => ⟨by omega, fun i i0 i1 => by omega⟩, fun _ => rfl⟩ (by decide) (by omega) hf
  · replace c1 := ti_eqN (a := v3) (b := r4) c1 rfl rfl
    exact iv_28 hv hg hk h1 h2 h3 mFuel 0 0 (Or.inl rfl) ⟨fun e => absurd e (by decide), fun e => absurd e.1 (by omega)⟩ (by decide) (by omega) hf
end RSU
