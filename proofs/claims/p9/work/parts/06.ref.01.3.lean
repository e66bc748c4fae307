theorem fr_bringBack_2s {o : Int32 × MS} {self2 : Int32 → (Nat → Int32) → (Nat → Nat → Int32) → Option (Int32 × MS)} {x1 : Int32} {I : Nat → Int32} {A : Nat → Nat → Int32} (hself2 : ∀ (z0 : Int32) (I : Nat → Int32) (A : Nat → Nat → Int32), self2 z0 I A = some o → FrS [25, 26, 27, 28, 29] [24] I A o.2.1 o.2.2) (hf : f_bringBack_2s self2 x1 I A = some o) : FrS [25, 26, 27, 28, 29] [24] I A o.2.1 o.2.2 := by
  have hR : FrS [25, 26, 27, 28, 29] [24] I A I A := frs_0
  unfold f_bringBack_2s at hf
  rcases m_ifE hf with ⟨-, hf⟩ | ⟨-, hf⟩
  ·
    obtain ⟨-, hf⟩ := m_chkE hf
    obtain ⟨v1, ev, hf⟩ := m_bndE hf
    clear ev
    obtain ⟨I2, ev, hf⟩ := m_bndE hf
    replace hR := frs_I hR (by decide) ev
    clear ev
    obtain ⟨-, hf⟩ := m_chkE hf
    obtain ⟨v3, ev, hf⟩ := m_bndE hf
    clear ev
    obtain ⟨I4, ev, hf⟩ := m_bndE hf
    replace hR := frs_I hR (by decide) ev
    clear ev
    obtain ⟨-, hf⟩ := m_chkE hf
    obtain ⟨v5, ev, hf⟩ := m_bndE hf
    clear ev
    obtain ⟨I6, ev, hf⟩ := m_bndE hf
    replace hR := frs_I hR (by decide) ev
    clear ev
    obtain ⟨-, hf⟩ := m_chkE hf
    obtain ⟨v7, ev, hf⟩ := m_bndE hf
    clear ev
    obtain ⟨I8, ev, hf⟩ := m_bndE hf
    replace hR := frs_I hR (by decide) ev
    clear ev
    obtain ⟨-, hf⟩ := m_chkE hf
    obtain ⟨v9, ev, hf⟩ := m_bndE hf
    clear ev
    obtain ⟨I10, ev, hf⟩ := m_bndE hf
    replace hR := frs_I hR (by decide) ev
    clear ev
    cases hf
    exact hR
  ·
    obtain ⟨-, hf⟩ := m_chkE hf
    obtain ⟨v11, ev, hf⟩ := m_bndE hf
    clear ev
    obtain ⟨-, hf⟩ := m_chkE hf
    obtain ⟨A12, ev, hf⟩ := m_bndE hf
    replace hR := frs_A hR (by decide) ev
    clear ev
    obtain ⟨v13, ev, hf⟩ := m_bndE hf
    clear ev
    exact frs_t hR (hself2 _ _ _ hf) (fun _ h => h) (fun _ h => h)
theorem fr_bringBack_2 {o : Int32 × MS}   (n : Nat) : ∀ (y0 : Int32) (I : Nat → Int32) (A : Nat → Nat → Int32), f_bringBack_2  n y0 I A = some o → FrS [25, 26, 27, 28, 29] [24] I A o.2.1 o.2.2 := by
  induction n with
  | zero => intro y0 I A hf; cases hf
  | succ n ih => intro y0 I A hf; exact fr_bringBack_2s  ih hf
theorem fr_bringBack_0 {o : Int32 × MS} {I : Nat → Int32} {A : Nat → Nat → Int32}  (hf : f_bringBack_0 I A = some o) : FrS [25, 26, 27, 28, 29] [24] I A o.2.1 o.2.2 := by
  have hR : FrS [25, 26, 27, 28, 29] [24] I A I A := frs_0
  unfold f_bringBack_0 at hf
  exact frs_t hR (fr_bringBack_2  _ _ _ _ hf) (fun _ h => h) (fun _ h => h)
theorem back_l {o : Int32 × MS} (n : Nat) : ∀ (j : Nat) (I : Nat → Int32) (A : Nat → Nat → Int32), j ≤ 64 → f_bringBack_2 n (nI j) I A = some o → (∀ i, i < j → A 24 i = A 30 i) → (∀ i, i < 64 → o.2.2 24 i = A 30 i) ∧ o.2.1 25 = A 31 0 ∧ o.2.1 26 = A 31 1 ∧ o.2.1 27 = A 31 2 ∧ o.2.1 28 = A 31 3 ∧ o.2.1 29 = A 31 4 := by
  induction n with
  | zero => intro j I A _ hf; cases hf
  | succ n ih =>
    intro j I A hj hf hinv
    replace hf : f_bringBack_2s (f_bringBack_2 n) (nI j) I A = some o := hf
    unfold f_bringBack_2s at hf
    rcases m_ifE hf with ⟨hc, hf⟩ | ⟨hc, hf⟩
    · have hj4 : j = 64 := Classical.byContradiction (fun h => nI_ge (a := j) (b := 64) (by omega) (by decide) hc)
      obtain ⟨-, hf⟩ := m_chkE hf
      obtain ⟨v1, e1, hf⟩ := m_bndE hf
      obtain ⟨I2, e2, hf⟩ := m_bndE hf
      obtain ⟨-, hf⟩ := m_chkE hf
      obtain ⟨v3, e3, hf⟩ := m_bndE hf
      obtain ⟨I4, e4, hf⟩ := m_bndE hf
      obtain ⟨-, hf⟩ := m_chkE hf
      obtain ⟨v5, e5, hf⟩ := m_bndE hf
      obtain ⟨I6, e6, hf⟩ := m_bndE hf
      obtain ⟨-, hf⟩ := m_chkE hf
      obtain ⟨v7, e7, hf⟩ := m_bndE hf
      obtain ⟨I8, e8, hf⟩ := m_bndE hf
      obtain ⟨-, hf⟩ := m_chkE hf
      obtain ⟨v9, e9, hf⟩ := m_bndE hf
      obtain ⟨I10, e10, hf⟩ := m_bndE hf
      cases hf
      subst e1 e2 e3 e4 e5 e6 e7 e8 e9 e10
      exact ⟨fun i hi => hinv i (by omega), rfl, rfl, rfl, rfl, rfl⟩
    · have hj4 : j < 64 := Classical.byContradiction (fun h => hc (nI_le (a := 64) (b := j) (by omega) (by omega)))
      obtain ⟨-, hf⟩ := m_chkE hf
      obtain ⟨v6, e6, hf⟩ := m_bndE hf
      obtain ⟨-, hf⟩ := m_chkE hf
      obtain ⟨A7, e7, hf⟩ := m_bndE hf
      obtain ⟨v8, e8, hf⟩ := m_bndE hf
      rw [nI_clamp (by omega : j < 2 ^ 31)] at e6 e7
      rw [e8, ← nI_succ] at hf
      have h30 : A7 30 = A 30 := by rw [e7]; exact va_up_ne _ _ (by decide)
      have h31 : A7 31 = A 31 := by rw [e7]; exact va_up_ne _ _ (by decide)
      have h24 : A7 24 = upd (A 24) j v6 := by rw [e7]; exact va_up_self _ _ _
      have h1 := ih (j + 1) I A7 (by omega) hf (fun i hi => by
        rw [h24, h30]
        by_cases hij : i = j
        · rw [hij, upd_self, e6]
        · rw [upd_ne hij]; exact hinv i (by omega))
      rw [h30, h31] at h1
      exact h1
theorem bringBack_t (n : Nat) : ∀ (j : Nat) (I : Nat → Int32) (A : Nat → Nat → Int32), j ≤ 64 → 64 < j + n → ∃ o : Int32 × MS, f_bringBack_2 n (nI j) I A = some o := by
  induction n with
  | zero => intro j I A h1 h2; omega
  | succ n ih =>
    intro j I A hj hn
    show ∃ o : Int32 × MS, f_bringBack_2s (f_bringBack_2 n) (nI j) I A = some o
    unfold f_bringBack_2s
    by_cases hc : (64 : Int32) ≤ nI j
    · rw [m_ifP hc, m_chkP (by decide), m_bnd, m_bnd, m_chkP (by decide), m_bnd, m_bnd, m_chkP (by decide), m_bnd, m_bnd, m_chkP (by decide), m_bnd, m_bnd, m_chkP (by decide), m_bnd, m_bnd]
      exact ⟨_, rfl⟩
    · have hj4 : j < 64 := Classical.byContradiction (fun h => hc (nI_le (a := 64) (b := j) (by omega) (by omega)))
      have hin : ¬ (nI j < 0 ∨ 64 ≤ (nI j).toNatClampNeg) := nI_in hj4 (by decide)
      rw [m_ifN hc, m_chkP hin, m_bnd, m_chkP hin, m_bnd, m_bnd, ← nI_succ]
      exact ih (j + 1) I _ (by omega) (by omega)
def nB (I : Nat → Int32) (A : Nat → Nat → Int32) : Nat → Int32 := upd (upd (upd (upd (upd I 25 (A 31 0)) 26 (A 31 1)) 27 (A 31 2)) 28 (A 31 3)) 29 (A 31 4)
theorem nB_o {I : Nat → Int32} {A : Nat → Nat → Int32} {k : Nat} (h : k ∉ [25, 26, 27, 28, 29]) : nB I A k = I k := by
  have h1 : k ≠ 25 ∧ k ≠ 26 ∧ k ≠ 27 ∧ k ≠ 28 ∧ k ≠ 29 := by simpa using h
  unfold nB
  rw [upd_ne h1.2.2.2.2, upd_ne h1.2.2.2.1, upd_ne h1.2.2.1, upd_ne h1.2.1, upd_ne h1.1]
/-- bringBack's answer -/
def f_bringBack (I : Nat → Int32) (A : Nat → Nat → Int32) : Option (Int32 × MS) := some (0, (nB I A, va_up A 24 (A 30)))
theorem c_bringBack {l : Launch} {D : va_G} {cy ci : ClassId} {h : Nat → Nat} {I : Nat → Int32} {A : Nat → Nat → Int32} {o : Int32 × MS} (hf : f_bringBack  I A = some o) : mMv l yX12_bringBack wsX12_bringBack ({ frames := 0, cells := 0, slots := 0, locals := 0 } : Room) [.ref (h 0)] D cy ci h I A o := by
  obtain ⟨o0, h0⟩ := bringBack_t mFuel 0 I A (by decide) (by decide)
  cases hf
  have a := fr_bringBack_0 h0
  have b := back_l mFuel 0 I A (by decide) h0 (fun i hi => absurd hi (Nat.not_lt_zero _))
  refine mMv_ren (c0_bringBack h0) (fun k _ => ?_) (fun q hq i hi => ?_)
  · show nB I A k = o0.2.1 k
    by_cases hk : k ∈ [25, 26, 27, 28, 29]
    · rcases List.mem_cons.mp hk with rfl | hk
      · exact b.2.1.symm
      rcases List.mem_cons.mp hk with rfl | hk
      · exact b.2.2.1.symm
      rcases List.mem_cons.mp hk with rfl | hk
      · exact b.2.2.2.1.symm
      rcases List.mem_cons.mp hk with rfl | hk
      · exact b.2.2.2.2.1.symm
      rcases List.mem_cons.mp hk with rfl | hk
      · exact b.2.2.2.2.2.symm
      · cases hk
    · rw [nB_o hk, a.1 k hk]
  · show va_up A 24 (A 30) q.1 i = o0.2.2 q.1 i
    by_cases h24 : q.1 = 24
    · have hi5 : i < 64 := by rw [sz_24 q hq h24] at hi; exact hi
      rw [h24, va_up_self]
      exact (b.1 i hi5).symm
    · rw [va_up_ne _ _ h24, a.2 q.1 (by simp [h24])]
