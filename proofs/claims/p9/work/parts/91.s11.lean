/-- how many numbers below n have P -/
noncomputable def cnt (P : Nat → Prop) : Nat → Nat
  | 0 => 0
  | n + 1 => cnt P n + @ite Nat (P n) (Classical.propDecidable _) 1 0
section CNT
variable {P Q : Nat → Prop} {n k N : Nat}
theorem cnt_y (h : P n) : cnt P (n + 1) = cnt P n + 1 := by
  show cnt P n + @ite Nat (P n) (Classical.propDecidable _) 1 0 = _
  rw [if_pos h]
theorem cnt_n (h : ¬ P n) : cnt P (n + 1) = cnt P n := by
  show cnt P n + @ite Nat (P n) (Classical.propDecidable _) 1 0 = _
  rw [if_neg h]
  rfl
theorem cnt_s : cnt P n ≤ cnt P (n + 1) := by
  by_cases h : P n
  · rw [cnt_y h]; omega
  · rw [cnt_n h]; exact Nat.le_refl _
theorem cnt_m (h : n ≤ N) : cnt P n ≤ cnt P N := by
  induction N with
  | zero =>
    have : n = 0 := by omega
    rw [this]; exact Nat.le_refl _
  | succ N ih =>
    by_cases e : n = N + 1
    · rw [e]; exact Nat.le_refl _
    · exact Nat.le_trans (ih (by omega)) cnt_s
theorem cnt_lt (hp : P n) (h : n < N) : cnt P n < cnt P N := by
  have h1 := cnt_m (P := P) (show n + 1 ≤ N from h)
  rw [cnt_y hp] at h1
  omega
theorem cnt_inj (hn : P n) (hk : P k) (e : cnt P n = cnt P k) : n = k := by
  rcases Nat.lt_trichotomy n k with h | h | h
  · have := cnt_lt hn h; omega
  · exact h
  · have := cnt_lt hk h; omega
theorem cnt_sur (h : k < cnt P N) : ∃ n, n < N ∧ P n ∧ cnt P n = k := by
  induction N with
  | zero => exact absurd h (Nat.not_lt_zero _)
  | succ N ih =>
    by_cases hp : P N
    · rw [cnt_y hp] at h
      by_cases e : k = cnt P N
      · exact ⟨N, Nat.lt_succ_self _, hp, e.symm⟩
      · obtain ⟨n, h1, h2, h3⟩ := ih (by omega)
        exact ⟨n, by omega, h2, h3⟩
    · rw [cnt_n hp] at h
      obtain ⟨n, h1, h2, h3⟩ := ih h
      exact ⟨n, by omega, h2, h3⟩
theorem cnt_c (h : ∀ j, j < N → (P j ↔ Q j)) : cnt P N = cnt Q N := by
  induction N with
  | zero => rfl
  | succ N ih =>
    have e := ih (fun j hj => h j (by omega))
    by_cases hp : P N
    · rw [cnt_y hp, cnt_y ((h N (by omega)).1 hp), e]
    · rw [cnt_n hp, cnt_n (fun g => hp ((h N (by omega)).2 g)), e]
theorem cnt_gap (hn : n ≤ N) (h : ∀ j, n ≤ j → j < N → ¬ P j) : cnt P N = cnt P n := by
  induction N with
  | zero =>
    have : n = 0 := by omega
    rw [this]
  | succ N ih =>
    by_cases e : n = N + 1
    · rw [e]
    · rw [cnt_n (h N (by omega) (by omega))]
      exact ih (by omega) (fun j j1 j2 => h j j1 (by omega))
theorem cnt_0 (h : ∀ j, j < N → ¬ P j) : cnt P N = 0 := cnt_gap (Nat.zero_le _) (fun j _ hj => h j hj)
/-- one, and which -/
theorem cnt_1 (e : cnt P N = 1) (hn : P n) (hk : P k) (h1 : n < N) (h2 : k < N) : n = k := by
  have a1 := cnt_lt hn h1
  have a2 := cnt_lt hk h2
  exact cnt_inj hn hk (by omega)
theorem cnt_pos (hp : P n) (h : n < N) : 0 < cnt P N := by
  have := cnt_lt hp h
  omega
/-- a row l that holds, one behind the other, what the numbers with P tell -/
def LST (l : Nat → Int) (P : Nat → Prop) (mv : Nat → Int) (K : Nat) : Prop := ∀ key, key < K → P key → l (cnt P key) = mv key
theorem lst_cnt {l : Nat → Int} {mv : Nat → Int} {F : Int → Prop} : ∀ K, LST l P mv K → cnt (fun k => F (l k)) (cnt P K) = cnt (fun key => P key ∧ F (mv key)) K
  | 0, _ => rfl
  | K + 1, h => by
    have ih := lst_cnt (F := F) K (fun key hk hp => h key (by omega) hp)
    by_cases hp : P K
    · rw [cnt_y hp]
      have e := h K (by omega) hp
      by_cases hf : F (mv K)
      · rw [cnt_y (show (fun k => F (l k)) (cnt P K) by show F (l (cnt P K)); rw [e]; exact hf), cnt_y (show (fun key => P key ∧ F (mv key)) K from ⟨hp, hf⟩), ih]
      · rw [cnt_n (show ¬ (fun k => F (l k)) (cnt P K) by show ¬ F (l (cnt P K)); rw [e]; exact hf), cnt_n (show ¬ (fun key => P key ∧ F (mv key)) K from fun g => hf g.2), ih]
    · rw [cnt_n hp, cnt_n (show ¬ (fun key => P key ∧ F (mv key)) K from fun g => hp g.1), ih]
end CNT
