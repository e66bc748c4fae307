def m_cal2 {α β : Type} (o : Option (α × ZS)) (k : α → ZS → Option β) : Option β := match o with
  | none => none
  | some z => k z.1 z.2
def Tw {α : Type} (Pw : α → ZS → Prop) (d : Option (α × ZS)) (n m : Nat) (g : Nat → Nat → Prop) : Prop :=
  ∀ o, d = some o → (n ≤ zt o.2 ∧ m ≤ zu o.2) ∧ ∀ C T, zt o.2 ≤ n + C → zu o.2 ≤ m + T → Pw o.1 o.2 → g C T
section TWS
variable {α : Type} {Pw : α → ZS → Prop} {n m : Nat}
theorem tw_at {S : ZS} {d : Option (α × ZS)} {g : Nat → Nat → Prop} (e : zt S = n ∧ zu S = m) (h : Tw Pw d (zt S) (zu S) g) : Tw Pw d n m g := by
  rw [e.1, e.2] at h; exact h
theorem tw_chk {c : Prop} [Decidable c] {d : Option (α × ZS)} {g : Nat → Nat → Prop} (h : c → Tw Pw d n m g) : Tw Pw (m_chk c d) n m (fun C T => m_chkQ c (g C T)) := by
  intro o ho
  by_cases hc : c
  · have h1 : m_chk c d = d := if_pos hc
    rw [h1] at ho
    obtain ⟨a, b⟩ := h hc o ho
    exact ⟨a, fun C T h2 h3 h4 => ⟨hc, b C T h2 h3 h4⟩⟩
  · have h1 : m_chk c d = none := if_neg hc
    rw [h1] at ho; cases ho
theorem tw_if {c : Prop} [Decidable c] {d1 d2 : Option (α × ZS)} {g1 g2 : Nat → Nat → Prop} (h1 : c → Tw Pw d1 n m g1) (h2 : ¬ c → Tw Pw d2 n m g2) : Tw Pw (m_if c d1 d2) n m (fun C T => m_ifQ c (g1 C T) (g2 C T)) := by
  intro o ho
  by_cases hc : c
  · have e1 : m_if c d1 d2 = d1 := if_pos hc
    rw [e1] at ho
    obtain ⟨a, b⟩ := h1 hc o ho
    exact ⟨a, fun C T h3 h4 h5 => ⟨fun _ => b C T h3 h4 h5, fun h => absurd hc h⟩⟩
  · have e1 : m_if c d1 d2 = d2 := if_neg hc
    rw [e1] at ho
    obtain ⟨a, b⟩ := h2 hc o ho
    exact ⟨a, fun C T h3 h4 h5 => ⟨fun h => absurd h hc, fun _ => b C T h3 h4 h5⟩⟩
theorem tw_bndv {β : Type} {x : β} {k : β → Option (α × ZS)} {g : β → Nat → Nat → Prop} (h : ∀ z, Tw Pw (k z) n m (g z)) : Tw Pw (m_bnd x k) n m (fun C T => m_bndP x (fun z => g z C T)) := h x
theorem tw_bnds {x : ZS} {k : ZS → Option (α × ZS)} {g : ZS → Nat → Nat → Prop} (hx : zt x = n ∧ zu x = m) (h : ∀ z : ZS, (zt z = n ∧ zu z = m) → Tw Pw (k z) n m (g z)) : Tw Pw (m_bnd x k) n m (fun C T => m_bndP x (fun z => g z C T)) := h x hx
theorem tw_calv {β : Type} {x : Option β} {k : β → Option (α × ZS)} {g : β → Nat → Nat → Prop} (h : ∀ z, Tw Pw (k z) n m (g z)) : Tw Pw (m_cal x k) n m (fun C T => m_calP x (fun z => g z C T)) := by
  cases x with
  | none => intro o ho; cases ho
  | some z =>
    intro o ho
    obtain ⟨a, b⟩ := h z o ho
    exact ⟨a, fun C T h2 h3 h4 => ⟨z, rfl, b C T h2 h3 h4⟩⟩
theorem tw_calf {β : Type} {S : ZS} {x : Option (β × ZS)} {k : β × ZS → Option (α × ZS)} {g : β × ZS → Nat → Nat → Prop} (hS : zt S = n ∧ zu S = m) (h : ∀ o : β × ZS, (zt o.2 = n ∧ zu o.2 = m) → Tw Pw (k o) n m (g o)) : Tw Pw (m_cal x (fun o => m_chk (zt o.2 = zt S ∧ zu o.2 = zu S) (k o))) n m (fun C T => m_calP x (fun o => g o C T)) := by
  cases x with
  | none => intro o ho; cases ho
  | some z =>
    intro o ho
    have ho2 : m_chk (zt z.2 = zt S ∧ zu z.2 = zu S) (k z) = some o := ho
    by_cases hc : zt z.2 = zt S ∧ zu z.2 = zu S
    · have e1 : m_chk (zt z.2 = zt S ∧ zu z.2 = zu S) (k z) = k z := if_pos hc
      rw [e1] at ho2
      obtain ⟨a, b⟩ := h z ⟨hc.1.trans hS.1, hc.2.trans hS.2⟩ o ho2
      exact ⟨a, fun C T h2 h3 h4 => ⟨z, rfl, b C T h2 h3 h4⟩⟩
    · have e1 : m_chk (zt z.2 = zt S ∧ zu z.2 = zu S) (k z) = none := if_neg hc
      rw [e1] at ho2; cases ho2
theorem tw_opt {x : Option Nat} {d1 : Option (α × ZS)} {k : Nat → Option (α × ZS)} {g1 : Nat → Nat → Prop} {g2 : Nat → Nat → Nat → Prop} (h1 : Tw Pw d1 n m g1) (h2 : ∀ b, Tw Pw (k b) n m (g2 b)) : Tw Pw (m_opt x d1 k) n m (fun C T => m_optP x (g1 C T) (fun b => g2 b C T)) := by
  cases x with
  | none =>
    intro o ho
    obtain ⟨a, b⟩ := h1 o ho
    exact ⟨a, fun C T h3 h4 h5 => ⟨fun _ => b C T h3 h4 h5, fun _ h => by cases h⟩⟩
  | some z =>
    intro o ho
    obtain ⟨a, b⟩ := h2 z o ho
    exact ⟨a, fun C T h3 h4 h5 => ⟨fun h => (by cases h), fun w h => by cases h; exact b C T h3 h4 h5⟩⟩
theorem tw_new {n9 z : Nat} {x : Nat → ZS} {k : Nat → ZS → Option (α × ZS)} {g : Nat → ZS → Nat → Nat → Prop} (hx : ∀ q, zt (x q) = n + 1 ∧ zu (x q) = m + n9) (h : ∀ (q : Nat) (S : ZS), (zt S = n + 1 ∧ zu S = m + n9) → Tw Pw (k q S) (n + 1) (m + n9) (g q S)) : Tw Pw (m_bnd z (fun q => m_bnd (x q) (fun S => k q S))) n m (fun C T => m_newP C T n9 z (fun q C' T' => m_bndP (x q) (fun S => g q S C' T'))) := by
  intro o ho
  obtain ⟨a, b⟩ := h z (x z) (hx z) o ho
  refine ⟨by omega, fun C T h2 h3 h4 => ⟨by omega, fun q hq => ?_⟩⟩
  subst hq
  exact b (C - 1) (T - n9) (by omega) (by omega) h4
theorem tw_gal {dY : Option (Int32 × ZS)} {gY : Nat → Nat → (Int32 → ZS → Prop) → Prop} {k : Int32 → ZS → Option (α × ZS)} {g : Int32 → ZS → Nat → Nat → Prop} (hy : ∀ Pw' : Int32 → ZS → Prop, Tw Pw' dY n m (fun C T => gY C T Pw')) (h : ∀ r S, Tw Pw (k r S) (zt S) (zu S) (fun C T => g r S C T)) : Tw Pw (m_cal2 dY k) n m (fun C T => m_gal C T gY g) := by
  cases dY with
  | none => intro o ho; cases ho
  | some z =>
    intro o ho
    obtain ⟨a, b⟩ := h z.1 z.2 o ho
    have a1 := (hy (fun _ _ => True) z rfl).1
    refine ⟨by omega, fun C T h2 h3 h4 => ⟨zt z.2 - n, zu z.2 - m, by omega, ?_⟩⟩
    refine (hy (fun r S => g r S (C - (zt z.2 - n)) (T - (zu z.2 - m))) z rfl).2 _ _ (by omega) (by omega) ?_
    exact b _ _ (by omega) (by omega) h4
theorem tw_galN {dY : Option (Nat × ZS)} {gY : Nat → Nat → (Nat → ZS → Prop) → Prop} {k : Nat → ZS → Option (α × ZS)} {g : Nat → ZS → Nat → Nat → Prop} (hy : ∀ Pw' : Nat → ZS → Prop, Tw Pw' dY n m (fun C T => gY C T Pw')) (h : ∀ r S, Tw Pw (k r S) (zt S) (zu S) (fun C T => g r S C T)) : Tw Pw (m_cal2 dY k) n m (fun C T => m_galN C T gY g) := by
  cases dY with
  | none => intro o ho; cases ho
  | some z =>
    intro o ho
    obtain ⟨a, b⟩ := h z.1 z.2 o ho
    have a1 := (hy (fun _ _ => True) z rfl).1
    refine ⟨by omega, fun C T h2 h3 h4 => ⟨zt z.2 - n, zu z.2 - m, by omega, ?_⟩⟩
    refine (hy (fun r S => g r S (C - (zt z.2 - n)) (T - (zu z.2 - m))) z rfl).2 _ _ (by omega) (by omega) ?_
    exact b _ _ (by omega) (by omega) h4
theorem tw_ret {v : α} {S : ZS} (hS : zt S = n ∧ zu S = m) : Tw Pw (some (v, S)) n m (fun _ _ => Pw v S) := by
  intro o ho
  cases ho
  exact ⟨⟨Nat.le_of_eq hS.1.symm, Nat.le_of_eq hS.2.symm⟩, fun _ _ _ _ h => h⟩
theorem tw_none {g : Nat → Nat → Prop} : Tw Pw none n m g := by intro o ho; cases ho
end TWS
