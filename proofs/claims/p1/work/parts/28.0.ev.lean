def m_any {α : Type} (o : Option α) (k : α → Bool) : Bool := match o with
  | none => false
  | some x => k x
theorem m_anyE {α : Type} {o : Option α} {k : α → Bool} (h : m_any o k = true) : ∃ x, o = some x ∧ k x = true := by
  cases o with
  | none => cases h
  | some x => exact ⟨x, rfl, h⟩
theorem m_anyS {α : Type} {o : Option α} {k : α → Bool} {x : α} (h : m_any o k = true) (e : o = some x) : k x = true := by
  subst e
  exact h
section ANY
variable {α β : Type} {x : Option α} {y : Option β} {f g : β → Option β} {K : α → β → Bool}
def any4 (x : Option α) (y : Option β) (f g : β → Option β) (K : α → β → Bool) : Bool := m_any x (fun r => m_any y (fun o1 => m_any (f o1) (fun o2 => m_any (g o2) (fun o3 => K r o3))))
theorem any4_E (h : any4 x y f g K = true) : ∃ (r : α) (o1 o2 o3 : β), x = some r ∧ y = some o1 ∧ f o1 = some o2 ∧ g o2 = some o3 ∧ K r o3 = true := by
  obtain ⟨r, h0, h⟩ := m_anyE h
  obtain ⟨o1, h1, h⟩ := m_anyE h
  obtain ⟨o2, h2, h⟩ := m_anyE h
  obtain ⟨o3, h3, h⟩ := m_anyE h
  exact ⟨r, o1, o2, o3, h0, h1, h2, h3, h⟩
theorem any4_S {r : α} {o1 o2 o3 : β} (h : any4 x y f g K = true) (e0 : x = some r) (e1 : y = some o1) (e2 : f o1 = some o2) (e3 : g o2 = some o3) : K r o3 = true := by
  subst e0 e1
  have h1 : m_any (f o1) (fun o2 => m_any (g o2) (fun o3 => K r o3)) = true := h
  rw [e2] at h1
  have h2 : m_any (g o2) (fun o3 => K r o3) = true := h1
  rw [e3] at h2
  exact h2
end ANY
def fU (o1 : Int32 × MS) : Option (Int32 × MS) := f_usual 0 o1.2.1 o1.2.2
def fP (o2 : Int32 × MS) : Option (Int32 × MS) := f_place 0 0 o2.2.1 o2.2.2
/-- a check of the two objects as they stand when the law's loop begins -/
def evQ (G : (Nat → Int32) → (Nat → Nat → Int32) → ZS → Bool) : Bool := any4 (d_X11_init 1 (zsNewO zSs 1 11 10)) (f_clearGame 0 mI0 mA0) fU fP (fun r o3 => G o3.2.1 o3.2.2 (zsJ r.2 27))
/-- an op that answers without making cells -/
def ckF (a : Option (Int32 × MS)) (b : Option (Int32 × ZS)) : Bool := m_any a (fun o2 => m_any b (fun o1 => decide (o1.1 = o2.1)))
theorem ckF_E {a : Option (Int32 × MS)} {b : Option (Int32 × ZS)} {RR : (Nat → Int32) → (Nat → Nat → Int32) → ZS → Prop} (h : ckF a b = true) (hR : ∀ I A S, RR I A S) : ∃ (o1 : Int32 × ZS) (o2 : Int32 × MS), a = some o2 ∧ b = some o1 ∧ o1.1 = o2.1 ∧ RR o2.2.1 o2.2.2 o1.2 := by
  obtain ⟨o2, h2, h⟩ := m_anyE h
  obtain ⟨o1, h1, h⟩ := m_anyE h
  exact ⟨o1, o2, h2, h1, of_decide_eq_true h, hR _ _ _⟩
/-- one that makes cells -/
def ckG (S : ZS) (a : Option (Int32 × MS)) (d : Option (Int32 × ZS)) : Bool := m_any a (fun o2 => m_any d (fun o => decide (o.1 = o2.1) && (decide (zt o.2 ≤ zt S + 10000) && decide (zu o.2 ≤ zu S + 140000))))
theorem ckG_E {S : ZS} {a : Option (Int32 × MS)} {d : Option (Int32 × ZS)} {g : Nat → Nat → (Int32 → ZS → Prop) → Prop} {RR : (Nat → Int32) → (Nat → Nat → Int32) → ZS → Prop} (h : ckG S a d = true) (tw : ∀ Pw, Tw Pw d (zt S) (zu S) (fun C T => g C T Pw)) (hR : ∀ I A S, RR I A S) : ∃ o2 : Int32 × MS, a = some o2 ∧ g lKC lKT (fun r S1 => r = o2.1 ∧ RR o2.2.1 o2.2.2 S1) := by
  obtain ⟨o2, h2, h⟩ := m_anyE h
  obtain ⟨o, h1, h⟩ := m_anyE h
  have h' := (Bool.and_eq_true _ _).mp h
  have h'' := (Bool.and_eq_true _ _).mp h'.2
  exact ⟨o2, h2, (tw _ o h1).2 _ _ (of_decide_eq_true h''.1) (of_decide_eq_true h''.2) ⟨of_decide_eq_true h'.1, hR _ _ _⟩⟩
/-- one that may throw: toV is what the law makes of its answer, tab what the reference must say of a throw -/
def ckX (S : ZS) (a : Option (Int32 × MS)) (d : Option ((Nat × Int32) × ZS)) (toV : Int32 → Int32) (tab : Nat → Int32) : Bool := m_any a (fun o2 => m_any (f_thrown o2.2.1 o2.2.2) (fun o3 => m_any d (fun o => (if o.1.1 = 0 then decide (o3.1 = 0) && decide (toV o.1.2 = toV o2.1) else decide (tab o.1.1 = o3.1) && decide (o3.1 ≠ 0)) && (decide (zt o.2 ≤ zt S + 10000) && decide (zu o.2 ≤ zu S + 140000)))))
theorem ckX_E {S : ZS} {a : Option (Int32 × MS)} {d : Option ((Nat × Int32) × ZS)} {toV : Int32 → Int32} {tab : Nat → Int32} {g : Nat → Nat → (Int32 → ZS → Prop) → (Nat → ZS → Prop) → Prop} (h : ckX S a d toV tab = true) (tw : ∀ Pw Px, Tw (twP Pw Px) d (zt S) (zu S) (fun C T => g C T Pw Px)) : ∃ o2 o3 : Int32 × MS, a = some o2 ∧ f_thrown o2.2.1 o2.2.2 = some o3 ∧ ∀ (Pw : Int32 → ZS → Prop) (Px : Nat → ZS → Prop), (∀ v S1, o3.1 = 0 → toV v = toV o2.1 → Pw v S1) → (∀ k S1, k ≠ 0 → tab k = o3.1 → o3.1 ≠ 0 → Px k S1) → g lKC lKT Pw Px := by
  obtain ⟨o2, h2, h⟩ := m_anyE h
  obtain ⟨o3, h3, h⟩ := m_anyE h
  obtain ⟨o, h1, h⟩ := m_anyE h
  have h' := (Bool.and_eq_true _ _).mp h
  have h'' := (Bool.and_eq_true _ _).mp h'.2
  refine ⟨o2, o3, h2, h3, fun Pw Px hw hx => (tw Pw Px o h1).2 _ _ (of_decide_eq_true h''.1) (of_decide_eq_true h''.2) ⟨fun e => ?_, fun e j => ?_⟩⟩
  · have h9 := h'.1
    rw [if_pos e] at h9
    have h9' := (Bool.and_eq_true _ _).mp h9
    exact hw _ _ (of_decide_eq_true h9'.1) (of_decide_eq_true h9'.2)
  · have h9 := h'.1
    rw [if_neg e] at h9
    have h9' := (Bool.and_eq_true _ _).mp h9
    exact hx _ _ e (of_decide_eq_true h9'.1) (of_decide_eq_true h9'.2)
