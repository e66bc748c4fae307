def mFuel : Nat := 200000
abbrev MS : Type := (Nat → Int32) × (Nat → Nat → Int32)
def m_bnd {α β : Type} (x : α) (k : α → Option β) : Option β := k x
def m_chk {β : Type} (c : Prop) [Decidable c] (k : Option β) : Option β := if c then k else none
def m_if {β : Type} (c : Prop) [Decidable c] (a b : Option β) : Option β := if c then a else b
def m_cal {α β : Type} (o : Option α) (k : α → Option β) : Option β := match o with
  | some x => k x
  | none => none
theorem m_bndE {α β : Type} {x : α} {k : α → Option β} {r : β} (hf : m_bnd x k = some r) : ∃ y : α, y = x ∧ k y = some r := ⟨x, rfl, hf⟩
theorem m_chkE {β : Type} {c : Prop} [Decidable c] {k : Option β} {r : β} (hf : m_chk c k = some r) : c ∧ k = some r := by
  unfold m_chk at hf
  by_cases hc : c
  · rw [if_pos hc] at hf; exact ⟨hc, hf⟩
  · rw [if_neg hc] at hf; cases hf
theorem m_ifT {β : Type} {c : Prop} [Decidable c] {a b : Option β} {r : β} (hf : m_if c a b = some r) (hc : c) : a = some r := by
  unfold m_if at hf; rw [if_pos hc] at hf; exact hf
theorem m_ifF {β : Type} {c : Prop} [Decidable c] {a b : Option β} {r : β} (hf : m_if c a b = some r) (hc : ¬ c) : b = some r := by
  unfold m_if at hf; rw [if_neg hc] at hf; exact hf
theorem m_calE {α β : Type} {o : Option α} {k : α → Option β} {r : β} (hf : m_cal o k = some r) : ∃ y : α, o = some y ∧ k y = some r := by
  cases o with
  | none => cases hf
  | some y => exact ⟨y, rfl, hf⟩

def m_cl {γ : Type} (e : Option (Int32 × MS)) (k : Int32 → (Nat → Int32) → (Nat → Nat → Int32) → Option γ) : Option γ := match e with
  | none => none
  | some (v, (I, A)) => k v I A
theorem m_clE {γ : Type} {e : Option (Int32 × MS)} {k : Int32 → (Nat → Int32) → (Nat → Nat → Int32) → Option γ} {r : γ} (hf : m_cl e k = some r) : ∃ o : Int32 × MS, e = some o ∧ k o.1 o.2.1 o.2.2 = some r := by
  cases e with
  | none => cases hf
  | some o =>
    obtain ⟨v, I, A⟩ := o
    exact ⟨_, rfl, hf⟩
def FrS (WI WA : List Nat) (I : Nat → Int32) (A : Nat → Nat → Int32) (I' : Nat → Int32) (A' : Nat → Nat → Int32) : Prop := (∀ k, k ∉ WI → I' k = I k) ∧ (∀ j, j ∉ WA → A' j = A j)
section FRS
variable {WI WA VI VA : List Nat} {I I1 I2 : Nat → Int32} {A A1 A2 : Nat → Nat → Int32}
theorem frs_0 : FrS WI WA I A I A := ⟨fun _ _ => rfl, fun _ _ => rfl⟩
theorem frs_I {k0 : Nat} {v : Int32} (h : FrS WI WA I A I1 A1) (hk : k0 ∈ WI) (e : I2 = upd I1 k0 v) : FrS WI WA I A I2 A1 := ⟨fun k h1 => by
  have hne : k ≠ k0 := fun e1 => h1 (by rw [e1]; exact hk)
  rw [e, ← h.1 k h1]
  exact if_neg hne, h.2⟩
theorem frs_A {j0 : Nat} {f : Nat → Int32} (h : FrS WI WA I A I1 A1) (hj : j0 ∈ WA) (e : A2 = va_up A1 j0 f) : FrS WI WA I A I1 A2 := ⟨h.1, fun j h1 => by
  have hne : j ≠ j0 := fun e1 => h1 (by rw [e1]; exact hj)
  rw [e, va_up_ne _ _ hne, h.2 j h1]⟩
theorem frs_t (h : FrS WI WA I A I1 A1) (h2 : FrS VI VA I1 A1 I2 A2) (hI : ∀ k ∈ VI, k ∈ WI) (hA : ∀ j ∈ VA, j ∈ WA) : FrS WI WA I A I2 A2 := ⟨fun k h1 => (h2.1 k (fun h3 => h1 (hI k h3))).trans (h.1 k h1), fun j h1 => (h2.2 j (fun h3 => h1 (hA j h3))).trans (h.2 j h1)⟩
end FRS
theorem m_ifE {β : Type} {c : Prop} [Decidable c] {a b : Option β} {r : β} (hf : m_if c a b = some r) : (c ∧ a = some r) ∨ (¬ c ∧ b = some r) := by
  by_cases hc : c
  · exact Or.inl ⟨hc, m_ifT hf hc⟩
  · exact Or.inr ⟨hc, m_ifF hf hc⟩

theorem upd_ne {f : Nat → Int32} {k i : Nat} {x : Int32} (h : i ≠ k) : upd f k x i = f i := if_neg h
theorem upd_self {f : Nat → Int32} {k : Nat} {x : Int32} : upd f k x k = x := if_pos rfl
def f_clearNode_0 (x1 : Int32) (I : Nat → Int32) (A : Nat → Nat → Int32) : Option (Int32 × MS) :=
  m_chk (¬ (x1 < 0 ∨ 602 ≤ (x1).toNatClampNeg)) (
  m_bnd (va_up A 10 (upd (A 10) (x1).toNatClampNeg (-1 : Int32))) (fun A1 =>
  m_chk (¬ (x1 < 0 ∨ 602 ≤ (x1).toNatClampNeg)) (
  m_bnd (va_up A1 11 (upd (A1 11) (x1).toNatClampNeg (-1 : Int32))) (fun A2 =>
  m_chk (¬ (x1 < 0 ∨ 602 ≤ (x1).toNatClampNeg)) (
  m_bnd (va_up A2 12 (upd (A2 12) (x1).toNatClampNeg (0 : Int32))) (fun A3 =>
  m_chk (¬ (x1 < 0 ∨ 602 ≤ (x1).toNatClampNeg)) (
  m_bnd (va_up A3 14 (upd (A3 14) (x1).toNatClampNeg (0 : Int32))) (fun A4 =>
  some (0, (I, A4))))))))))
def f_clearNode (x1 : Int32) (I : Nat → Int32) (A : Nat → Nat → Int32) : Option (Int32 × MS) := f_clearNode_0 x1 I A
def f_clearGame_0 (x1 : Int32) (I : Nat → Int32) (A : Nat → Nat → Int32) : Option (Int32 × MS) :=
  m_chk (¬ (x1 < 0 ∨ 2 ≤ (x1).toNatClampNeg)) (
  m_bnd (va_up A 7 (upd (A 7) (x1).toNatClampNeg (0 : Int32))) (fun A1 =>
  m_chk (¬ (x1 < 0 ∨ 2 ≤ (x1).toNatClampNeg)) (
  m_bnd (va_up A1 18 (upd (A1 18) (x1).toNatClampNeg (0 : Int32))) (fun A2 =>
  m_chk (¬ (x1 < 0 ∨ 2 ≤ (x1).toNatClampNeg)) (
  m_bnd (va_up A2 23 (upd (A2 23) (x1).toNatClampNeg (0 : Int32))) (fun A3 =>
  m_bnd ((301 : Int32) * x1) (fun v4 =>
  m_cl (f_clearNode v4 I A3) (fun r5 Ic5 Ac5 =>
  m_bnd ((301 : Int32) * x1) (fun v6 =>
  m_chk (¬ (v6 < 0 ∨ 602 ≤ (v6).toNatClampNeg)) (
  m_bnd (va_up Ac5 8 (upd (Ac5 8) (v6).toNatClampNeg (-1 : Int32))) (fun A7 =>
  m_bnd ((301 : Int32) * x1) (fun v8 =>
  m_chk (¬ (v8 < 0 ∨ 602 ≤ (v8).toNatClampNeg)) (
  m_bnd (va_up A7 9 (upd (A7 9) (v8).toNatClampNeg (-1 : Int32))) (fun A9 =>
  some (0, (Ic5, A9))))))))))))))))
def f_clearGame (x1 : Int32) (I : Nat → Int32) (A : Nat → Nat → Int32) : Option (Int32 × MS) := f_clearGame_0 x1 I A
def f_start_2s (self2 : Int32 → Int32 → (Nat → Int32) → (Nat → Nat → Int32) → Option (Int32 × MS)) (x1 : Int32) (x2 : Int32) (I : Nat → Int32) (A : Nat → Nat → Int32) : Option (Int32 × MS) :=
  m_if ((64 : Int32) ≤ x2) (
  m_bnd ((5 : Int32) * x1) (fun v1 =>
  m_chk (¬ (v1 < 0 ∨ 10 ≤ (v1).toNatClampNeg)) (
  m_bnd (va_up A 17 (upd (A 17) (v1).toNatClampNeg (I 25))) (fun A2 =>
  m_bnd ((5 : Int32) * x1) (fun v3 =>
  m_bnd (v3 + (1 : Int32)) (fun v4 =>
  m_chk (¬ (v4 < 0 ∨ 10 ≤ (v4).toNatClampNeg)) (
  m_bnd (va_up A2 17 (upd (A2 17) (v4).toNatClampNeg (I 26))) (fun A5 =>
  m_bnd ((5 : Int32) * x1) (fun v6 =>
  m_bnd (v6 + (2 : Int32)) (fun v7 =>
  m_chk (¬ (v7 < 0 ∨ 10 ≤ (v7).toNatClampNeg)) (
  m_bnd (va_up A5 17 (upd (A5 17) (v7).toNatClampNeg (I 27))) (fun A8 =>
  m_bnd ((5 : Int32) * x1) (fun v9 =>
  m_bnd (v9 + (3 : Int32)) (fun v10 =>
  m_chk (¬ (v10 < 0 ∨ 10 ≤ (v10).toNatClampNeg)) (
  m_bnd (va_up A8 17 (upd (A8 17) (v10).toNatClampNeg (I 28))) (fun A11 =>
  m_bnd ((5 : Int32) * x1) (fun v12 =>
  m_bnd (v12 + (4 : Int32)) (fun v13 =>
  m_chk (¬ (v13 < 0 ∨ 10 ≤ (v13).toNatClampNeg)) (
  m_bnd (va_up A11 17 (upd (A11 17) (v13).toNatClampNeg (I 29))) (fun A14 =>
  some (0, (I, A14)))))))))))))))))))))
  ) (
  m_bnd ((64 : Int32) * x1) (fun v15 =>
  m_bnd (v15 + x2) (fun v16 =>
  m_chk (¬ (x2 < 0 ∨ 64 ≤ (x2).toNatClampNeg)) (
  m_bnd (A 24 (x2).toNatClampNeg) (fun v17 =>
  m_chk (¬ (v16 < 0 ∨ 128 ≤ (v16).toNatClampNeg)) (
  m_bnd (va_up A 16 (upd (A 16) (v16).toNatClampNeg v17)) (fun A18 =>
  m_bnd (x2 + (1 : Int32)) (fun v19 =>
  self2 x1 v19 I A18)))))))
  )
def f_start_2 : Nat → Int32 → Int32 → (Nat → Int32) → (Nat → Nat → Int32) → Option (Int32 × MS)
  | 0 => fun _ _ _ _ => none
  | n + 1 => f_start_2s (f_start_2 n)
def f_start_0 (x1 : Int32) (I : Nat → Int32) (A : Nat → Nat → Int32) : Option (Int32 × MS) :=
  f_start_2 mFuel x1 (0 : Int32) I A
def f_start (x1 : Int32) (I : Nat → Int32) (A : Nat → Nat → Int32) : Option (Int32 × MS) := f_start_0 x1 I A
def f_usual_83 (self23 : Int32 → Int32 → (Nat → Int32) → (Nat → Nat → Int32) → Option (Int32 × MS)) (x1 : Int32) (x2 : Int32) (t0 : Int32) (I : Nat → Int32) (A : Nat → Nat → Int32) : Option (Int32 × MS) :=
  m_chk (¬ (x2 < 0 ∨ 64 ≤ (x2).toNatClampNeg)) (
  m_bnd (va_up A 24 (upd (A 24) (x2).toNatClampNeg t0)) (fun A1 =>
  m_bnd ((8 : Int32) + x2) (fun v2 =>
  m_chk (¬ (v2 < 0 ∨ 64 ≤ (v2).toNatClampNeg)) (
  m_bnd (va_up A1 24 (upd (A1 24) (v2).toNatClampNeg (1 : Int32))) (fun A3 =>
  m_bnd ((48 : Int32) + x2) (fun v4 =>
  m_chk (¬ (v4 < 0 ∨ 64 ≤ (v4).toNatClampNeg)) (
  m_bnd (va_up A3 24 (upd (A3 24) (v4).toNatClampNeg (9 : Int32))) (fun A5 =>
  m_bnd ((56 : Int32) + x2) (fun v6 =>
  m_bnd (t0 + (8 : Int32)) (fun v7 =>
  m_chk (¬ (v6 < 0 ∨ 64 ≤ (v6).toNatClampNeg)) (
  m_bnd (va_up A5 24 (upd (A5 24) (v6).toNatClampNeg v7)) (fun A8 =>
  m_bnd (x2 + (1 : Int32)) (fun v9 =>
  self23 x1 v9 I A8)))))))))))))
def f_usual_39 (self23 : Int32 → Int32 → (Nat → Int32) → (Nat → Nat → Int32) → Option (Int32 × MS)) (x1 : Int32) (x2 : Int32) (I : Nat → Int32) (A : Nat → Nat → Int32) : Option (Int32 × MS) :=
  f_usual_83 self23 x1 x2 (4 : Int32) I A
def f_usual_54 (self23 : Int32 → Int32 → (Nat → Int32) → (Nat → Nat → Int32) → Option (Int32 × MS)) (x1 : Int32) (x2 : Int32) (I : Nat → Int32) (A : Nat → Nat → Int32) : Option (Int32 × MS) :=
  f_usual_83 self23 x1 x2 (2 : Int32) I A
def f_usual_68 (self23 : Int32 → Int32 → (Nat → Int32) → (Nat → Nat → Int32) → Option (Int32 × MS)) (x1 : Int32) (x2 : Int32) (I : Nat → Int32) (A : Nat → Nat → Int32) : Option (Int32 × MS) :=
  f_usual_83 self23 x1 x2 (3 : Int32) I A
def f_usual_23s (self23 : Int32 → Int32 → (Nat → Int32) → (Nat → Nat → Int32) → Option (Int32 × MS)) (x1 : Int32) (x2 : Int32) (I : Nat → Int32) (A : Nat → Nat → Int32) : Option (Int32 × MS) :=
  m_if ((8 : Int32) ≤ x2) (
  m_bnd (upd I 25 (0 : Int32)) (fun I1 =>
  m_bnd (upd I1 26 (15 : Int32)) (fun I2 =>
  m_bnd (upd I2 27 (-1 : Int32)) (fun I3 =>
  m_bnd (upd I3 28 (0 : Int32)) (fun I4 =>
  m_bnd (upd I4 29 (1 : Int32)) (fun I5 =>
  m_cl (f_start x1 I5 A) (fun r6 Ic6 Ac6 =>
  some (0, (Ic6, Ac6))))))))
  ) (
  m_if (x2 = 0) (
  f_usual_39 self23 x1 x2 I A
  ) (
  m_if (x2 = (7 : Int32)) (
  f_usual_39 self23 x1 x2 I A
  ) (
  m_if (x2 = (1 : Int32)) (
  f_usual_54 self23 x1 x2 I A
  ) (
  m_if (x2 = (6 : Int32)) (
  f_usual_54 self23 x1 x2 I A
  ) (
  m_if (x2 = (2 : Int32)) (
  f_usual_68 self23 x1 x2 I A
  ) (
  m_if (x2 = (5 : Int32)) (
  f_usual_68 self23 x1 x2 I A
  ) (
  m_if (x2 = (3 : Int32)) (
  f_usual_83 self23 x1 x2 (5 : Int32) I A
  ) (
  f_usual_83 self23 x1 x2 (6 : Int32) I A
  )
  )
  )
  )
  )
  )
  )
  )
def f_usual_23 : Nat → Int32 → Int32 → (Nat → Int32) → (Nat → Nat → Int32) → Option (Int32 × MS)
  | 0 => fun _ _ _ _ => none
  | n + 1 => f_usual_23s (f_usual_23 n)
def f_usual_2s (self2 : Int32 → Int32 → (Nat → Int32) → (Nat → Nat → Int32) → Option (Int32 × MS)) (x1 : Int32) (x2 : Int32) (I : Nat → Int32) (A : Nat → Nat → Int32) : Option (Int32 × MS) :=
  m_if ((64 : Int32) ≤ x2) (
  f_usual_23 mFuel x1 (0 : Int32) I A
  ) (
  m_chk (¬ (x2 < 0 ∨ 64 ≤ (x2).toNatClampNeg)) (
  m_bnd (va_up A 24 (upd (A 24) (x2).toNatClampNeg (0 : Int32))) (fun A1 =>
  m_bnd (x2 + (1 : Int32)) (fun v2 =>
  self2 x1 v2 I A1)))
  )
def f_usual_2 : Nat → Int32 → Int32 → (Nat → Int32) → (Nat → Nat → Int32) → Option (Int32 × MS)
  | 0 => fun _ _ _ _ => none
  | n + 1 => f_usual_2s (f_usual_2 n)
def f_usual_0 (x1 : Int32) (I : Nat → Int32) (A : Nat → Nat → Int32) : Option (Int32 × MS) :=
  f_usual_2 mFuel x1 (0 : Int32) I A
def f_usual (x1 : Int32) (I : Nat → Int32) (A : Nat → Nat → Int32) : Option (Int32 × MS) := f_usual_0 x1 I A
def f_kind_0 (x0 : Int32) (I : Nat → Int32) (A : Nat → Nat → Int32) : Option (Int32 × MS) :=
  m_bnd (x0 &&& (7 : Int32)) (fun v1 =>
  some (v1, (I, A)))
def f_kind (x0 : Int32) (I : Nat → Int32) (A : Nat → Nat → Int32) : Option (Int32 × MS) := f_kind_0 x0 I A
def f_isTaking_51 (t0 : Int32) (I : Nat → Int32) (A : Nat → Nat → Int32) : Option (Int32 × MS) :=
  m_chk (vp_nar .boolean t0 = t0) (some (t0, (I, A)))
def f_isTaking_46 (I : Nat → Int32) (A : Nat → Nat → Int32) : Option (Int32 × MS) :=
  f_isTaking_51 (1 : Int32) I A
def f_isTaking_50 (I : Nat → Int32) (A : Nat → Nat → Int32) : Option (Int32 × MS) :=
  f_isTaking_51 (0 : Int32) I A
def f_isTaking_0 (x1 : Int32) (I : Nat → Int32) (A : Nat → Nat → Int32) : Option (Int32 × MS) :=
  m_bnd (x1 - x1 / (64 : Int32) * (64 : Int32)) (fun v1 =>
  m_bnd (x1 / (64 : Int32)) (fun v2 =>
  m_bnd (v2 - v2 / (64 : Int32) * (64 : Int32)) (fun v3 =>
  m_chk (¬ (v3 < 0 ∨ 64 ≤ (v3).toNatClampNeg)) (
  m_bnd (A 24 (v3).toNatClampNeg) (fun v4 =>
  m_if (v4 = 0) (
  m_chk (¬ (v1 < 0 ∨ 64 ≤ (v1).toNatClampNeg)) (
  m_bnd (A 24 (v1).toNatClampNeg) (fun v5 =>
  m_cl (f_kind v5 I A) (fun r6 Ic6 Ac6 =>
  m_if (r6 = (1 : Int32)) (
  m_bnd (v1 - v1 / (8 : Int32) * (8 : Int32)) (fun v7 =>
  m_bnd (v3 - v3 / (8 : Int32) * (8 : Int32)) (fun v8 =>
  m_if (v7 = v8) (
  f_isTaking_50  Ic6 Ac6
  ) (
  f_isTaking_46  Ic6 Ac6
  )))
  ) (
  f_isTaking_50  Ic6 Ac6
  ))))
  ) (
  f_isTaking_46  I A
  ))))))
def f_isTaking (x1 : Int32) (I : Nat → Int32) (A : Nat → Nat → Int32) : Option (Int32 × MS) := f_isTaking_0 x1 I A
def f_lose_60 (t0 : Int32) (I : Nat → Int32) (A : Nat → Nat → Int32) : Option (Int32 × MS) :=
  m_bnd (t0 ^^^ (-1 : Int32)) (fun v1 =>
  m_bnd ((I 26) &&& v1) (fun v2 =>
  m_bnd (upd I 26 v2) (fun I3 =>
  some (0, (I3, A)))))
def f_lose_0 (x1 : Int32) (I : Nat → Int32) (A : Nat → Nat → Int32) : Option (Int32 × MS) :=
  m_if (x1 = (4 : Int32)) (
  f_lose_60 (3 : Int32) I A
  ) (
  m_if (x1 = (7 : Int32)) (
  f_lose_60 (1 : Int32) I A
  ) (
  m_if (x1 = 0) (
  f_lose_60 (2 : Int32) I A
  ) (
  m_if (x1 = (60 : Int32)) (
  f_lose_60 (12 : Int32) I A
  ) (
  m_if (x1 = (63 : Int32)) (
  f_lose_60 (4 : Int32) I A
  ) (
  m_if (x1 = (56 : Int32)) (
  f_lose_60 (8 : Int32) I A
  ) (
  f_lose_60 (0 : Int32) I A
  )
  )
  )
  )
  )
  )
def f_lose (x1 : Int32) (I : Nat → Int32) (A : Nat → Nat → Int32) : Option (Int32 × MS) := f_lose_0 x1 I A
def f_step_48 (t0 : Int32) (I : Nat → Int32) (A : Nat → Nat → Int32) : Option (Int32 × MS) :=
  some (t0, (I, A))
def f_step_47 (I : Nat → Int32) (A : Nat → Nat → Int32) : Option (Int32 × MS) :=
  f_step_48 (-1 : Int32) I A
def f_step_0 (x0 : Int32) (x1 : Int32) (x2 : Int32) (I : Nat → Int32) (A : Nat → Nat → Int32) : Option (Int32 × MS) :=
  m_bnd (x0 - x0 / (8 : Int32) * (8 : Int32)) (fun v1 =>
  m_bnd (v1 + x1) (fun v2 =>
  m_bnd (x0 / (8 : Int32)) (fun v3 =>
  m_bnd (v3 + x2) (fun v4 =>
  m_if (v2 < 0) (
  f_step_47  I A
  ) (
  m_if ((8 : Int32) ≤ v2) (
  f_step_47  I A
  ) (
  m_if (v4 < 0) (
  f_step_47  I A
  ) (
  m_if ((8 : Int32) ≤ v4) (
  f_step_47  I A
  ) (
  m_bnd ((8 : Int32) * v4) (fun v5 =>
  m_bnd (v5 + v2) (fun v6 =>
  f_step_48 v6 I A))
  )
  )
  )
  )))))
def f_step (x0 : Int32) (x1 : Int32) (x2 : Int32) (I : Nat → Int32) (A : Nat → Nat → Int32) : Option (Int32 × MS) := f_step_0 x0 x1 x2 I A
def f_stands_19 (t0 : Int32) (I : Nat → Int32) (A : Nat → Nat → Int32) : Option (Int32 × MS) :=
  m_chk (vp_nar .boolean t0 = t0) (some (t0, (I, A)))
def f_stands_18 (I : Nat → Int32) (A : Nat → Nat → Int32) : Option (Int32 × MS) :=
  f_stands_19 (0 : Int32) I A
def f_stands_0 (x1 : Int32) (x2 : Int32) (I : Nat → Int32) (A : Nat → Nat → Int32) : Option (Int32 × MS) :=
  m_if (x1 < 0) (
  f_stands_18  I A
  ) (
  m_chk (¬ (x1 < 0 ∨ 64 ≤ (x1).toNatClampNeg)) (
  m_bnd (A 24 (x1).toNatClampNeg) (fun v1 =>
  m_if (v1 = x2) (
  f_stands_19 (1 : Int32) I A
  ) (
  f_stands_18  I A
  )))
  )
def f_stands (x1 : Int32) (x2 : Int32) (I : Nat → Int32) (A : Nat → Nat → Int32) : Option (Int32 × MS) := f_stands_0 x1 x2 I A
def f_make_319 (I : Nat → Int32) (A : Nat → Nat → Int32) : Option (Int32 × MS) :=
  m_bnd ((I 29) + (I 25)) (fun v1 =>
  m_bnd (upd I 29 v1) (fun I2 =>
  m_bnd ((1 : Int32) - (I2 25)) (fun v3 =>
  m_bnd (upd I2 25 v3) (fun I4 =>
  some (0, (I4, A))))))
def f_make_316 (t0 : Int32) (I : Nat → Int32) (A : Nat → Nat → Int32) : Option (Int32 × MS) :=
  m_bnd (upd I 27 t0) (fun I1 =>
  f_make_319  I1 A)
def f_make_307 (x2 : Int32) (x3 : Int32) (I : Nat → Int32) (A : Nat → Nat → Int32) : Option (Int32 × MS) :=
  m_bnd (x2 + x3) (fun v1 =>
  m_bnd (v1 / (2 : Int32)) (fun v2 =>
  f_make_316 v2 I A))
def f_make_263 (x2 : Int32) (x3 : Int32) (I : Nat → Int32) (A : Nat → Nat → Int32) : Option (Int32 × MS) :=
  m_bnd ((1 : Int32) - (I 25)) (fun v1 =>
  m_bnd ((8 : Int32) * v1) (fun v2 =>
  m_bnd ((1 : Int32) + v2) (fun v3 =>
  m_cl (f_step x3 (-1 : Int32) (0 : Int32) I A) (fun r4 Ic4 Ac4 =>
  m_cl (f_stands r4 v3 Ic4 Ac4) (fun r5 Ic5 Ac5 =>
  m_if (r5 = 0) (
  m_cl (f_step x3 (1 : Int32) (0 : Int32) Ic5 Ac5) (fun r6 Ic6 Ac6 =>
  m_cl (f_stands r6 v3 Ic6 Ac6) (fun r7 Ic7 Ac7 =>
  m_if (r7 = 0) (
  f_make_316 (-1 : Int32) Ic7 Ac7
  ) (
  f_make_307 x2 x3 Ic7 Ac7
  )))
  ) (
  f_make_307 x2 x3 Ic5 Ac5
  ))))))
def f_make_226 (x2 : Int32) (x3 : Int32) (x6 : Int32) (t0 : Int32) (t1 : Int32) (I : Nat → Int32) (A : Nat → Nat → Int32) : Option (Int32 × MS) :=
  m_chk (¬ (t1 < 0 ∨ 64 ≤ (t1).toNatClampNeg)) (
  m_bnd (va_up A 24 (upd (A 24) (t1).toNatClampNeg t0)) (fun A1 =>
  m_cl (f_lose x2 I A1) (fun r2 Ic2 Ac2 =>
  m_cl (f_lose x3 Ic2 Ac2) (fun r3 Ic3 Ac3 =>
  m_bnd (upd Ic3 27 (-1 : Int32)) (fun I4 =>
  m_if (x6 = 0) (
  f_make_319  I4 Ac3
  ) (
  m_bnd (x2 + (16 : Int32)) (fun v5 =>
  m_if (x3 = v5) (
  f_make_263 x2 x3 I4 Ac3
  ) (
  m_bnd (x2 - (16 : Int32)) (fun v6 =>
  m_if (x3 = v6) (
  f_make_263 x2 x3 I4 Ac3
  ) (
  f_make_319  I4 Ac3
  ))
  ))
  ))))))
def f_make_194 (x2 : Int32) (x3 : Int32) (x4 : Int32) (x5 : Int32) (x6 : Int32) (I : Nat → Int32) (A : Nat → Nat → Int32) : Option (Int32 × MS) :=
  m_chk (¬ (x2 < 0 ∨ 64 ≤ (x2).toNatClampNeg)) (
  m_bnd (va_up A 24 (upd (A 24) (x2).toNatClampNeg (0 : Int32))) (fun A1 =>
  m_if (x4 ≤ 0) (
  f_make_226 x2 x3 x6 x5 x3 I A1
  ) (
  m_bnd ((8 : Int32) * (I 25)) (fun v2 =>
  m_bnd (x4 + v2) (fun v3 =>
  f_make_226 x2 x3 x6 v3 x3 I A1))
  )))
def f_make_167 (x2 : Int32) (x3 : Int32) (x4 : Int32) (x5 : Int32) (x6 : Int32) (t0 : Int32) (I : Nat → Int32) (A : Nat → Nat → Int32) : Option (Int32 × MS) :=
  m_bnd (x2 + x3) (fun v1 =>
  m_bnd (v1 / (2 : Int32)) (fun v2 =>
  m_chk (¬ (t0 < 0 ∨ 64 ≤ (t0).toNatClampNeg)) (
  m_bnd (A 24 (t0).toNatClampNeg) (fun v3 =>
  m_chk (¬ (v2 < 0 ∨ 64 ≤ (v2).toNatClampNeg)) (
  m_bnd (va_up A 24 (upd (A 24) (v2).toNatClampNeg v3)) (fun A4 =>
  m_chk (¬ (t0 < 0 ∨ 64 ≤ (t0).toNatClampNeg)) (
  m_bnd (va_up A4 24 (upd (A4 24) (t0).toNatClampNeg (0 : Int32))) (fun A5 =>
  f_make_194 x2 x3 x4 x5 x6 I A5))))))))
def f_make_149 (x2 : Int32) (x3 : Int32) (x4 : Int32) (x5 : Int32) (x6 : Int32) (I : Nat → Int32) (A : Nat → Nat → Int32) : Option (Int32 × MS) :=
  m_bnd (x3 - x3 / (8 : Int32) * (8 : Int32)) (fun v1 =>
  m_if (v1 = (6 : Int32)) (
  m_bnd (x2 + (3 : Int32)) (fun v3 =>
  f_make_167 x2 x3 x4 x5 x6 v3 I A)
  ) (
  m_bnd (x2 - (4 : Int32)) (fun v2 =>
  f_make_167 x2 x3 x4 x5 x6 v2 I A)
  ))
def f_make_114 (x2 : Int32) (x3 : Int32) (x4 : Int32) (x5 : Int32) (x6 : Int32) (I : Nat → Int32) (A : Nat → Nat → Int32) : Option (Int32 × MS) :=
  m_cl (f_kind x5 I A) (fun r1 Ic1 Ac1 =>
  m_if (r1 = (6 : Int32)) (
  m_bnd (x2 - x2 / (8 : Int32) * (8 : Int32)) (fun v2 =>
  m_if (v2 = (4 : Int32)) (
  m_bnd (x3 - x3 / (8 : Int32) * (8 : Int32)) (fun v3 =>
  m_if (v3 = (6 : Int32)) (
  f_make_149 x2 x3 x4 x5 x6 Ic1 Ac1
  ) (
  m_bnd (x3 - x3 / (8 : Int32) * (8 : Int32)) (fun v4 =>
  m_if (v4 = (2 : Int32)) (
  f_make_149 x2 x3 x4 x5 x6 Ic1 Ac1
  ) (
  f_make_194 x2 x3 x4 x5 x6 Ic1 Ac1
  ))
  ))
  ) (
  f_make_194 x2 x3 x4 x5 x6 Ic1 Ac1
  ))
  ) (
  f_make_194 x2 x3 x4 x5 x6 Ic1 Ac1
  ))
def f_make_68 (x2 : Int32) (x3 : Int32) (x4 : Int32) (x5 : Int32) (x6 : Int32) (t0 : Int32) (I : Nat → Int32) (A : Nat → Nat → Int32) : Option (Int32 × MS) :=
  m_bnd (upd I 28 t0) (fun I1 =>
  m_if (x6 = 0) (
  f_make_114 x2 x3 x4 x5 x6 I1 A
  ) (
  m_chk (¬ (x3 < 0 ∨ 64 ≤ (x3).toNatClampNeg)) (
  m_bnd (A 24 (x3).toNatClampNeg) (fun v2 =>
  m_if (v2 = 0) (
  m_bnd (x2 - x2 / (8 : Int32) * (8 : Int32)) (fun v3 =>
  m_bnd (x3 - x3 / (8 : Int32) * (8 : Int32)) (fun v4 =>
  m_if (v3 = v4) (
  f_make_114 x2 x3 x4 x5 x6 I1 A
  ) (
  m_bnd (x2 / (8 : Int32)) (fun v5 =>
  m_bnd (v5 * (8 : Int32)) (fun v6 =>
  m_bnd (x3 - x3 / (8 : Int32) * (8 : Int32)) (fun v7 =>
  m_bnd (v6 + v7) (fun v8 =>
  m_chk (¬ (v8 < 0 ∨ 64 ≤ (v8).toNatClampNeg)) (
  m_bnd (va_up A 24 (upd (A 24) (v8).toNatClampNeg (0 : Int32))) (fun A9 =>
  f_make_114 x2 x3 x4 x5 x6 I1 A9))))))
  )))
  ) (
  f_make_114 x2 x3 x4 x5 x6 I1 A
  )))
  ))
def f_make_58 (x2 : Int32) (x3 : Int32) (x4 : Int32) (x5 : Int32) (x6 : Int32) (I : Nat → Int32) (A : Nat → Nat → Int32) : Option (Int32 × MS) :=
  f_make_68 x2 x3 x4 x5 x6 (0 : Int32) I A
def f_make_42 (x1 : Int32) (x2 : Int32) (x3 : Int32) (x4 : Int32) (x5 : Int32) (t0 : Int32) (I : Nat → Int32) (A : Nat → Nat → Int32) : Option (Int32 × MS) :=
  m_if (t0 = 0) (
  m_cl (f_isTaking x1 I A) (fun r1 Ic1 Ac1 =>
  m_if (r1 = 0) (
  m_bnd ((Ic1 28) + (1 : Int32)) (fun v2 =>
  f_make_68 x2 x3 x4 x5 t0 v2 Ic1 Ac1)
  ) (
  f_make_58 x2 x3 x4 x5 t0 Ic1 Ac1
  ))
  ) (
  f_make_58 x2 x3 x4 x5 t0 I A
  )
def f_make_0 (x1 : Int32) (I : Nat → Int32) (A : Nat → Nat → Int32) : Option (Int32 × MS) :=
  m_bnd (x1 - x1 / (64 : Int32) * (64 : Int32)) (fun v1 =>
  m_bnd (x1 / (64 : Int32)) (fun v2 =>
  m_bnd (v2 - v2 / (64 : Int32) * (64 : Int32)) (fun v3 =>
  m_bnd (x1 / (4096 : Int32)) (fun v4 =>
  m_chk (¬ (v1 < 0 ∨ 64 ≤ (v1).toNatClampNeg)) (
  m_bnd (A 24 (v1).toNatClampNeg) (fun v5 =>
  m_cl (f_kind v5 I A) (fun r6 Ic6 Ac6 =>
  m_if (r6 = (1 : Int32)) (
  f_make_42 x1 v1 v3 v4 v5 (1 : Int32) Ic6 Ac6
  ) (
  f_make_42 x1 v1 v3 v4 v5 (0 : Int32) Ic6 Ac6
  ))))))))
def f_make (x1 : Int32) (I : Nat → Int32) (A : Nat → Nat → Int32) : Option (Int32 × MS) := f_make_0 x1 I A
def f_sideOf_11 (t0 : Int32) (I : Nat → Int32) (A : Nat → Nat → Int32) : Option (Int32 × MS) :=
  some (t0, (I, A))
def f_sideOf_0 (x0 : Int32) (I : Nat → Int32) (A : Nat → Nat → Int32) : Option (Int32 × MS) :=
  m_if (x0 = 0) (
  f_sideOf_11 (-1 : Int32) I A
  ) (
  m_bnd (x0 >>> ((3 : Int32) &&& 31)) (fun v1 =>
  f_sideOf_11 v1 I A)
  )
def f_sideOf (x0 : Int32) (I : Nat → Int32) (A : Nat → Nat → Int32) : Option (Int32 × MS) := f_sideOf_0 x0 I A
def f_pawnGoes_162 (t0 : Int32) (I : Nat → Int32) (A : Nat → Nat → Int32) : Option (Int32 × MS) :=
  m_chk (vp_nar .boolean t0 = t0) (some (t0, (I, A)))
def f_pawnGoes_161 (I : Nat → Int32) (A : Nat → Nat → Int32) : Option (Int32 × MS) :=
  f_pawnGoes_162 (0 : Int32) I A
def f_pawnGoes_157 (I : Nat → Int32) (A : Nat → Nat → Int32) : Option (Int32 × MS) :=
  f_pawnGoes_162 (1 : Int32) I A
def f_pawnGoes_131 (x2 : Int32) (I : Nat → Int32) (A : Nat → Nat → Int32) : Option (Int32 × MS) :=
  m_chk (¬ (x2 < 0 ∨ 64 ≤ (x2).toNatClampNeg)) (
  m_bnd (A 24 (x2).toNatClampNeg) (fun v1 =>
  m_cl (f_sideOf v1 I A) (fun r2 Ic2 Ac2 =>
  m_bnd ((1 : Int32) - (Ic2 25)) (fun v3 =>
  m_if (r2 = v3) (
  f_pawnGoes_157  Ic2 Ac2
  ) (
  m_if (x2 = (Ic2 27)) (
  f_pawnGoes_157  Ic2 Ac2
  ) (
  f_pawnGoes_161  Ic2 Ac2
  )
  )))))
def f_pawnGoes_91 (t0 : Int32) (I : Nat → Int32) (A : Nat → Nat → Int32) : Option (Int32 × MS) :=
  m_chk (vp_nar .boolean t0 = t0) (some (t0, (I, A)))
def f_pawnGoes_90 (I : Nat → Int32) (A : Nat → Nat → Int32) : Option (Int32 × MS) :=
  f_pawnGoes_91 (0 : Int32) I A
def f_pawnGoes_63 (x1 : Int32) (x2 : Int32) (x3 : Int32) (t0 : Int32) (t1 : Int32) (I : Nat → Int32) (A : Nat → Nat → Int32) : Option (Int32 × MS) :=
  m_if (t1 = t0) (
  m_bnd (x1 + x3) (fun v1 =>
  m_chk (¬ (v1 < 0 ∨ 64 ≤ (v1).toNatClampNeg)) (
  m_bnd (A 24 (v1).toNatClampNeg) (fun v2 =>
  m_if (v2 = 0) (
  m_chk (¬ (x2 < 0 ∨ 64 ≤ (x2).toNatClampNeg)) (
  m_bnd (A 24 (x2).toNatClampNeg) (fun v3 =>
  m_if (v3 = 0) (
  f_pawnGoes_91 (1 : Int32) I A
  ) (
  f_pawnGoes_90  I A
  )))
  ) (
  f_pawnGoes_90  I A
  ))))
  ) (
  f_pawnGoes_90  I A
  )
def f_pawnGoes_36 (t0 : Int32) (I : Nat → Int32) (A : Nat → Nat → Int32) : Option (Int32 × MS) :=
  m_chk (vp_nar .boolean t0 = t0) (some (t0, (I, A)))
def f_pawnGoes_14 (x1 : Int32) (x2 : Int32) (t0 : Int32) (I : Nat → Int32) (A : Nat → Nat → Int32) : Option (Int32 × MS) :=
  m_bnd (x1 + t0) (fun v1 =>
  m_if (x2 = v1) (
  m_chk (¬ (x2 < 0 ∨ 64 ≤ (x2).toNatClampNeg)) (
  m_bnd (A 24 (x2).toNatClampNeg) (fun v12 =>
  m_if (v12 = 0) (
  f_pawnGoes_36 (1 : Int32) I A
  ) (
  f_pawnGoes_36 (0 : Int32) I A
  )))
  ) (
  m_bnd ((2 : Int32) * t0) (fun v2 =>
  m_bnd (x1 + v2) (fun v3 =>
  m_if (x2 = v3) (
  m_bnd (x1 / (8 : Int32)) (fun v11 =>
  m_if ((I 25) = 0) (
  f_pawnGoes_63 x1 x2 t0 (1 : Int32) v11 I A
  ) (
  f_pawnGoes_63 x1 x2 t0 (6 : Int32) v11 I A
  ))
  ) (
  m_bnd (x2 - x2 / (8 : Int32) * (8 : Int32)) (fun v4 =>
  m_bnd (x1 - x1 / (8 : Int32) * (8 : Int32)) (fun v5 =>
  m_bnd (v4 - v5) (fun v6 =>
  m_bnd (x2 / (8 : Int32)) (fun v7 =>
  m_bnd (x1 / (8 : Int32)) (fun v8 =>
  m_bnd (t0 / (8 : Int32)) (fun v9 =>
  m_bnd (v8 + v9) (fun v10 =>
  m_if (v7 = v10) (
  m_if (v6 = (1 : Int32)) (
  f_pawnGoes_131 x2 I A
  ) (
  m_if (v6 = (-1 : Int32)) (
  f_pawnGoes_131 x2 I A
  ) (
  f_pawnGoes_161  I A
  )
  )
  ) (
  f_pawnGoes_161  I A
  ))))))))
  )))
  ))
def f_pawnGoes_0 (x1 : Int32) (x2 : Int32) (I : Nat → Int32) (A : Nat → Nat → Int32) : Option (Int32 × MS) :=
  m_if ((I 25) = 0) (
  f_pawnGoes_14 x1 x2 (8 : Int32) I A
  ) (
  f_pawnGoes_14 x1 x2 (-8 : Int32) I A
  )
def f_pawnGoes (x1 : Int32) (x2 : Int32) (I : Nat → Int32) (A : Nat → Nat → Int32) : Option (Int32 × MS) := f_pawnGoes_0 x1 x2 I A
def f_isClear_30 (self5 : Int32 → Int32 → Int32 → (Nat → Int32) → (Nat → Nat → Int32) → Option (Int32 × MS)) (x2 : Int32) (x4 : Int32) (t0 : Int32) (I : Nat → Int32) (A : Nat → Nat → Int32) : Option (Int32 × MS) :=
  m_bnd (x4 + (1 : Int32)) (fun v1 =>
  self5 x2 t0 v1 I A)
def f_isClear_29 (self5 : Int32 → Int32 → Int32 → (Nat → Int32) → (Nat → Nat → Int32) → Option (Int32 × MS)) (x2 : Int32) (x4 : Int32) (I : Nat → Int32) (A : Nat → Nat → Int32) : Option (Int32 × MS) :=
  f_isClear_30 self5 x2 x4 (0 : Int32) I A
def f_isClear_5s (self5 : Int32 → Int32 → Int32 → (Nat → Int32) → (Nat → Nat → Int32) → Option (Int32 × MS)) (x2 : Int32) (x3 : Int32) (x4 : Int32) (I : Nat → Int32) (A : Nat → Nat → Int32) : Option (Int32 × MS) :=
  m_if (x2 < x4) (
  m_chk (vp_nar .boolean x3 = x3) (some (x3, (I, A)))
  ) (
  m_if (x3 = 0) (
  f_isClear_29 self5 x2 x4 I A
  ) (
  m_chk (¬ (x4 < 0 ∨ 64 ≤ (x4).toNatClampNeg)) (
  m_bnd (A 24 (x4).toNatClampNeg) (fun v1 =>
  m_if (v1 = 0) (
  f_isClear_30 self5 x2 x4 (1 : Int32) I A
  ) (
  f_isClear_29 self5 x2 x4 I A
  )))
  )
  )
def f_isClear_5 : Nat → Int32 → Int32 → Int32 → (Nat → Int32) → (Nat → Nat → Int32) → Option (Int32 × MS)
  | 0 => fun _ _ _ _ _ => none
  | n + 1 => f_isClear_5s (f_isClear_5 n)
def f_isClear_0 (x1 : Int32) (x2 : Int32) (I : Nat → Int32) (A : Nat → Nat → Int32) : Option (Int32 × MS) :=
  f_isClear_5 mFuel x2 (1 : Int32) x1 I A
def f_isClear (x1 : Int32) (x2 : Int32) (I : Nat → Int32) (A : Nat → Nat → Int32) : Option (Int32 × MS) := f_isClear_0 x1 x2 I A
def f_met_51 (t0 : Int32) (I : Nat → Int32) (A : Nat → Nat → Int32) : Option (Int32 × MS) :=
  some (t0, (I, A))
def f_met_35 (x4 : Int32) (I : Nat → Int32) (A : Nat → Nat → Int32) : Option (Int32 × MS) :=
  m_if (0 ≤ x4) (
  m_chk (¬ (x4 < 0 ∨ 64 ≤ (x4).toNatClampNeg)) (
  m_bnd (A 24 (x4).toNatClampNeg) (fun v1 =>
  f_met_51 v1 I A))
  ) (
  f_met_51 (0 : Int32) I A
  )
def f_met_8s (self8 : Int32 → Int32 → Int32 → (Nat → Int32) → (Nat → Nat → Int32) → Option (Int32 × MS)) (x2 : Int32) (x3 : Int32) (x4 : Int32) (I : Nat → Int32) (A : Nat → Nat → Int32) : Option (Int32 × MS) :=
  m_if (x4 < 0) (
  f_met_35 x4 I A
  ) (
  m_chk (¬ (x4 < 0 ∨ 64 ≤ (x4).toNatClampNeg)) (
  m_bnd (A 24 (x4).toNatClampNeg) (fun v1 =>
  m_if (v1 = 0) (
  m_cl (f_step x4 x2 x3 I A) (fun r2 Ic2 Ac2 =>
  self8 x2 x3 r2 Ic2 Ac2)
  ) (
  f_met_35 x4 I A
  )))
  )
def f_met_8 : Nat → Int32 → Int32 → Int32 → (Nat → Int32) → (Nat → Nat → Int32) → Option (Int32 × MS)
  | 0 => fun _ _ _ _ _ => none
  | n + 1 => f_met_8s (f_met_8 n)
def f_met_0 (x1 : Int32) (x2 : Int32) (x3 : Int32) (I : Nat → Int32) (A : Nat → Nat → Int32) : Option (Int32 × MS) :=
  m_cl (f_step x1 x2 x3 I A) (fun r1 Ic1 Ac1 =>
  f_met_8 mFuel x2 x3 r1 Ic1 Ac1)
def f_met (x1 : Int32) (x2 : Int32) (x3 : Int32) (I : Nat → Int32) (A : Nat → Nat → Int32) : Option (Int32 × MS) := f_met_0 x1 x2 x3 I A
def f_isAttacked_217 (self61 : Int32 → Int32 → Int32 → Int32 → (Nat → Int32) → (Nat → Nat → Int32) → Option (Int32 × MS)) (self71 : Int32 → Int32 → Int32 → Int32 → Int32 → (Nat → Int32) → (Nat → Nat → Int32) → Option (Int32 × MS)) (x1 : Int32) (x3 : Int32) (x5 : Int32) (x6 : Int32) (x7 : Int32) (I : Nat → Int32) (A : Nat → Nat → Int32) : Option (Int32 × MS) :=
  m_bnd (x7 + (1 : Int32)) (fun v1 =>
  self71 x1 x3 x5 x6 v1 I A)
def f_isAttacked_215 (self61 : Int32 → Int32 → Int32 → Int32 → (Nat → Int32) → (Nat → Nat → Int32) → Option (Int32 × MS)) (self71 : Int32 → Int32 → Int32 → Int32 → Int32 → (Nat → Int32) → (Nat → Nat → Int32) → Option (Int32 × MS)) (x1 : Int32) (x3 : Int32) (x6 : Int32) (x7 : Int32) (t0 : Int32) (I : Nat → Int32) (A : Nat → Nat → Int32) : Option (Int32 × MS) :=
  f_isAttacked_217 self61 self71 x1 x3 t0 x6 x7 I A
def f_isAttacked_210 (self61 : Int32 → Int32 → Int32 → Int32 → (Nat → Int32) → (Nat → Nat → Int32) → Option (Int32 × MS)) (self71 : Int32 → Int32 → Int32 → Int32 → Int32 → (Nat → Int32) → (Nat → Nat → Int32) → Option (Int32 × MS)) (x1 : Int32) (x3 : Int32) (x6 : Int32) (x7 : Int32) (I : Nat → Int32) (A : Nat → Nat → Int32) : Option (Int32 × MS) :=
  f_isAttacked_215 self61 self71 x1 x3 x6 x7 (1 : Int32) I A
def f_isAttacked_205 (self61 : Int32 → Int32 → Int32 → Int32 → (Nat → Int32) → (Nat → Nat → Int32) → Option (Int32 × MS)) (self71 : Int32 → Int32 → Int32 → Int32 → Int32 → (Nat → Int32) → (Nat → Nat → Int32) → Option (Int32 × MS)) (x1 : Int32) (x3 : Int32) (x6 : Int32) (x7 : Int32) (t0 : Int32) (t1 : Int32) (I : Nat → Int32) (A : Nat → Nat → Int32) : Option (Int32 × MS) :=
  m_bnd (t0 + x3) (fun v1 =>
  m_if (t1 = v1) (
  f_isAttacked_210 self61 self71 x1 x3 x6 x7 I A
  ) (
  f_isAttacked_215 self61 self71 x1 x3 x6 x7 (0 : Int32) I A
  ))
def f_isAttacked_168 (self61 : Int32 → Int32 → Int32 → Int32 → (Nat → Int32) → (Nat → Nat → Int32) → Option (Int32 × MS)) (self71 : Int32 → Int32 → Int32 → Int32 → Int32 → (Nat → Int32) → (Nat → Nat → Int32) → Option (Int32 × MS)) (x1 : Int32) (x3 : Int32) (x5 : Int32) (x6 : Int32) (x7 : Int32) (x8 : Int32) (I : Nat → Int32) (A : Nat → Nat → Int32) : Option (Int32 × MS) :=
  m_cl (f_met x1 x6 x7 I A) (fun r1 Ic1 Ac1 =>
  m_if (x5 = 0) (
  m_bnd ((5 : Int32) + x3) (fun v2 =>
  m_if (r1 = v2) (
  f_isAttacked_210 self61 self71 x1 x3 x6 x7 Ic1 Ac1
  ) (
  m_if (x8 = (1 : Int32)) (
  f_isAttacked_205 self61 self71 x1 x3 x6 x7 (4 : Int32) r1 Ic1 Ac1
  ) (
  f_isAttacked_205 self61 self71 x1 x3 x6 x7 (3 : Int32) r1 Ic1 Ac1
  )
  ))
  ) (
  f_isAttacked_210 self61 self71 x1 x3 x6 x7 Ic1 Ac1
  ))
def f_isAttacked_154 (self61 : Int32 → Int32 → Int32 → Int32 → (Nat → Int32) → (Nat → Nat → Int32) → Option (Int32 × MS)) (self71 : Int32 → Int32 → Int32 → Int32 → Int32 → (Nat → Int32) → (Nat → Nat → Int32) → Option (Int32 × MS)) (x1 : Int32) (x3 : Int32) (x6 : Int32) (x7 : Int32) (x8 : Int32) (t0 : Int32) (I : Nat → Int32) (A : Nat → Nat → Int32) : Option (Int32 × MS) :=
  m_if (x8 = (1 : Int32)) (
  f_isAttacked_168 self61 self71 x1 x3 t0 x6 x7 x8 I A
  ) (
  m_if (x8 = (2 : Int32)) (
  f_isAttacked_168 self61 self71 x1 x3 t0 x6 x7 x8 I A
  ) (
  f_isAttacked_217 self61 self71 x1 x3 t0 x6 x7 I A
  )
  )
def f_isAttacked_149 (self61 : Int32 → Int32 → Int32 → Int32 → (Nat → Int32) → (Nat → Nat → Int32) → Option (Int32 × MS)) (self71 : Int32 → Int32 → Int32 → Int32 → Int32 → (Nat → Int32) → (Nat → Nat → Int32) → Option (Int32 × MS)) (x1 : Int32) (x3 : Int32) (x6 : Int32) (x7 : Int32) (x8 : Int32) (I : Nat → Int32) (A : Nat → Nat → Int32) : Option (Int32 × MS) :=
  f_isAttacked_154 self61 self71 x1 x3 x6 x7 x8 (1 : Int32) I A
def f_isAttacked_153 (self61 : Int32 → Int32 → Int32 → Int32 → (Nat → Int32) → (Nat → Nat → Int32) → Option (Int32 × MS)) (self71 : Int32 → Int32 → Int32 → Int32 → Int32 → (Nat → Int32) → (Nat → Nat → Int32) → Option (Int32 × MS)) (x1 : Int32) (x3 : Int32) (x6 : Int32) (x7 : Int32) (x8 : Int32) (I : Nat → Int32) (A : Nat → Nat → Int32) : Option (Int32 × MS) :=
  f_isAttacked_154 self61 self71 x1 x3 x6 x7 x8 (0 : Int32) I A
def f_isAttacked_119 (self61 : Int32 → Int32 → Int32 → Int32 → (Nat → Int32) → (Nat → Nat → Int32) → Option (Int32 × MS)) (self71 : Int32 → Int32 → Int32 → Int32 → Int32 → (Nat → Int32) → (Nat → Nat → Int32) → Option (Int32 × MS)) (x1 : Int32) (x3 : Int32) (x6 : Int32) (x7 : Int32) (x8 : Int32) (I : Nat → Int32) (A : Nat → Nat → Int32) : Option (Int32 × MS) :=
  m_if (x8 ≤ 0) (
  f_isAttacked_153 self61 self71 x1 x3 x6 x7 x8 I A
  ) (
  m_if ((3 : Int32) ≤ x8) (
  f_isAttacked_153 self61 self71 x1 x3 x6 x7 x8 I A
  ) (
  m_cl (f_step x1 x6 x7 I A) (fun r1 Ic1 Ac1 =>
  m_bnd ((6 : Int32) + x3) (fun v2 =>
  m_cl (f_stands r1 v2 Ic1 Ac1) (fun r3 Ic3 Ac3 =>
  m_if (r3 = 0) (
  f_isAttacked_153 self61 self71 x1 x3 x6 x7 x8 Ic3 Ac3
  ) (
  f_isAttacked_149 self61 self71 x1 x3 x6 x7 x8 Ic3 Ac3
  ))))
  )
  )
def f_isAttacked_71s (self61 : Int32 → Int32 → Int32 → Int32 → (Nat → Int32) → (Nat → Nat → Int32) → Option (Int32 × MS)) (self71 : Int32 → Int32 → Int32 → Int32 → Int32 → (Nat → Int32) → (Nat → Nat → Int32) → Option (Int32 × MS)) (x1 : Int32) (x3 : Int32) (x5 : Int32) (x6 : Int32) (x7 : Int32) (I : Nat → Int32) (A : Nat → Nat → Int32) : Option (Int32 × MS) :=
  m_if ((3 : Int32) ≤ x7) (
  m_bnd (x6 + (1 : Int32)) (fun v1 =>
  self61 x1 x3 x5 v1 I A)
  ) (
  m_bnd (x6 * x6) (fun v2 =>
  m_bnd (x7 * x7) (fun v3 =>
  m_bnd (v2 + v3) (fun v4 =>
  m_if (x5 = 0) (
  m_if (v4 = (5 : Int32)) (
  m_cl (f_step x1 x6 x7 I A) (fun r5 Ic5 Ac5 =>
  m_bnd ((2 : Int32) + x3) (fun v6 =>
  m_cl (f_stands r5 v6 Ic5 Ac5) (fun r7 Ic7 Ac7 =>
  m_if (r7 = 0) (
  f_isAttacked_119 self61 self71 x1 x3 x6 x7 v4 Ic7 Ac7
  ) (
  f_isAttacked_149 self61 self71 x1 x3 x6 x7 v4 Ic7 Ac7
  ))))
  ) (
  f_isAttacked_119 self61 self71 x1 x3 x6 x7 v4 I A
  )
  ) (
  f_isAttacked_149 self61 self71 x1 x3 x6 x7 v4 I A
  ))))
  )
def f_isAttacked_71 (self61 : Int32 → Int32 → Int32 → Int32 → (Nat → Int32) → (Nat → Nat → Int32) → Option (Int32 × MS)) : Nat → Int32 → Int32 → Int32 → Int32 → Int32 → (Nat → Int32) → (Nat → Nat → Int32) → Option (Int32 × MS)
  | 0 => fun _ _ _ _ _ _ _ => none
  | n + 1 => f_isAttacked_71s self61 (f_isAttacked_71 self61 n)
def f_isAttacked_61s (self61 : Int32 → Int32 → Int32 → Int32 → (Nat → Int32) → (Nat → Nat → Int32) → Option (Int32 × MS)) (x1 : Int32) (x3 : Int32) (x5 : Int32) (x6 : Int32) (I : Nat → Int32) (A : Nat → Nat → Int32) : Option (Int32 × MS) :=
  m_if ((3 : Int32) ≤ x6) (
  m_chk (vp_nar .boolean x5 = x5) (some (x5, (I, A)))
  ) (
  f_isAttacked_71 self61 mFuel x1 x3 x5 x6 (-2 : Int32) I A
  )
def f_isAttacked_61 : Nat → Int32 → Int32 → Int32 → Int32 → (Nat → Int32) → (Nat → Nat → Int32) → Option (Int32 × MS)
  | 0 => fun _ _ _ _ _ _ => none
  | n + 1 => f_isAttacked_61s (f_isAttacked_61 n)
def f_isAttacked_55 (x1 : Int32) (x3 : Int32) (t0 : Int32) (I : Nat → Int32) (A : Nat → Nat → Int32) : Option (Int32 × MS) :=
  f_isAttacked_61 mFuel x1 x3 t0 (-2 : Int32) I A
def f_isAttacked_50 (x1 : Int32) (x3 : Int32) (I : Nat → Int32) (A : Nat → Nat → Int32) : Option (Int32 × MS) :=
  f_isAttacked_55 x1 x3 (1 : Int32) I A
def f_isAttacked_14 (x1 : Int32) (x3 : Int32) (t0 : Int32) (I : Nat → Int32) (A : Nat → Nat → Int32) : Option (Int32 × MS) :=
  m_cl (f_step x1 (-1 : Int32) t0 I A) (fun r1 Ic1 Ac1 =>
  m_bnd ((1 : Int32) + x3) (fun v2 =>
  m_cl (f_stands r1 v2 Ic1 Ac1) (fun r3 Ic3 Ac3 =>
  m_if (r3 = 0) (
  m_cl (f_step x1 (1 : Int32) t0 Ic3 Ac3) (fun r4 Ic4 Ac4 =>
  m_bnd ((1 : Int32) + x3) (fun v5 =>
  m_cl (f_stands r4 v5 Ic4 Ac4) (fun r6 Ic6 Ac6 =>
  m_if (r6 = 0) (
  f_isAttacked_55 x1 x3 (0 : Int32) Ic6 Ac6
  ) (
  f_isAttacked_50 x1 x3 Ic6 Ac6
  ))))
  ) (
  f_isAttacked_50 x1 x3 Ic3 Ac3
  ))))
def f_isAttacked_0 (x1 : Int32) (x2 : Int32) (I : Nat → Int32) (A : Nat → Nat → Int32) : Option (Int32 × MS) :=
  m_bnd ((8 : Int32) * x2) (fun v1 =>
  m_if (x2 = 0) (
  f_isAttacked_14 x1 v1 (-1 : Int32) I A
  ) (
  f_isAttacked_14 x1 v1 (1 : Int32) I A
  ))
def f_isAttacked (x1 : Int32) (x2 : Int32) (I : Nat → Int32) (A : Nat → Nat → Int32) : Option (Int32 × MS) := f_isAttacked_0 x1 x2 I A
def f_mayCastle_131 (t0 : Int32) (I : Nat → Int32) (A : Nat → Nat → Int32) : Option (Int32 × MS) :=
  m_chk (vp_nar .boolean t0 = t0) (some (t0, (I, A)))
def f_mayCastle_130 (I : Nat → Int32) (A : Nat → Nat → Int32) : Option (Int32 × MS) :=
  f_mayCastle_131 (0 : Int32) I A
def f_mayCastle_82 (x1 : Int32) (x2 : Int32) (x4 : Int32) (t0 : Int32) (I : Nat → Int32) (A : Nat → Nat → Int32) : Option (Int32 × MS) :=
  m_if (x4 = 0) (
  f_mayCastle_130  I A
  ) (
  m_if (t0 = 0) (
  f_mayCastle_130  I A
  ) (
  m_bnd ((1 : Int32) - (I 25)) (fun v1 =>
  m_cl (f_isAttacked x2 v1 I A) (fun r2 Ic2 Ac2 =>
  m_if (r2 = 0) (
  m_bnd (x2 + x1) (fun v3 =>
  m_bnd (v3 / (2 : Int32)) (fun v4 =>
  m_bnd ((1 : Int32) - (Ic2 25)) (fun v5 =>
  m_cl (f_isAttacked v4 v5 Ic2 Ac2) (fun r6 Ic6 Ac6 =>
  m_if (r6 = 0) (
  f_mayCastle_131 (1 : Int32) Ic6 Ac6
  ) (
  f_mayCastle_130  Ic6 Ac6
  )))))
  ) (
  f_mayCastle_130  Ic2 Ac2
  )))
  )
  )
def f_mayCastle_53 (x1 : Int32) (x2 : Int32) (x3 : Int32) (t0 : Int32) (I : Nat → Int32) (A : Nat → Nat → Int32) : Option (Int32 × MS) :=
  m_if (x3 = 0) (
  m_bnd (x2 - (3 : Int32)) (fun v1 =>
  m_bnd (x2 - (1 : Int32)) (fun v2 =>
  m_cl (f_isClear v1 v2 I A) (fun r3 Ic3 Ac3 =>
  f_mayCastle_82 x1 x2 t0 r3 Ic3 Ac3)))
  ) (
  m_bnd (x2 + (1 : Int32)) (fun v4 =>
  m_bnd (x2 + (2 : Int32)) (fun v5 =>
  m_cl (f_isClear v4 v5 I A) (fun r6 Ic6 Ac6 =>
  f_mayCastle_82 x1 x2 t0 r6 Ic6 Ac6)))
  )
def f_mayCastle_40 (x1 : Int32) (x2 : Int32) (x3 : Int32) (t0 : Int32) (t1 : Int32) (t2 : Int32) (I : Nat → Int32) (A : Nat → Nat → Int32) : Option (Int32 × MS) :=
  m_bnd (t1 + t0) (fun v1 =>
  m_bnd (t2 >>> (v1 &&& 31)) (fun v2 =>
  m_bnd (v2 &&& (1 : Int32)) (fun v3 =>
  m_if (v3 = (1 : Int32)) (
  f_mayCastle_53 x1 x2 x3 (1 : Int32) I A
  ) (
  f_mayCastle_53 x1 x2 x3 (0 : Int32) I A
  ))))
def f_mayCastle_20 (x1 : Int32) (x2 : Int32) (t0 : Int32) (I : Nat → Int32) (A : Nat → Nat → Int32) : Option (Int32 × MS) :=
  m_bnd ((2 : Int32) * (I 25)) (fun v1 =>
  m_if (t0 = 0) (
  f_mayCastle_40 x1 x2 t0 (1 : Int32) v1 (I 26) I A
  ) (
  f_mayCastle_40 x1 x2 t0 (0 : Int32) v1 (I 26) I A
  ))
def f_mayCastle_0 (x1 : Int32) (I : Nat → Int32) (A : Nat → Nat → Int32) : Option (Int32 × MS) :=
  m_bnd ((56 : Int32) * (I 25)) (fun v1 =>
  m_bnd ((4 : Int32) + v1) (fun v2 =>
  m_if (x1 ≤ v2) (
  f_mayCastle_20 x1 v2 (0 : Int32) I A
  ) (
  f_mayCastle_20 x1 v2 (1 : Int32) I A
  )))
def f_mayCastle (x1 : Int32) (I : Nat → Int32) (A : Nat → Nat → Int32) : Option (Int32 × MS) := f_mayCastle_0 x1 I A
def f_goes_37 (I : Nat → Int32) (A : Nat → Nat → Int32) : Option (Int32 × MS) :=
  m_chk (vp_nar .boolean (0 : Int32) = (0 : Int32)) (some ((0 : Int32), (I, A)))
def f_goes_315 (t0 : Int32) (I : Nat → Int32) (A : Nat → Nat → Int32) : Option (Int32 × MS) :=
  m_chk (vp_nar .boolean t0 = t0) (some (t0, (I, A)))
def f_goes_304 (x2 : Int32) (x10 : Int32) (I : Nat → Int32) (A : Nat → Nat → Int32) : Option (Int32 × MS) :=
  m_if (x10 = x2) (
  f_goes_315 (1 : Int32) I A
  ) (
  f_goes_315 (0 : Int32) I A
  )
def f_goes_274s (self274 : Int32 → Int32 → Int32 → Int32 → (Nat → Int32) → (Nat → Nat → Int32) → Option (Int32 × MS)) (x2 : Int32) (x8 : Int32) (x9 : Int32) (x10 : Int32) (I : Nat → Int32) (A : Nat → Nat → Int32) : Option (Int32 × MS) :=
  m_if (x10 = x2) (
  f_goes_304 x2 x10 I A
  ) (
  m_chk (¬ (x10 < 0 ∨ 64 ≤ (x10).toNatClampNeg)) (
  m_bnd (A 24 (x10).toNatClampNeg) (fun v1 =>
  m_if (v1 = 0) (
  m_cl (f_step x10 x8 x9 I A) (fun r2 Ic2 Ac2 =>
  self274 x2 x8 x9 r2 Ic2 Ac2)
  ) (
  f_goes_304 x2 x10 I A
  )))
  )
def f_goes_274 : Nat → Int32 → Int32 → Int32 → Int32 → (Nat → Int32) → (Nat → Nat → Int32) → Option (Int32 × MS)
  | 0 => fun _ _ _ _ _ _ => none
  | n + 1 => f_goes_274s (f_goes_274 n)
def f_goes_262 (x1 : Int32) (x2 : Int32) (x8 : Int32) (t0 : Int32) (I : Nat → Int32) (A : Nat → Nat → Int32) : Option (Int32 × MS) :=
  m_cl (f_step x1 x8 t0 I A) (fun r1 Ic1 Ac1 =>
  f_goes_274 mFuel x2 x8 t0 r1 Ic1 Ac1)
def f_goes_241 (x1 : Int32) (x2 : Int32) (x5 : Int32) (t0 : Int32) (I : Nat → Int32) (A : Nat → Nat → Int32) : Option (Int32 × MS) :=
  m_if (x5 ≤ 0) (
  m_if (0 ≤ x5) (
  f_goes_262 x1 x2 t0 (0 : Int32) I A
  ) (
  f_goes_262 x1 x2 t0 (-1 : Int32) I A
  )
  ) (
  f_goes_262 x1 x2 t0 (1 : Int32) I A
  )
def f_goes_222 (x1 : Int32) (x2 : Int32) (x4 : Int32) (x5 : Int32) (I : Nat → Int32) (A : Nat → Nat → Int32) : Option (Int32 × MS) :=
  m_if (x4 ≤ 0) (
  m_if (0 ≤ x4) (
  f_goes_241 x1 x2 x5 (0 : Int32) I A
  ) (
  f_goes_241 x1 x2 x5 (-1 : Int32) I A
  )
  ) (
  f_goes_241 x1 x2 x5 (1 : Int32) I A
  )
def f_goes_220 (I : Nat → Int32) (A : Nat → Nat → Int32) : Option (Int32 × MS) :=
  m_chk (vp_nar .boolean (0 : Int32) = (0 : Int32)) (some ((0 : Int32), (I, A)))
def f_goes_210 (x1 : Int32) (x2 : Int32) (x3 : Int32) (x4 : Int32) (x5 : Int32) (x7 : Int32) (I : Nat → Int32) (A : Nat → Nat → Int32) : Option (Int32 × MS) :=
  m_if (x7 = 0) (
  m_if (x3 = (4 : Int32)) (
  f_goes_220  I A
  ) (
  f_goes_222 x1 x2 x4 x5 I A
  )
  ) (
  f_goes_222 x1 x2 x4 x5 I A
  )
def f_goes_200 (x1 : Int32) (x2 : Int32) (x3 : Int32) (x4 : Int32) (x5 : Int32) (x7 : Int32) (I : Nat → Int32) (A : Nat → Nat → Int32) : Option (Int32 × MS) :=
  m_if (x7 = 0) (
  f_goes_210 x1 x2 x3 x4 x5 x7 I A
  ) (
  m_if (x3 = (3 : Int32)) (
  f_goes_220  I A
  ) (
  f_goes_210 x1 x2 x3 x4 x5 x7 I A
  )
  )
def f_goes_178 (x1 : Int32) (x2 : Int32) (x3 : Int32) (x4 : Int32) (x5 : Int32) (t0 : Int32) (I : Nat → Int32) (A : Nat → Nat → Int32) : Option (Int32 × MS) :=
  m_if (t0 = 0) (
  m_if (x4 = x5) (
  f_goes_200 x1 x2 x3 x4 x5 t0 I A
  ) (
  m_bnd (-x5) (fun v1 =>
  m_if (x4 = v1) (
  f_goes_200 x1 x2 x3 x4 x5 t0 I A
  ) (
  f_goes_220  I A
  ))
  )
  ) (
  f_goes_200 x1 x2 x3 x4 x5 t0 I A
  )
def f_goes_173 (x1 : Int32) (x2 : Int32) (x3 : Int32) (x4 : Int32) (x5 : Int32) (I : Nat → Int32) (A : Nat → Nat → Int32) : Option (Int32 × MS) :=
  f_goes_178 x1 x2 x3 x4 x5 (1 : Int32) I A
def f_goes_162 (t0 : Int32) (I : Nat → Int32) (A : Nat → Nat → Int32) : Option (Int32 × MS) :=
  m_chk (vp_nar .boolean t0 = t0) (some (t0, (I, A)))
def f_goes_157 (I : Nat → Int32) (A : Nat → Nat → Int32) : Option (Int32 × MS) :=
  f_goes_162 (1 : Int32) I A
def f_goes_161 (I : Nat → Int32) (A : Nat → Nat → Int32) : Option (Int32 × MS) :=
  f_goes_162 (0 : Int32) I A
def f_goes_112 (t0 : Int32) (I : Nat → Int32) (A : Nat → Nat → Int32) : Option (Int32 × MS) :=
  m_chk (vp_nar .boolean t0 = t0) (some (t0, (I, A)))
def f_goes_0 (x1 : Int32) (x2 : Int32) (I : Nat → Int32) (A : Nat → Nat → Int32) : Option (Int32 × MS) :=
  m_chk (¬ (x1 < 0 ∨ 64 ≤ (x1).toNatClampNeg)) (
  m_bnd (A 24 (x1).toNatClampNeg) (fun v1 =>
  m_cl (f_sideOf v1 I A) (fun r2 Ic2 Ac2 =>
  m_if (r2 = (Ic2 25)) (
  m_chk (¬ (x2 < 0 ∨ 64 ≤ (x2).toNatClampNeg)) (
  m_bnd (Ac2 24 (x2).toNatClampNeg) (fun v3 =>
  m_cl (f_sideOf v3 Ic2 Ac2) (fun r4 Ic4 Ac4 =>
  m_if (r4 = (Ic4 25)) (
  f_goes_37  Ic4 Ac4
  ) (
  m_if (x1 = x2) (
  f_goes_37  Ic4 Ac4
  ) (
  m_chk (¬ (x1 < 0 ∨ 64 ≤ (x1).toNatClampNeg)) (
  m_bnd (Ac4 24 (x1).toNatClampNeg) (fun v5 =>
  m_cl (f_kind v5 Ic4 Ac4) (fun r6 Ic6 Ac6 =>
  m_if (r6 = (1 : Int32)) (
  m_cl (f_pawnGoes x1 x2 Ic6 Ac6) (fun r19 Ic19 Ac19 =>
  m_chk (vp_nar .boolean r19 = r19) (some (r19, (Ic19, Ac19))))
  ) (
  m_bnd (x2 - x2 / (8 : Int32) * (8 : Int32)) (fun v7 =>
  m_bnd (x1 - x1 / (8 : Int32) * (8 : Int32)) (fun v8 =>
  m_bnd (v7 - v8) (fun v9 =>
  m_bnd (x2 / (8 : Int32)) (fun v10 =>
  m_bnd (x1 / (8 : Int32)) (fun v11 =>
  m_bnd (v10 - v11) (fun v12 =>
  m_bnd (v9 * v9) (fun v13 =>
  m_bnd (v12 * v12) (fun v14 =>
  m_bnd (v13 + v14) (fun v15 =>
  m_if (r6 = (2 : Int32)) (
  m_if (v15 = (5 : Int32)) (
  f_goes_112 (1 : Int32) Ic6 Ac6
  ) (
  f_goes_112 (0 : Int32) Ic6 Ac6
  )
  ) (
  m_if (r6 = (6 : Int32)) (
  m_if (v15 < (3 : Int32)) (
  f_goes_157  Ic6 Ac6
  ) (
  m_bnd ((56 : Int32) * (Ic6 25)) (fun v16 =>
  m_bnd ((4 : Int32) + v16) (fun v17 =>
  m_if (x1 = v17) (
  m_if (v12 = 0) (
  m_if (v15 = (4 : Int32)) (
  m_cl (f_mayCastle x2 Ic6 Ac6) (fun r18 Ic18 Ac18 =>
  m_if (r18 = 0) (
  f_goes_161  Ic18 Ac18
  ) (
  f_goes_157  Ic18 Ac18
  ))
  ) (
  f_goes_161  Ic6 Ac6
  )
  ) (
  f_goes_161  Ic6 Ac6
  )
  ) (
  f_goes_161  Ic6 Ac6
  )))
  )
  ) (
  m_if (v9 = 0) (
  f_goes_173 x1 x2 r6 v9 v12 Ic6 Ac6
  ) (
  m_if (v12 = 0) (
  f_goes_173 x1 x2 r6 v9 v12 Ic6 Ac6
  ) (
  f_goes_178 x1 x2 r6 v9 v12 (0 : Int32) Ic6 Ac6
  )
  )
  )
  ))))))))))
  ))))
  )
  ))))
  ) (
  f_goes_37  Ic2 Ac2
  ))))
def f_goes (x1 : Int32) (x2 : Int32) (I : Nat → Int32) (A : Nat → Nat → Int32) : Option (Int32 × MS) := f_goes_0 x1 x2 I A
def f_keep_2s (self2 : Int32 → (Nat → Int32) → (Nat → Nat → Int32) → Option (Int32 × MS)) (x1 : Int32) (I : Nat → Int32) (A : Nat → Nat → Int32) : Option (Int32 × MS) :=
  m_if ((64 : Int32) ≤ x1) (
  m_chk (¬ ((0 : Int32) < 0 ∨ 5 ≤ ((0 : Int32)).toNatClampNeg)) (
  m_bnd (va_up A 31 (upd (A 31) ((0 : Int32)).toNatClampNeg (I 25))) (fun A1 =>
  m_chk (¬ ((1 : Int32) < 0 ∨ 5 ≤ ((1 : Int32)).toNatClampNeg)) (
  m_bnd (va_up A1 31 (upd (A1 31) ((1 : Int32)).toNatClampNeg (I 26))) (fun A2 =>
  m_chk (¬ ((2 : Int32) < 0 ∨ 5 ≤ ((2 : Int32)).toNatClampNeg)) (
  m_bnd (va_up A2 31 (upd (A2 31) ((2 : Int32)).toNatClampNeg (I 27))) (fun A3 =>
  m_chk (¬ ((3 : Int32) < 0 ∨ 5 ≤ ((3 : Int32)).toNatClampNeg)) (
  m_bnd (va_up A3 31 (upd (A3 31) ((3 : Int32)).toNatClampNeg (I 28))) (fun A4 =>
  m_chk (¬ ((4 : Int32) < 0 ∨ 5 ≤ ((4 : Int32)).toNatClampNeg)) (
  m_bnd (va_up A4 31 (upd (A4 31) ((4 : Int32)).toNatClampNeg (I 29))) (fun A5 =>
  some (0, (I, A5))))))))))))
  ) (
  m_chk (¬ (x1 < 0 ∨ 64 ≤ (x1).toNatClampNeg)) (
  m_bnd (A 24 (x1).toNatClampNeg) (fun v6 =>
  m_chk (¬ (x1 < 0 ∨ 64 ≤ (x1).toNatClampNeg)) (
  m_bnd (va_up A 30 (upd (A 30) (x1).toNatClampNeg v6)) (fun A7 =>
  m_bnd (x1 + (1 : Int32)) (fun v8 =>
  self2 v8 I A7)))))
  )
def f_keep_2 : Nat → Int32 → (Nat → Int32) → (Nat → Nat → Int32) → Option (Int32 × MS)
  | 0 => fun _ _ _ => none
  | n + 1 => f_keep_2s (f_keep_2 n)
def f_keep_0 (I : Nat → Int32) (A : Nat → Nat → Int32) : Option (Int32 × MS) :=
  f_keep_2 mFuel (0 : Int32) I A
def f0_keep (I : Nat → Int32) (A : Nat → Nat → Int32) : Option (Int32 × MS) := f_keep_0  I A
def nA (I : Nat → Int32) (A : Nat → Nat → Int32) : Nat → Nat → Int32 := va_up (va_up A 30 (A 24)) 31 (fun i => if i = 0 then I 25 else if i = 1 then I 26 else if i = 2 then I 27 else if i = 3 then I 28 else I 29)
theorem nA_30 {I : Nat → Int32} {A : Nat → Nat → Int32} : nA I A 30 = A 24 := (va_up_ne _ _ (by decide)).trans (va_up_self _ _ _)
theorem nA_o {I : Nat → Int32} {A : Nat → Nat → Int32} {j : Nat} (h0 : j ≠ 30) (h1 : j ≠ 31) : nA I A j = A j := (va_up_ne _ _ h1).trans (va_up_ne _ _ h0)

def f_keep (I : Nat → Int32) (A : Nat → Nat → Int32) : Option (Int32 × MS) := some (0, (I, nA I A))
def f_kingOf_31 (self4 : Int32 → Int32 → Int32 → (Nat → Int32) → (Nat → Nat → Int32) → Option (Int32 × MS)) (x1 : Int32) (x3 : Int32) (t0 : Int32) (I : Nat → Int32) (A : Nat → Nat → Int32) : Option (Int32 × MS) :=
  m_bnd (x3 + (1 : Int32)) (fun v1 =>
  self4 x1 t0 v1 I A)
def f_kingOf_4s (self4 : Int32 → Int32 → Int32 → (Nat → Int32) → (Nat → Nat → Int32) → Option (Int32 × MS)) (x1 : Int32) (x2 : Int32) (x3 : Int32) (I : Nat → Int32) (A : Nat → Nat → Int32) : Option (Int32 × MS) :=
  m_if ((64 : Int32) ≤ x3) (
  some (x2, (I, A))
  ) (
  m_chk (¬ (x3 < 0 ∨ 64 ≤ (x3).toNatClampNeg)) (
  m_bnd (A 24 (x3).toNatClampNeg) (fun v1 =>
  m_bnd ((8 : Int32) * x1) (fun v2 =>
  m_bnd ((6 : Int32) + v2) (fun v3 =>
  m_if (v1 = v3) (
  f_kingOf_31 self4 x1 x3 x3 I A
  ) (
  f_kingOf_31 self4 x1 x3 x2 I A
  )))))
  )
def f_kingOf_4 : Nat → Int32 → Int32 → Int32 → (Nat → Int32) → (Nat → Nat → Int32) → Option (Int32 × MS)
  | 0 => fun _ _ _ _ _ => none
  | n + 1 => f_kingOf_4s (f_kingOf_4 n)
def f_kingOf_0 (x1 : Int32) (I : Nat → Int32) (A : Nat → Nat → Int32) : Option (Int32 × MS) :=
  f_kingOf_4 mFuel x1 (0 : Int32) (0 : Int32) I A
def f_kingOf (x1 : Int32) (I : Nat → Int32) (A : Nat → Nat → Int32) : Option (Int32 × MS) := f_kingOf_0 x1 I A
def f_isInCheck_0 (x1 : Int32) (I : Nat → Int32) (A : Nat → Nat → Int32) : Option (Int32 × MS) :=
  m_cl (f_kingOf x1 I A) (fun r1 Ic1 Ac1 =>
  m_bnd ((1 : Int32) - x1) (fun v2 =>
  m_cl (f_isAttacked r1 v2 Ic1 Ac1) (fun r3 Ic3 Ac3 =>
  m_chk (vp_nar .boolean r3 = r3) (some (r3, (Ic3, Ac3))))))
def f_isInCheck (x1 : Int32) (I : Nat → Int32) (A : Nat → Nat → Int32) : Option (Int32 × MS) := f_isInCheck_0 x1 I A
def f_bringBack_2s (self2 : Int32 → (Nat → Int32) → (Nat → Nat → Int32) → Option (Int32 × MS)) (x1 : Int32) (I : Nat → Int32) (A : Nat → Nat → Int32) : Option (Int32 × MS) :=
  m_if ((64 : Int32) ≤ x1) (
  m_chk (¬ ((0 : Int32) < 0 ∨ 5 ≤ ((0 : Int32)).toNatClampNeg)) (
  m_bnd (A 31 ((0 : Int32)).toNatClampNeg) (fun v1 =>
  m_bnd (upd I 25 v1) (fun I2 =>
  m_chk (¬ ((1 : Int32) < 0 ∨ 5 ≤ ((1 : Int32)).toNatClampNeg)) (
  m_bnd (A 31 ((1 : Int32)).toNatClampNeg) (fun v3 =>
  m_bnd (upd I2 26 v3) (fun I4 =>
  m_chk (¬ ((2 : Int32) < 0 ∨ 5 ≤ ((2 : Int32)).toNatClampNeg)) (
  m_bnd (A 31 ((2 : Int32)).toNatClampNeg) (fun v5 =>
  m_bnd (upd I4 27 v5) (fun I6 =>
  m_chk (¬ ((3 : Int32) < 0 ∨ 5 ≤ ((3 : Int32)).toNatClampNeg)) (
  m_bnd (A 31 ((3 : Int32)).toNatClampNeg) (fun v7 =>
  m_bnd (upd I6 28 v7) (fun I8 =>
  m_chk (¬ ((4 : Int32) < 0 ∨ 5 ≤ ((4 : Int32)).toNatClampNeg)) (
  m_bnd (A 31 ((4 : Int32)).toNatClampNeg) (fun v9 =>
  m_bnd (upd I8 29 v9) (fun I10 =>
  some (0, (I10, A)))))))))))))))))
  ) (
  m_chk (¬ (x1 < 0 ∨ 64 ≤ (x1).toNatClampNeg)) (
  m_bnd (A 30 (x1).toNatClampNeg) (fun v11 =>
  m_chk (¬ (x1 < 0 ∨ 64 ≤ (x1).toNatClampNeg)) (
  m_bnd (va_up A 24 (upd (A 24) (x1).toNatClampNeg v11)) (fun A12 =>
  m_bnd (x1 + (1 : Int32)) (fun v13 =>
  self2 v13 I A12)))))
  )
def f_bringBack_2 : Nat → Int32 → (Nat → Int32) → (Nat → Nat → Int32) → Option (Int32 × MS)
  | 0 => fun _ _ _ => none
  | n + 1 => f_bringBack_2s (f_bringBack_2 n)
def f_bringBack_0 (I : Nat → Int32) (A : Nat → Nat → Int32) : Option (Int32 × MS) :=
  f_bringBack_2 mFuel (0 : Int32) I A
def f0_bringBack (I : Nat → Int32) (A : Nat → Nat → Int32) : Option (Int32 × MS) := f_bringBack_0  I A
def nB (I : Nat → Int32) (A : Nat → Nat → Int32) : Nat → Int32 := upd (upd (upd (upd (upd I 25 (A 31 0)) 26 (A 31 1)) 27 (A 31 2)) 28 (A 31 3)) 29 (A 31 4)
theorem nB_o {I : Nat → Int32} {A : Nat → Nat → Int32} {k : Nat} (h : k ∉ [25, 26, 27, 28, 29]) : nB I A k = I k := by
  have h1 : k ≠ 25 ∧ k ≠ 26 ∧ k ≠ 27 ∧ k ≠ 28 ∧ k ≠ 29 := by simpa using h
  unfold nB
  rw [upd_ne h1.2.2.2.2, upd_ne h1.2.2.2.1, upd_ne h1.2.2.1, upd_ne h1.2.1, upd_ne h1.1]
def f_bringBack (I : Nat → Int32) (A : Nat → Nat → Int32) : Option (Int32 × MS) := some (0, (nB I A, va_up A 24 (A 30)))
def f_isSafe_27 (t0 : Int32) (I : Nat → Int32) (A : Nat → Nat → Int32) : Option (Int32 × MS) :=
  m_cl (f_bringBack  I A) (fun r1 Ic1 Ac1 =>
  m_chk (vp_nar .boolean t0 = t0) (some (t0, (Ic1, Ac1))))
def f_isSafe_0 (x1 : Int32) (I : Nat → Int32) (A : Nat → Nat → Int32) : Option (Int32 × MS) :=
  m_cl (f_keep  I A) (fun r1 Ic1 Ac1 =>
  m_cl (f_make x1 Ic1 Ac1) (fun r2 Ic2 Ac2 =>
  m_bnd ((1 : Int32) - (Ic2 25)) (fun v3 =>
  m_cl (f_isInCheck v3 Ic2 Ac2) (fun r4 Ic4 Ac4 =>
  m_if (r4 = 0) (
  f_isSafe_27 (1 : Int32) Ic4 Ac4
  ) (
  f_isSafe_27 (0 : Int32) Ic4 Ac4
  )))))
def f0_isSafe (x1 : Int32) (I : Nat → Int32) (A : Nat → Nat → Int32) : Option (Int32 × MS) := f_isSafe_0 x1 I A
def f_isSafe (x1 : Int32) (I : Nat → Int32) (A : Nat → Nat → Int32) : Option (Int32 × MS) := m_cl (f0_isSafe x1 I A) (fun v _ _ => some (v, (I, nA I A)))
def f_findMoves_163 (self7 : Int32 → (Nat → Int32) → (Nat → Nat → Int32) → Option (Int32 × MS)) (x1 : Int32) (I : Nat → Int32) (A : Nat → Nat → Int32) : Option (Int32 × MS) :=
  m_bnd (x1 + (1 : Int32)) (fun v1 =>
  self7 v1 I A)
def f_findMoves_157 (self7 : Int32 → (Nat → Int32) → (Nat → Nat → Int32) → Option (Int32 × MS)) (self15 : Int32 → Int32 → (Nat → Int32) → (Nat → Nat → Int32) → Option (Int32 × MS)) (x1 : Int32) (x2 : Int32) (I : Nat → Int32) (A : Nat → Nat → Int32) : Option (Int32 × MS) :=
  m_bnd (x2 + (1 : Int32)) (fun v1 =>
  self15 x1 v1 I A)
def f_findMoves_116 (self7 : Int32 → (Nat → Int32) → (Nat → Nat → Int32) → Option (Int32 × MS)) (self15 : Int32 → Int32 → (Nat → Int32) → (Nat → Nat → Int32) → Option (Int32 × MS)) (self100 : Int32 → Int32 → Int32 → Int32 → Int32 → (Nat → Int32) → (Nat → Nat → Int32) → Option (Int32 × MS)) (x1 : Int32) (x2 : Int32) (x3 : Int32) (x4 : Int32) (x5 : Int32) (t0 : Int32) (t1 : Int32) (I : Nat → Int32) (A : Nat → Nat → Int32) : Option (Int32 × MS) :=
  m_if (t0 < t1) (
  f_findMoves_157 self7 self15 x1 x2 I A
  ) (
  m_bnd ((64 : Int32) * x2) (fun v1 =>
  m_bnd (x1 + v1) (fun v2 =>
  m_bnd ((4096 : Int32) * x5) (fun v3 =>
  m_bnd (v2 + v3) (fun v4 =>
  m_chk (¬ ((I 33) < 0 ∨ 2048 ≤ ((I 33)).toNatClampNeg)) (
  m_bnd (va_up A 32 (upd (A 32) ((I 33)).toNatClampNeg v4)) (fun A5 =>
  m_bnd ((I 33) + (1 : Int32)) (fun v6 =>
  m_bnd (upd I 33 v6) (fun I7 =>
  m_bnd (x5 + (1 : Int32)) (fun v8 =>
  self100 x1 x2 x3 x4 v8 I7 A5)))))))))
  )
def f_findMoves_100s (self7 : Int32 → (Nat → Int32) → (Nat → Nat → Int32) → Option (Int32 × MS)) (self15 : Int32 → Int32 → (Nat → Int32) → (Nat → Nat → Int32) → Option (Int32 × MS)) (self100 : Int32 → Int32 → Int32 → Int32 → Int32 → (Nat → Int32) → (Nat → Nat → Int32) → Option (Int32 × MS)) (x1 : Int32) (x2 : Int32) (x3 : Int32) (x4 : Int32) (x5 : Int32) (I : Nat → Int32) (A : Nat → Nat → Int32) : Option (Int32 × MS) :=
  m_if (x4 = 0) (
  f_findMoves_157 self7 self15 x1 x2 I A
  ) (
  m_if (x3 = 0) (
  f_findMoves_116 self7 self15 self100 x1 x2 x3 x4 x5 (0 : Int32) x5 I A
  ) (
  f_findMoves_116 self7 self15 self100 x1 x2 x3 x4 x5 (5 : Int32) x5 I A
  )
  )
def f_findMoves_100 (self7 : Int32 → (Nat → Int32) → (Nat → Nat → Int32) → Option (Int32 × MS)) (self15 : Int32 → Int32 → (Nat → Int32) → (Nat → Nat → Int32) → Option (Int32 × MS)) : Nat → Int32 → Int32 → Int32 → Int32 → Int32 → (Nat → Int32) → (Nat → Nat → Int32) → Option (Int32 × MS)
  | 0 => fun _ _ _ _ _ _ _ => none
  | n + 1 => f_findMoves_100s self7 self15 (f_findMoves_100 self7 self15 n)
def f_findMoves_98 (self7 : Int32 → (Nat → Int32) → (Nat → Nat → Int32) → Option (Int32 × MS)) (self15 : Int32 → Int32 → (Nat → Int32) → (Nat → Nat → Int32) → Option (Int32 × MS)) (x1 : Int32) (x2 : Int32) (x3 : Int32) (x4 : Int32) (t0 : Int32) (I : Nat → Int32) (A : Nat → Nat → Int32) : Option (Int32 × MS) :=
  f_findMoves_100 self7 self15 mFuel x1 x2 x3 x4 t0 I A
def f_findMoves_76 (self7 : Int32 → (Nat → Int32) → (Nat → Nat → Int32) → Option (Int32 × MS)) (self15 : Int32 → Int32 → (Nat → Int32) → (Nat → Nat → Int32) → Option (Int32 × MS)) (x1 : Int32) (x2 : Int32) (t0 : Int32) (I : Nat → Int32) (A : Nat → Nat → Int32) : Option (Int32 × MS) :=
  m_bnd ((64 : Int32) * x2) (fun v1 =>
  m_bnd (x1 + v1) (fun v2 =>
  m_cl (f_isSafe v2 I A) (fun r3 Ic3 Ac3 =>
  m_if (t0 = 0) (
  f_findMoves_98 self7 self15 x1 x2 t0 r3 (0 : Int32) Ic3 Ac3
  ) (
  f_findMoves_98 self7 self15 x1 x2 t0 r3 (2 : Int32) Ic3 Ac3
  ))))
def f_findMoves_75 (self7 : Int32 → (Nat → Int32) → (Nat → Nat → Int32) → Option (Int32 × MS)) (self15 : Int32 → Int32 → (Nat → Int32) → (Nat → Nat → Int32) → Option (Int32 × MS)) (x1 : Int32) (x2 : Int32) (I : Nat → Int32) (A : Nat → Nat → Int32) : Option (Int32 × MS) :=
  f_findMoves_76 self7 self15 x1 x2 (0 : Int32) I A
def f_findMoves_71 (self7 : Int32 → (Nat → Int32) → (Nat → Nat → Int32) → Option (Int32 × MS)) (self15 : Int32 → Int32 → (Nat → Int32) → (Nat → Nat → Int32) → Option (Int32 × MS)) (x1 : Int32) (x2 : Int32) (I : Nat → Int32) (A : Nat → Nat → Int32) : Option (Int32 × MS) :=
  f_findMoves_76 self7 self15 x1 x2 (1 : Int32) I A
def f_findMoves_15s (self7 : Int32 → (Nat → Int32) → (Nat → Nat → Int32) → Option (Int32 × MS)) (self15 : Int32 → Int32 → (Nat → Int32) → (Nat → Nat → Int32) → Option (Int32 × MS)) (x1 : Int32) (x2 : Int32) (I : Nat → Int32) (A : Nat → Nat → Int32) : Option (Int32 × MS) :=
  m_if ((64 : Int32) ≤ x2) (
  f_findMoves_163 self7 x1 I A
  ) (
  m_chk (¬ (x1 < 0 ∨ 64 ≤ (x1).toNatClampNeg)) (
  m_bnd (A 24 (x1).toNatClampNeg) (fun v1 =>
  m_cl (f_sideOf v1 I A) (fun r2 Ic2 Ac2 =>
  m_if (r2 = (Ic2 25)) (
  m_cl (f_goes x1 x2 Ic2 Ac2) (fun r3 Ic3 Ac3 =>
  m_if (r3 = 0) (
  f_findMoves_157 self7 self15 x1 x2 Ic3 Ac3
  ) (
  m_chk (¬ (x1 < 0 ∨ 64 ≤ (x1).toNatClampNeg)) (
  m_bnd (Ac3 24 (x1).toNatClampNeg) (fun v4 =>
  m_cl (f_kind v4 Ic3 Ac3) (fun r5 Ic5 Ac5 =>
  m_if (r5 = (1 : Int32)) (
  m_if (x2 < (8 : Int32)) (
  f_findMoves_71 self7 self15 x1 x2 Ic5 Ac5
  ) (
  m_if (x2 ≤ (55 : Int32)) (
  f_findMoves_75 self7 self15 x1 x2 Ic5 Ac5
  ) (
  f_findMoves_71 self7 self15 x1 x2 Ic5 Ac5
  )
  )
  ) (
  f_findMoves_75 self7 self15 x1 x2 Ic5 Ac5
  ))))
  ))
  ) (
  f_findMoves_163 self7 x1 Ic2 Ac2
  ))))
  )
def f_findMoves_15 (self7 : Int32 → (Nat → Int32) → (Nat → Nat → Int32) → Option (Int32 × MS)) : Nat → Int32 → Int32 → (Nat → Int32) → (Nat → Nat → Int32) → Option (Int32 × MS)
  | 0 => fun _ _ _ _ => none
  | n + 1 => f_findMoves_15s self7 (f_findMoves_15 self7 n)
def f_findMoves_7s (self7 : Int32 → (Nat → Int32) → (Nat → Nat → Int32) → Option (Int32 × MS)) (x1 : Int32) (I : Nat → Int32) (A : Nat → Nat → Int32) : Option (Int32 × MS) :=
  m_if ((64 : Int32) ≤ x1) (
  some (0, (I, A))
  ) (
  f_findMoves_15 self7 mFuel x1 (0 : Int32) I A
  )
def f_findMoves_7 : Nat → Int32 → (Nat → Int32) → (Nat → Nat → Int32) → Option (Int32 × MS)
  | 0 => fun _ _ _ => none
  | n + 1 => f_findMoves_7s (f_findMoves_7 n)
def f_findMoves_0 (I : Nat → Int32) (A : Nat → Nat → Int32) : Option (Int32 × MS) :=
  m_bnd (upd I 33 (0 : Int32)) (fun I1 =>
  f_findMoves_7 mFuel (0 : Int32) I1 A)
def f_findMoves (I : Nat → Int32) (A : Nat → Nat → Int32) : Option (Int32 × MS) := f_findMoves_0  I A
def f_place_147s (self147 : Int32 → Int32 → (Nat → Int32) → (Nat → Nat → Int32) → Option (Int32 × MS)) (x1 : Int32) (x4 : Int32) (I : Nat → Int32) (A : Nat → Nat → Int32) : Option (Int32 × MS) :=
  m_if (x4 < 0) (
  m_cl (f_findMoves  I A) (fun r1 Ic1 Ac1 =>
  some (0, (Ic1, Ac1)))
  ) (
  m_bnd ((301 : Int32) * x1) (fun v2 =>
  m_chk (¬ (x4 < 0 ∨ 301 ≤ (x4).toNatClampNeg)) (
  m_bnd (A 34 (x4).toNatClampNeg) (fun v3 =>
  m_bnd (v2 + v3) (fun v4 =>
  m_chk (¬ (v4 < 0 ∨ 602 ≤ (v4).toNatClampNeg)) (
  m_bnd (A 9 (v4).toNatClampNeg) (fun v5 =>
  m_cl (f_make v5 I A) (fun r6 Ic6 Ac6 =>
  m_bnd (x4 + (-1 : Int32)) (fun v7 =>
  self147 x1 v7 Ic6 Ac6))))))))
  )
def f_place_147 : Nat → Int32 → Int32 → (Nat → Int32) → (Nat → Nat → Int32) → Option (Int32 × MS)
  | 0 => fun _ _ _ _ => none
  | n + 1 => f_place_147s (f_place_147 n)
def f_place_42s (self42 : Int32 → Int32 → Int32 → (Nat → Int32) → (Nat → Nat → Int32) → Option (Int32 × MS)) (x1 : Int32) (x3 : Int32) (x4 : Int32) (I : Nat → Int32) (A : Nat → Nat → Int32) : Option (Int32 × MS) :=
  m_if ((64 : Int32) ≤ x4) (
  m_bnd ((5 : Int32) * x1) (fun v1 =>
  m_chk (¬ (v1 < 0 ∨ 10 ≤ (v1).toNatClampNeg)) (
  m_bnd (A 17 (v1).toNatClampNeg) (fun v2 =>
  m_bnd (upd I 25 v2) (fun I3 =>
  m_bnd ((5 : Int32) * x1) (fun v4 =>
  m_bnd (v4 + (1 : Int32)) (fun v5 =>
  m_chk (¬ (v5 < 0 ∨ 10 ≤ (v5).toNatClampNeg)) (
  m_bnd (A 17 (v5).toNatClampNeg) (fun v6 =>
  m_bnd (upd I3 26 v6) (fun I7 =>
  m_bnd ((5 : Int32) * x1) (fun v8 =>
  m_bnd (v8 + (2 : Int32)) (fun v9 =>
  m_chk (¬ (v9 < 0 ∨ 10 ≤ (v9).toNatClampNeg)) (
  m_bnd (A 17 (v9).toNatClampNeg) (fun v10 =>
  m_bnd (upd I7 27 v10) (fun I11 =>
  m_bnd ((5 : Int32) * x1) (fun v12 =>
  m_bnd (v12 + (3 : Int32)) (fun v13 =>
  m_chk (¬ (v13 < 0 ∨ 10 ≤ (v13).toNatClampNeg)) (
  m_bnd (A 17 (v13).toNatClampNeg) (fun v14 =>
  m_bnd (upd I11 28 v14) (fun I15 =>
  m_bnd ((5 : Int32) * x1) (fun v16 =>
  m_bnd (v16 + (4 : Int32)) (fun v17 =>
  m_chk (¬ (v17 < 0 ∨ 10 ≤ (v17).toNatClampNeg)) (
  m_bnd (A 17 (v17).toNatClampNeg) (fun v18 =>
  m_bnd (upd I15 29 v18) (fun I19 =>
  m_bnd (x3 - (1 : Int32)) (fun v20 =>
  f_place_147 mFuel x1 v20 I19 A)))))))))))))))))))))))))
  ) (
  m_bnd ((64 : Int32) * x1) (fun v21 =>
  m_bnd (v21 + x4) (fun v22 =>
  m_chk (¬ (v22 < 0 ∨ 128 ≤ (v22).toNatClampNeg)) (
  m_bnd (A 16 (v22).toNatClampNeg) (fun v23 =>
  m_chk (¬ (x4 < 0 ∨ 64 ≤ (x4).toNatClampNeg)) (
  m_bnd (va_up A 24 (upd (A 24) (x4).toNatClampNeg v23)) (fun A24 =>
  m_bnd (x4 + (1 : Int32)) (fun v25 =>
  self42 x1 x3 v25 I A24)))))))
  )
def f_place_42 : Nat → Int32 → Int32 → Int32 → (Nat → Int32) → (Nat → Nat → Int32) → Option (Int32 × MS)
  | 0 => fun _ _ _ _ _ => none
  | n + 1 => f_place_42s (f_place_42 n)
def f_place_5s (self5 : Int32 → Int32 → Int32 → (Nat → Int32) → (Nat → Nat → Int32) → Option (Int32 × MS)) (x1 : Int32) (x3 : Int32) (x4 : Int32) (I : Nat → Int32) (A : Nat → Nat → Int32) : Option (Int32 × MS) :=
  m_if (x4 ≤ 0) (
  f_place_42 mFuel x1 x3 (0 : Int32) I A
  ) (
  m_chk (¬ (x3 < 0 ∨ 301 ≤ (x3).toNatClampNeg)) (
  m_bnd (va_up A 34 (upd (A 34) (x3).toNatClampNeg x4)) (fun A1 =>
  m_bnd (x3 + (1 : Int32)) (fun v2 =>
  m_bnd ((301 : Int32) * x1) (fun v3 =>
  m_bnd (v3 + x4) (fun v4 =>
  m_chk (¬ (v4 < 0 ∨ 602 ≤ (v4).toNatClampNeg)) (
  m_bnd (A1 8 (v4).toNatClampNeg) (fun v5 =>
  self5 x1 v2 v5 I A1)))))))
  )
def f_place_5 : Nat → Int32 → Int32 → Int32 → (Nat → Int32) → (Nat → Nat → Int32) → Option (Int32 × MS)
  | 0 => fun _ _ _ _ _ => none
  | n + 1 => f_place_5s (f_place_5 n)
def f_place_0 (x1 : Int32) (x2 : Int32) (I : Nat → Int32) (A : Nat → Nat → Int32) : Option (Int32 × MS) :=
  f_place_5 mFuel x1 (0 : Int32) x2 I A
def f_place (x1 : Int32) (x2 : Int32) (I : Nat → Int32) (A : Nat → Nat → Int32) : Option (Int32 × MS) := f_place_0 x1 x2 I A
def f_thrown_0 (I : Nat → Int32) (A : Nat → Nat → Int32) : Option (Int32 × MS) :=
  some ((I 0), (I, A))
def f_thrown (I : Nat → Int32) (A : Nat → Nat → Int32) : Option (Int32 × MS) := f_thrown_0  I A
def f_childWith_54 (x4 : Int32) (I : Nat → Int32) (A : Nat → Nat → Int32) : Option (Int32 × MS) :=
  some (x4, (I, A))
def f_childWith_14s (self14 : Int32 → Int32 → Int32 → (Nat → Int32) → (Nat → Nat → Int32) → Option (Int32 × MS)) (x1 : Int32) (x3 : Int32) (x4 : Int32) (I : Nat → Int32) (A : Nat → Nat → Int32) : Option (Int32 × MS) :=
  m_if (x4 < 0) (
  f_childWith_54 x4 I A
  ) (
  m_bnd ((301 : Int32) * x1) (fun v1 =>
  m_bnd (v1 + x4) (fun v2 =>
  m_chk (¬ (v2 < 0 ∨ 602 ≤ (v2).toNatClampNeg)) (
  m_bnd (A 9 (v2).toNatClampNeg) (fun v3 =>
  m_if (v3 = x3) (
  f_childWith_54 x4 I A
  ) (
  m_bnd ((301 : Int32) * x1) (fun v4 =>
  m_bnd (v4 + x4) (fun v5 =>
  m_chk (¬ (v5 < 0 ∨ 602 ≤ (v5).toNatClampNeg)) (
  m_bnd (A 11 (v5).toNatClampNeg) (fun v6 =>
  self14 x1 x3 v6 I A))))
  )))))
  )
def f_childWith_14 : Nat → Int32 → Int32 → Int32 → (Nat → Int32) → (Nat → Nat → Int32) → Option (Int32 × MS)
  | 0 => fun _ _ _ _ _ => none
  | n + 1 => f_childWith_14s (f_childWith_14 n)
def f_childWith_0 (x1 : Int32) (x2 : Int32) (x3 : Int32) (I : Nat → Int32) (A : Nat → Nat → Int32) : Option (Int32 × MS) :=
  m_bnd ((301 : Int32) * x1) (fun v1 =>
  m_bnd (v1 + x2) (fun v2 =>
  m_chk (¬ (v2 < 0 ∨ 602 ≤ (v2).toNatClampNeg)) (
  m_bnd (A 10 (v2).toNatClampNeg) (fun v3 =>
  f_childWith_14 mFuel x1 x3 v3 I A))))
def f_childWith (x1 : Int32) (x2 : Int32) (x3 : Int32) (I : Nat → Int32) (A : Nat → Nat → Int32) : Option (Int32 × MS) := f_childWith_0 x1 x2 x3 I A
def f_append_143 (x4 : Int32) (I : Nat → Int32) (A : Nat → Nat → Int32) : Option (Int32 × MS) :=
  some (x4, (I, A))
def f_append_94s (self94 : Int32 → Int32 → Int32 → (Nat → Int32) → (Nat → Nat → Int32) → Option (Int32 × MS)) (x1 : Int32) (x4 : Int32) (x5 : Int32) (I : Nat → Int32) (A : Nat → Nat → Int32) : Option (Int32 × MS) :=
  m_bnd ((301 : Int32) * x1) (fun v1 =>
  m_bnd (v1 + x5) (fun v2 =>
  m_chk (¬ (v2 < 0 ∨ 602 ≤ (v2).toNatClampNeg)) (
  m_bnd (A 11 (v2).toNatClampNeg) (fun v3 =>
  m_if (v3 < 0) (
  m_bnd ((301 : Int32) * x1) (fun v4 =>
  m_bnd (v4 + x5) (fun v5 =>
  m_chk (¬ (v5 < 0 ∨ 602 ≤ (v5).toNatClampNeg)) (
  m_bnd (va_up A 11 (upd (A 11) (v5).toNatClampNeg x4)) (fun A6 =>
  f_append_143 x4 I A6))))
  ) (
  m_bnd ((301 : Int32) * x1) (fun v7 =>
  m_bnd (v7 + x5) (fun v8 =>
  m_chk (¬ (v8 < 0 ∨ 602 ≤ (v8).toNatClampNeg)) (
  m_bnd (A 11 (v8).toNatClampNeg) (fun v9 =>
  self94 x1 x4 v9 I A))))
  )))))
def f_append_94 : Nat → Int32 → Int32 → Int32 → (Nat → Int32) → (Nat → Nat → Int32) → Option (Int32 × MS)
  | 0 => fun _ _ _ _ _ => none
  | n + 1 => f_append_94s (f_append_94 n)
def f_append_0 (x1 : Int32) (x2 : Int32) (x3 : Int32) (I : Nat → Int32) (A : Nat → Nat → Int32) : Option (Int32 × MS) :=
  m_chk (¬ (x1 < 0 ∨ 2 ≤ (x1).toNatClampNeg)) (
  m_bnd (A 7 (x1).toNatClampNeg) (fun v1 =>
  m_bnd (v1 + (1 : Int32)) (fun v2 =>
  m_chk (¬ (x1 < 0 ∨ 2 ≤ (x1).toNatClampNeg)) (
  m_bnd (va_up A 7 (upd (A 7) (x1).toNatClampNeg v2)) (fun A3 =>
  m_chk (¬ (x1 < 0 ∨ 2 ≤ (x1).toNatClampNeg)) (
  m_bnd (A3 7 (x1).toNatClampNeg) (fun v4 =>
  m_bnd ((301 : Int32) * x1) (fun v5 =>
  m_bnd (v5 + v4) (fun v6 =>
  m_cl (f_clearNode v6 I A3) (fun r7 Ic7 Ac7 =>
  m_bnd ((301 : Int32) * x1) (fun v8 =>
  m_bnd (v8 + v4) (fun v9 =>
  m_chk (¬ (v9 < 0 ∨ 602 ≤ (v9).toNatClampNeg)) (
  m_bnd (va_up Ac7 8 (upd (Ac7 8) (v9).toNatClampNeg x2)) (fun A10 =>
  m_bnd ((301 : Int32) * x1) (fun v11 =>
  m_bnd (v11 + v4) (fun v12 =>
  m_chk (¬ (v12 < 0 ∨ 602 ≤ (v12).toNatClampNeg)) (
  m_bnd (va_up A10 9 (upd (A10 9) (v12).toNatClampNeg x3)) (fun A13 =>
  m_bnd ((301 : Int32) * x1) (fun v14 =>
  m_bnd (v14 + x2) (fun v15 =>
  m_chk (¬ (v15 < 0 ∨ 602 ≤ (v15).toNatClampNeg)) (
  m_bnd (A13 10 (v15).toNatClampNeg) (fun v16 =>
  m_if (0 ≤ v16) (
  f_append_94 mFuel x1 v4 v16 Ic7 A13
  ) (
  m_bnd ((301 : Int32) * x1) (fun v17 =>
  m_bnd (v17 + x2) (fun v18 =>
  m_chk (¬ (v18 < 0 ∨ 602 ≤ (v18).toNatClampNeg)) (
  m_bnd (va_up A13 10 (upd (A13 10) (v18).toNatClampNeg v4)) (fun A19 =>
  f_append_143 v4 Ic7 A19))))
  )))))))))))))))))))))))
def f_append (x1 : Int32) (x2 : Int32) (x3 : Int32) (I : Nat → Int32) (A : Nat → Nat → Int32) : Option (Int32 × MS) := f_append_0 x1 x2 x3 I A
def f_isFirst_32 (t0 : Int32) (I : Nat → Int32) (A : Nat → Nat → Int32) : Option (Int32 × MS) :=
  m_chk (vp_nar .boolean t0 = t0) (some (t0, (I, A)))
def f_isFirst_0 (x1 : Int32) (x2 : Int32) (I : Nat → Int32) (A : Nat → Nat → Int32) : Option (Int32 × MS) :=
  m_bnd ((301 : Int32) * x1) (fun v1 =>
  m_bnd ((301 : Int32) * x1) (fun v2 =>
  m_bnd (v2 + x2) (fun v3 =>
  m_chk (¬ (v3 < 0 ∨ 602 ≤ (v3).toNatClampNeg)) (
  m_bnd (A 8 (v3).toNatClampNeg) (fun v4 =>
  m_bnd (v1 + v4) (fun v5 =>
  m_chk (¬ (v5 < 0 ∨ 602 ≤ (v5).toNatClampNeg)) (
  m_bnd (A 10 (v5).toNatClampNeg) (fun v6 =>
  m_if (v6 = x2) (
  f_isFirst_32 (1 : Int32) I A
  ) (
  f_isFirst_32 (0 : Int32) I A
  )))))))))
def f_isFirst (x1 : Int32) (x2 : Int32) (I : Nat → Int32) (A : Nat → Nat → Int32) : Option (Int32 × MS) := f_isFirst_0 x1 x2 I A
def f_deepOf_27 (self5 : Int32 → Int32 → Int32 → (Nat → Int32) → (Nat → Nat → Int32) → Option (Int32 × MS)) (x1 : Int32) (x4 : Int32) (t0 : Int32) (I : Nat → Int32) (A : Nat → Nat → Int32) : Option (Int32 × MS) :=
  m_bnd ((301 : Int32) * x1) (fun v1 =>
  m_bnd (v1 + x4) (fun v2 =>
  m_chk (¬ (v2 < 0 ∨ 602 ≤ (v2).toNatClampNeg)) (
  m_bnd (A 8 (v2).toNatClampNeg) (fun v3 =>
  self5 x1 t0 v3 I A))))
def f_deepOf_5s (self5 : Int32 → Int32 → Int32 → (Nat → Int32) → (Nat → Nat → Int32) → Option (Int32 × MS)) (x1 : Int32) (x3 : Int32) (x4 : Int32) (I : Nat → Int32) (A : Nat → Nat → Int32) : Option (Int32 × MS) :=
  m_if (x4 ≤ 0) (
  some (x3, (I, A))
  ) (
  m_cl (f_isFirst x1 x4 I A) (fun r1 Ic1 Ac1 =>
  m_if (r1 = 0) (
  m_bnd (x3 + (1 : Int32)) (fun v2 =>
  f_deepOf_27 self5 x1 x4 v2 Ic1 Ac1)
  ) (
  f_deepOf_27 self5 x1 x4 x3 Ic1 Ac1
  ))
  )
def f_deepOf_5 : Nat → Int32 → Int32 → Int32 → (Nat → Int32) → (Nat → Nat → Int32) → Option (Int32 × MS)
  | 0 => fun _ _ _ _ _ => none
  | n + 1 => f_deepOf_5s (f_deepOf_5 n)
def f_deepOf_0 (x1 : Int32) (x2 : Int32) (I : Nat → Int32) (A : Nat → Nat → Int32) : Option (Int32 × MS) :=
  f_deepOf_5 mFuel x1 (0 : Int32) x2 I A
def f_deepOf (x1 : Int32) (x2 : Int32) (I : Nat → Int32) (A : Nat → Nat → Int32) : Option (Int32 × MS) := f_deepOf_0 x1 x2 I A
def f_spell_0 (x1 : Int32) (I : Nat → Int32) (A : Nat → Nat → Int32) : Option (Int32 × MS) :=
  m_chk (¬ ((I 36) < 0 ∨ 16 ≤ ((I 36)).toNatClampNeg)) (
  m_bnd (va_up A 35 (upd (A 35) ((I 36)).toNatClampNeg (vp_nar .char x1))) (fun A1 =>
  m_bnd ((I 36) + (1 : Int32)) (fun v2 =>
  m_bnd (upd I 36 v2) (fun I3 =>
  some (0, (I3, A1))))))
def f_spell (x1 : Int32) (I : Nat → Int32) (A : Nat → Nat → Int32) : Option (Int32 × MS) := f_spell_0 x1 I A
def f_spellSquare_0 (x1 : Int32) (I : Nat → Int32) (A : Nat → Nat → Int32) : Option (Int32 × MS) :=
  m_bnd (x1 - x1 / (8 : Int32) * (8 : Int32)) (fun v1 =>
  m_bnd ((97 : Int32) + v1) (fun v2 =>
  m_bnd ((v2.toUInt32 % 65536).toInt32) (fun v3 =>
  m_cl (f_spell v3 I A) (fun r4 Ic4 Ac4 =>
  m_bnd (x1 / (8 : Int32)) (fun v5 =>
  m_bnd ((49 : Int32) + v5) (fun v6 =>
  m_bnd ((v6.toUInt32 % 65536).toInt32) (fun v7 =>
  m_cl (f_spell v7 Ic4 Ac4) (fun r8 Ic8 Ac8 =>
  some (0, (Ic8, Ac8))))))))))
def f_spellSquare (x1 : Int32) (I : Nat → Int32) (A : Nat → Nat → Int32) : Option (Int32 × MS) := f_spellSquare_0 x1 I A
def f_letter_42 (t0 : Int32) (I : Nat → Int32) (A : Nat → Nat → Int32) : Option (Int32 × MS) :=
  m_chk (vp_nar .char t0 = t0) (some (t0, (I, A)))
def f_letter_0 (x0 : Int32) (I : Nat → Int32) (A : Nat → Nat → Int32) : Option (Int32 × MS) :=
  m_if (x0 = (2 : Int32)) (
  f_letter_42 (78 : Int32) I A
  ) (
  m_if (x0 = (3 : Int32)) (
  f_letter_42 (66 : Int32) I A
  ) (
  m_if (x0 = (4 : Int32)) (
  f_letter_42 (82 : Int32) I A
  ) (
  m_if (x0 = (5 : Int32)) (
  f_letter_42 (81 : Int32) I A
  ) (
  f_letter_42 (75 : Int32) I A
  )
  )
  )
  )
def f_letter (x0 : Int32) (I : Nat → Int32) (A : Nat → Nat → Int32) : Option (Int32 × MS) := f_letter_0 x0 I A
def f_isCastling_46 (t0 : Int32) (I : Nat → Int32) (A : Nat → Nat → Int32) : Option (Int32 × MS) :=
  m_chk (vp_nar .boolean t0 = t0) (some (t0, (I, A)))
def f_isCastling_45 (I : Nat → Int32) (A : Nat → Nat → Int32) : Option (Int32 × MS) :=
  f_isCastling_46 (0 : Int32) I A
def f_isCastling_41 (I : Nat → Int32) (A : Nat → Nat → Int32) : Option (Int32 × MS) :=
  f_isCastling_46 (1 : Int32) I A
def f_isCastling_0 (x1 : Int32) (I : Nat → Int32) (A : Nat → Nat → Int32) : Option (Int32 × MS) :=
  m_bnd (x1 - x1 / (64 : Int32) * (64 : Int32)) (fun v1 =>
  m_bnd (x1 / (64 : Int32)) (fun v2 =>
  m_bnd (v2 - v2 / (64 : Int32) * (64 : Int32)) (fun v3 =>
  m_chk (¬ (v1 < 0 ∨ 64 ≤ (v1).toNatClampNeg)) (
  m_bnd (A 24 (v1).toNatClampNeg) (fun v4 =>
  m_cl (f_kind v4 I A) (fun r5 Ic5 Ac5 =>
  m_if (r5 = (6 : Int32)) (
  m_bnd (v1 + (2 : Int32)) (fun v6 =>
  m_if (v3 = v6) (
  f_isCastling_41  Ic5 Ac5
  ) (
  m_bnd (v1 - (2 : Int32)) (fun v7 =>
  m_if (v3 = v7) (
  f_isCastling_41  Ic5 Ac5
  ) (
  f_isCastling_45  Ic5 Ac5
  ))
  ))
  ) (
  f_isCastling_45  Ic5 Ac5
  )))))))
def f_isCastling (x1 : Int32) (I : Nat → Int32) (A : Nat → Nat → Int32) : Option (Int32 × MS) := f_isCastling_0 x1 I A
def f_spellMove_184 (I : Nat → Int32) (A : Nat → Nat → Int32) : Option (Int32 × MS) :=
  some (0, (I, A))
def f_spellMove_158 (x5 : Int32) (x6 : Int32) (I : Nat → Int32) (A : Nat → Nat → Int32) : Option (Int32 × MS) :=
  m_cl (f_spellSquare x5 I A) (fun r1 Ic1 Ac1 =>
  m_if (x6 ≤ 0) (
  f_spellMove_184  Ic1 Ac1
  ) (
  m_cl (f_spell (61 : Int32) Ic1 Ac1) (fun r2 Ic2 Ac2 =>
  m_cl (f_letter x6 Ic2 Ac2) (fun r3 Ic3 Ac3 =>
  m_cl (f_spell r3 Ic3 Ac3) (fun r4 Ic4 Ac4 =>
  f_spellMove_184  Ic4 Ac4)))
  ))
def f_spellMove_148 (x3 : Int32) (x5 : Int32) (x6 : Int32) (I : Nat → Int32) (A : Nat → Nat → Int32) : Option (Int32 × MS) :=
  m_if (x3 = 0) (
  f_spellMove_158 x5 x6 I A
  ) (
  m_cl (f_spell (120 : Int32) I A) (fun r1 Ic1 Ac1 =>
  f_spellMove_158 x5 x6 Ic1 Ac1)
  )
def f_spellMove_130 (x2 : Int32) (x3 : Int32) (x4 : Int32) (x5 : Int32) (x6 : Int32) (I : Nat → Int32) (A : Nat → Nat → Int32) : Option (Int32 × MS) :=
  m_if (x2 ≤ (1 : Int32)) (
  f_spellMove_148 x3 x5 x6 I A
  ) (
  m_bnd (x4 / (8 : Int32)) (fun v1 =>
  m_bnd ((49 : Int32) + v1) (fun v2 =>
  m_bnd ((v2.toUInt32 % 65536).toInt32) (fun v3 =>
  m_cl (f_spell v3 I A) (fun r4 Ic4 Ac4 =>
  f_spellMove_148 x3 x5 x6 Ic4 Ac4))))
  )
def f_spellMove_110 (x2 : Int32) (x3 : Int32) (x4 : Int32) (x5 : Int32) (x6 : Int32) (I : Nat → Int32) (A : Nat → Nat → Int32) : Option (Int32 × MS) :=
  m_bnd (x2 - x2 / (2 : Int32) * (2 : Int32)) (fun v1 =>
  m_if (v1 = (1 : Int32)) (
  m_bnd (x4 - x4 / (8 : Int32) * (8 : Int32)) (fun v2 =>
  m_bnd ((97 : Int32) + v2) (fun v3 =>
  m_bnd ((v3.toUInt32 % 65536).toInt32) (fun v4 =>
  m_cl (f_spell v4 I A) (fun r5 Ic5 Ac5 =>
  f_spellMove_130 x2 x3 x4 x5 x6 Ic5 Ac5))))
  ) (
  f_spellMove_130 x2 x3 x4 x5 x6 I A
  ))
def f_spellMove_66 (self38 : Int32 → Int32 → Int32 → (Nat → Int32) → (Nat → Nat → Int32) → Option (Int32 × MS)) (x4 : Int32) (x5 : Int32) (x7 : Int32) (I : Nat → Int32) (A : Nat → Nat → Int32) : Option (Int32 × MS) :=
  m_cl (f_spell (79 : Int32) I A) (fun r1 Ic1 Ac1 =>
  m_bnd (x7 + (1 : Int32)) (fun v2 =>
  self38 x4 x5 v2 Ic1 Ac1))
def f_spellMove_52 (self38 : Int32 → Int32 → Int32 → (Nat → Int32) → (Nat → Nat → Int32) → Option (Int32 × MS)) (x4 : Int32) (x5 : Int32) (x7 : Int32) (t0 : Int32) (t1 : Int32) (I : Nat → Int32) (A : Nat → Nat → Int32) : Option (Int32 × MS) :=
  m_if (t0 ≤ t1) (
  some (0, (I, A))
  ) (
  m_if (x7 ≤ 0) (
  f_spellMove_66 self38 x4 x5 x7 I A
  ) (
  m_cl (f_spell (45 : Int32) I A) (fun r1 Ic1 Ac1 =>
  f_spellMove_66 self38 x4 x5 x7 Ic1 Ac1)
  )
  )
def f_spellMove_38s (self38 : Int32 → Int32 → Int32 → (Nat → Int32) → (Nat → Nat → Int32) → Option (Int32 × MS)) (x4 : Int32) (x5 : Int32) (x7 : Int32) (I : Nat → Int32) (A : Nat → Nat → Int32) : Option (Int32 × MS) :=
  m_if (x5 ≤ x4) (
  f_spellMove_52 self38 x4 x5 x7 (3 : Int32) x7 I A
  ) (
  f_spellMove_52 self38 x4 x5 x7 (2 : Int32) x7 I A
  )
def f_spellMove_38 : Nat → Int32 → Int32 → Int32 → (Nat → Int32) → (Nat → Nat → Int32) → Option (Int32 × MS)
  | 0 => fun _ _ _ _ _ => none
  | n + 1 => f_spellMove_38s (f_spellMove_38 n)
def f_spellMove_0 (x1 : Int32) (x2 : Int32) (x3 : Int32) (I : Nat → Int32) (A : Nat → Nat → Int32) : Option (Int32 × MS) :=
  m_bnd (x1 - x1 / (64 : Int32) * (64 : Int32)) (fun v1 =>
  m_bnd (x1 / (64 : Int32)) (fun v2 =>
  m_bnd (v2 - v2 / (64 : Int32) * (64 : Int32)) (fun v3 =>
  m_bnd (x1 / (4096 : Int32)) (fun v4 =>
  m_bnd (upd I 36 (0 : Int32)) (fun I5 =>
  m_cl (f_isCastling x1 I5 A) (fun r6 Ic6 Ac6 =>
  m_if (r6 = 0) (
  m_chk (¬ (v1 < 0 ∨ 64 ≤ (v1).toNatClampNeg)) (
  m_bnd (Ac6 24 (v1).toNatClampNeg) (fun v7 =>
  m_cl (f_kind v7 Ic6 Ac6) (fun r8 Ic8 Ac8 =>
  m_if (r8 = (1 : Int32)) (
  f_spellMove_110 x2 x3 v1 v3 v4 Ic8 Ac8
  ) (
  m_chk (¬ (v1 < 0 ∨ 64 ≤ (v1).toNatClampNeg)) (
  m_bnd (Ac8 24 (v1).toNatClampNeg) (fun v9 =>
  m_cl (f_kind v9 Ic8 Ac8) (fun r10 Ic10 Ac10 =>
  m_cl (f_letter r10 Ic10 Ac10) (fun r11 Ic11 Ac11 =>
  m_cl (f_spell r11 Ic11 Ac11) (fun r12 Ic12 Ac12 =>
  f_spellMove_110 x2 x3 v1 v3 v4 Ic12 Ac12)))))
  ))))
  ) (
  f_spellMove_38 mFuel v1 v3 (0 : Int32) Ic6 Ac6
  )))))))
def f_spellMove (x1 : Int32) (x2 : Int32) (x3 : Int32) (I : Nat → Int32) (A : Nat → Nat → Int32) : Option (Int32 × MS) := f_spellMove_0 x1 x2 x3 I A
def f_isSafeOnce_169 (x9 : Int32) (I : Nat → Int32) (A : Nat → Nat → Int32) : Option (Int32 × MS) :=
  m_chk (vp_nar .boolean x9 = x9) (some (x9, (I, A)))
def f_isSafeOnce_137 (x2 : Int32) (x3 : Int32) (x4 : Int32) (x5 : Int32) (x6 : Int32) (x7 : Int32) (x8 : Int32) (t0 : Int32) (I : Nat → Int32) (A : Nat → Nat → Int32) : Option (Int32 × MS) :=
  m_chk (¬ (x2 < 0 ∨ 64 ≤ (x2).toNatClampNeg)) (
  m_bnd (va_up A 24 (upd (A 24) (x2).toNatClampNeg x4)) (fun A1 =>
  m_chk (¬ (x3 < 0 ∨ 64 ≤ (x3).toNatClampNeg)) (
  m_bnd (va_up A1 24 (upd (A1 24) (x3).toNatClampNeg x5)) (fun A2 =>
  m_if (x7 = 0) (
  f_isSafeOnce_169 t0 I A2
  ) (
  m_chk (¬ (x6 < 0 ∨ 64 ≤ (x6).toNatClampNeg)) (
  m_bnd (va_up A2 24 (upd (A2 24) (x6).toNatClampNeg x8)) (fun A3 =>
  f_isSafeOnce_169 t0 I A3))
  )))))
def f_isSafeOnce_121 (x2 : Int32) (x3 : Int32) (x4 : Int32) (x5 : Int32) (x6 : Int32) (x7 : Int32) (x8 : Int32) (I : Nat → Int32) (A : Nat → Nat → Int32) : Option (Int32 × MS) :=
  m_cl (f_isInCheck (I 25) I A) (fun r1 Ic1 Ac1 =>
  m_if (r1 = 0) (
  f_isSafeOnce_137 x2 x3 x4 x5 x6 x7 x8 (1 : Int32) Ic1 Ac1
  ) (
  f_isSafeOnce_137 x2 x3 x4 x5 x6 x7 x8 (0 : Int32) Ic1 Ac1
  ))
def f_isSafeOnce_91 (x2 : Int32) (x3 : Int32) (x4 : Int32) (x5 : Int32) (x6 : Int32) (x7 : Int32) (t0 : Int32) (I : Nat → Int32) (A : Nat → Nat → Int32) : Option (Int32 × MS) :=
  m_chk (¬ (x2 < 0 ∨ 64 ≤ (x2).toNatClampNeg)) (
  m_bnd (va_up A 24 (upd (A 24) (x2).toNatClampNeg (0 : Int32))) (fun A1 =>
  m_chk (¬ (x3 < 0 ∨ 64 ≤ (x3).toNatClampNeg)) (
  m_bnd (va_up A1 24 (upd (A1 24) (x3).toNatClampNeg x4)) (fun A2 =>
  m_if (x7 = 0) (
  f_isSafeOnce_121 x2 x3 x4 x5 x6 x7 t0 I A2
  ) (
  m_chk (¬ (x6 < 0 ∨ 64 ≤ (x6).toNatClampNeg)) (
  m_bnd (va_up A2 24 (upd (A2 24) (x6).toNatClampNeg (0 : Int32))) (fun A3 =>
  f_isSafeOnce_121 x2 x3 x4 x5 x6 x7 t0 I A3))
  )))))
def f_isSafeOnce_73 (x2 : Int32) (x3 : Int32) (x4 : Int32) (x5 : Int32) (x6 : Int32) (t0 : Int32) (I : Nat → Int32) (A : Nat → Nat → Int32) : Option (Int32 × MS) :=
  m_if (t0 = 0) (
  f_isSafeOnce_91 x2 x3 x4 x5 x6 t0 (0 : Int32) I A
  ) (
  m_chk (¬ (x6 < 0 ∨ 64 ≤ (x6).toNatClampNeg)) (
  m_bnd (A 24 (x6).toNatClampNeg) (fun v1 =>
  f_isSafeOnce_91 x2 x3 x4 x5 x6 t0 v1 I A))
  )
def f_isSafeOnce_72 (x2 : Int32) (x3 : Int32) (x4 : Int32) (x5 : Int32) (x6 : Int32) (I : Nat → Int32) (A : Nat → Nat → Int32) : Option (Int32 × MS) :=
  f_isSafeOnce_73 x2 x3 x4 x5 x6 (0 : Int32) I A
def f_isSafeOnce_0 (x1 : Int32) (I : Nat → Int32) (A : Nat → Nat → Int32) : Option (Int32 × MS) :=
  m_bnd (x1 - x1 / (64 : Int32) * (64 : Int32)) (fun v1 =>
  m_bnd (x1 / (64 : Int32)) (fun v2 =>
  m_bnd (v2 - v2 / (64 : Int32) * (64 : Int32)) (fun v3 =>
  m_chk (¬ (v1 < 0 ∨ 64 ≤ (v1).toNatClampNeg)) (
  m_bnd (A 24 (v1).toNatClampNeg) (fun v4 =>
  m_chk (¬ (v3 < 0 ∨ 64 ≤ (v3).toNatClampNeg)) (
  m_bnd (A 24 (v3).toNatClampNeg) (fun v5 =>
  m_bnd (v1 / (8 : Int32)) (fun v6 =>
  m_bnd (v6 * (8 : Int32)) (fun v7 =>
  m_bnd (v3 - v3 / (8 : Int32) * (8 : Int32)) (fun v8 =>
  m_bnd (v7 + v8) (fun v9 =>
  m_cl (f_kind v4 I A) (fun r10 Ic10 Ac10 =>
  m_if (r10 = (1 : Int32)) (
  m_if (v5 = 0) (
  m_bnd (v1 - v1 / (8 : Int32) * (8 : Int32)) (fun v11 =>
  m_bnd (v3 - v3 / (8 : Int32) * (8 : Int32)) (fun v12 =>
  m_if (v11 = v12) (
  f_isSafeOnce_72 v1 v3 v4 v5 v9 Ic10 Ac10
  ) (
  f_isSafeOnce_73 v1 v3 v4 v5 v9 (1 : Int32) Ic10 Ac10
  )))
  ) (
  f_isSafeOnce_72 v1 v3 v4 v5 v9 Ic10 Ac10
  )
  ) (
  f_isSafeOnce_72 v1 v3 v4 v5 v9 Ic10 Ac10
  )))))))))))))
def f_isSafeOnce (x1 : Int32) (I : Nat → Int32) (A : Nat → Nat → Int32) : Option (Int32 × MS) := f_isSafeOnce_0 x1 I A
def f_behind_98 (x2 : Int32) (I : Nat → Int32) (A : Nat → Nat → Int32) : Option (Int32 × MS) :=
  m_cl (f_bringBack  I A) (fun r1 Ic1 Ac1 =>
  m_chk (vp_nar .char x2 = x2) (some (x2, (Ic1, Ac1))))
def f_behind_92 (self27 : Int32 → Int32 → (Nat → Int32) → (Nat → Nat → Int32) → Option (Int32 × MS)) (x2 : Int32) (x3 : Int32) (I : Nat → Int32) (A : Nat → Nat → Int32) : Option (Int32 × MS) :=
  m_bnd (x3 + (1 : Int32)) (fun v1 =>
  self27 x2 v1 I A)
def f_behind_85 (self27 : Int32 → Int32 → (Nat → Int32) → (Nat → Nat → Int32) → Option (Int32 × MS)) (self42 : Int32 → Int32 → Int32 → (Nat → Int32) → (Nat → Nat → Int32) → Option (Int32 × MS)) (x3 : Int32) (x4 : Int32) (t0 : Int32) (I : Nat → Int32) (A : Nat → Nat → Int32) : Option (Int32 × MS) :=
  m_bnd (x4 + (1 : Int32)) (fun v1 =>
  self42 t0 x3 v1 I A)
def f_behind_84 (self27 : Int32 → Int32 → (Nat → Int32) → (Nat → Nat → Int32) → Option (Int32 × MS)) (self42 : Int32 → Int32 → Int32 → (Nat → Int32) → (Nat → Nat → Int32) → Option (Int32 × MS)) (x2 : Int32) (x3 : Int32) (x4 : Int32) (I : Nat → Int32) (A : Nat → Nat → Int32) : Option (Int32 × MS) :=
  f_behind_85 self27 self42 x3 x4 x2 I A
def f_behind_42s (self27 : Int32 → Int32 → (Nat → Int32) → (Nat → Nat → Int32) → Option (Int32 × MS)) (self42 : Int32 → Int32 → Int32 → (Nat → Int32) → (Nat → Nat → Int32) → Option (Int32 × MS)) (x2 : Int32) (x3 : Int32) (x4 : Int32) (I : Nat → Int32) (A : Nat → Nat → Int32) : Option (Int32 × MS) :=
  m_if ((64 : Int32) ≤ x4) (
  f_behind_92 self27 x2 x3 I A
  ) (
  m_if (x2 = (35 : Int32)) (
  m_cl (f_goes x3 x4 I A) (fun r1 Ic1 Ac1 =>
  m_if (r1 = 0) (
  f_behind_84 self27 self42 x2 x3 x4 Ic1 Ac1
  ) (
  m_bnd ((64 : Int32) * x4) (fun v2 =>
  m_bnd (x3 + v2) (fun v3 =>
  m_cl (f_isSafeOnce v3 Ic1 Ac1) (fun r4 Ic4 Ac4 =>
  m_if (r4 = 0) (
  f_behind_84 self27 self42 x2 x3 x4 Ic4 Ac4
  ) (
  f_behind_85 self27 self42 x3 x4 (43 : Int32) Ic4 Ac4
  ))))
  ))
  ) (
  f_behind_92 self27 x2 x3 I A
  )
  )
def f_behind_42 (self27 : Int32 → Int32 → (Nat → Int32) → (Nat → Nat → Int32) → Option (Int32 × MS)) : Nat → Int32 → Int32 → Int32 → (Nat → Int32) → (Nat → Nat → Int32) → Option (Int32 × MS)
  | 0 => fun _ _ _ _ _ => none
  | n + 1 => f_behind_42s self27 (f_behind_42 self27 n)
def f_behind_27s (self27 : Int32 → Int32 → (Nat → Int32) → (Nat → Nat → Int32) → Option (Int32 × MS)) (x2 : Int32) (x3 : Int32) (I : Nat → Int32) (A : Nat → Nat → Int32) : Option (Int32 × MS) :=
  m_if ((64 : Int32) ≤ x3) (
  f_behind_98 x2 I A
  ) (
  m_if (x2 = (35 : Int32)) (
  f_behind_42 self27 mFuel x2 x3 (0 : Int32) I A
  ) (
  f_behind_98 x2 I A
  )
  )
def f_behind_27 : Nat → Int32 → Int32 → (Nat → Int32) → (Nat → Nat → Int32) → Option (Int32 × MS)
  | 0 => fun _ _ _ _ => none
  | n + 1 => f_behind_27s (f_behind_27 n)
def f_behind_0 (x1 : Int32) (I : Nat → Int32) (A : Nat → Nat → Int32) : Option (Int32 × MS) :=
  m_cl (f_keep  I A) (fun r1 Ic1 Ac1 =>
  m_cl (f_make x1 Ic1 Ac1) (fun r2 Ic2 Ac2 =>
  m_cl (f_isInCheck (Ic2 25) Ic2 Ac2) (fun r3 Ic3 Ac3 =>
  m_if (r3 = 0) (
  f_behind_98 (0 : Int32) Ic3 Ac3
  ) (
  f_behind_27 mFuel (35 : Int32) (0 : Int32) Ic3 Ac3
  ))))
def f_behind (x1 : Int32) (I : Nat → Int32) (A : Nat → Nat → Int32) : Option (Int32 × MS) := f_behind_0 x1 I A
def f_apartOf_195 (t0 : Int32) (I : Nat → Int32) (A : Nat → Nat → Int32) : Option (Int32 × MS) :=
  some (t0, (I, A))
def f_apartOf_161 (self46 : Int32 → Int32 → Int32 → Int32 → Int32 → Int32 → Int32 → (Nat → Int32) → (Nat → Nat → Int32) → Option (Int32 × MS)) (x1 : Int32) (x2 : Int32) (x3 : Int32) (x4 : Int32) (x5 : Int32) (x6 : Int32) (x7 : Int32) (I : Nat → Int32) (A : Nat → Nat → Int32) : Option (Int32 × MS) :=
  m_bnd (x7 + (1 : Int32)) (fun v1 =>
  self46 x1 x2 x3 x4 x5 x6 v1 I A)
def f_apartOf_159 (self46 : Int32 → Int32 → Int32 → Int32 → Int32 → Int32 → Int32 → (Nat → Int32) → (Nat → Nat → Int32) → Option (Int32 × MS)) (x1 : Int32) (x2 : Int32) (x3 : Int32) (x4 : Int32) (x5 : Int32) (x7 : Int32) (t0 : Int32) (I : Nat → Int32) (A : Nat → Nat → Int32) : Option (Int32 × MS) :=
  f_apartOf_161 self46 x1 x2 x3 x4 x5 t0 x7 I A
def f_apartOf_154 (self46 : Int32 → Int32 → Int32 → Int32 → Int32 → Int32 → Int32 → (Nat → Int32) → (Nat → Nat → Int32) → Option (Int32 × MS)) (x1 : Int32) (x2 : Int32) (x3 : Int32) (x4 : Int32) (x5 : Int32) (x7 : Int32) (I : Nat → Int32) (A : Nat → Nat → Int32) : Option (Int32 × MS) :=
  f_apartOf_159 self46 x1 x2 x3 x4 x5 x7 (1 : Int32) I A
def f_apartOf_135 (self46 : Int32 → Int32 → Int32 → Int32 → Int32 → Int32 → Int32 → (Nat → Int32) → (Nat → Nat → Int32) → Option (Int32 × MS)) (x1 : Int32) (x2 : Int32) (x3 : Int32) (x4 : Int32) (x6 : Int32) (x7 : Int32) (x8 : Int32) (t0 : Int32) (I : Nat → Int32) (A : Nat → Nat → Int32) : Option (Int32 × MS) :=
  m_if (x6 = 0) (
  m_bnd (x8 / (8 : Int32)) (fun v1 =>
  m_bnd (x2 / (8 : Int32)) (fun v2 =>
  m_if (v1 = v2) (
  f_apartOf_154 self46 x1 x2 x3 x4 t0 x7 I A
  ) (
  f_apartOf_159 self46 x1 x2 x3 x4 t0 x7 (0 : Int32) I A
  )))
  ) (
  f_apartOf_154 self46 x1 x2 x3 x4 t0 x7 I A
  )
def f_apartOf_130 (self46 : Int32 → Int32 → Int32 → Int32 → Int32 → Int32 → Int32 → (Nat → Int32) → (Nat → Nat → Int32) → Option (Int32 × MS)) (x1 : Int32) (x2 : Int32) (x3 : Int32) (x4 : Int32) (x6 : Int32) (x7 : Int32) (x8 : Int32) (I : Nat → Int32) (A : Nat → Nat → Int32) : Option (Int32 × MS) :=
  f_apartOf_135 self46 x1 x2 x3 x4 x6 x7 x8 (1 : Int32) I A
def f_apartOf_46s (self46 : Int32 → Int32 → Int32 → Int32 → Int32 → Int32 → Int32 → (Nat → Int32) → (Nat → Nat → Int32) → Option (Int32 × MS)) (x1 : Int32) (x2 : Int32) (x3 : Int32) (x4 : Int32) (x5 : Int32) (x6 : Int32) (x7 : Int32) (I : Nat → Int32) (A : Nat → Nat → Int32) : Option (Int32 × MS) :=
  m_if ((I 33) ≤ x7) (
  m_if (x4 = 0) (
  f_apartOf_195 (0 : Int32) I A
  ) (
  m_if (x5 = 0) (
  f_apartOf_195 (1 : Int32) I A
  ) (
  m_if (x6 = 0) (
  f_apartOf_195 (2 : Int32) I A
  ) (
  f_apartOf_195 (3 : Int32) I A
  )
  )
  )
  ) (
  m_chk (¬ (x7 < 0 ∨ 2048 ≤ (x7).toNatClampNeg)) (
  m_bnd (A 32 (x7).toNatClampNeg) (fun v1 =>
  m_bnd (v1 - v1 / (64 : Int32) * (64 : Int32)) (fun v2 =>
  m_if (v2 = x2) (
  f_apartOf_161 self46 x1 x2 x3 x4 x5 x6 x7 I A
  ) (
  m_chk (¬ (x7 < 0 ∨ 2048 ≤ (x7).toNatClampNeg)) (
  m_bnd (A 32 (x7).toNatClampNeg) (fun v3 =>
  m_bnd (v3 / (64 : Int32)) (fun v4 =>
  m_bnd (v4 - v4 / (64 : Int32) * (64 : Int32)) (fun v5 =>
  m_bnd (x1 / (64 : Int32)) (fun v6 =>
  m_bnd (v6 - v6 / (64 : Int32) * (64 : Int32)) (fun v7 =>
  m_if (v5 = v7) (
  m_chk (¬ (v2 < 0 ∨ 64 ≤ (v2).toNatClampNeg)) (
  m_bnd (A 24 (v2).toNatClampNeg) (fun v8 =>
  m_cl (f_kind v8 I A) (fun r9 Ic9 Ac9 =>
  m_if (r9 = x3) (
  m_if (x5 = 0) (
  m_bnd (v2 - v2 / (8 : Int32) * (8 : Int32)) (fun v10 =>
  m_bnd (x2 - x2 / (8 : Int32) * (8 : Int32)) (fun v11 =>
  m_if (v10 = v11) (
  f_apartOf_130 self46 x1 x2 x3 (1 : Int32) x6 x7 v2 Ic9 Ac9
  ) (
  f_apartOf_135 self46 x1 x2 x3 (1 : Int32) x6 x7 v2 (0 : Int32) Ic9 Ac9
  )))
  ) (
  f_apartOf_130 self46 x1 x2 x3 (1 : Int32) x6 x7 v2 Ic9 Ac9
  )
  ) (
  f_apartOf_161 self46 x1 x2 x3 x4 x5 x6 x7 Ic9 Ac9
  ))))
  ) (
  f_apartOf_161 self46 x1 x2 x3 x4 x5 x6 x7 I A
  )))))))
  ))))
  )
def f_apartOf_46 : Nat → Int32 → Int32 → Int32 → Int32 → Int32 → Int32 → Int32 → (Nat → Int32) → (Nat → Nat → Int32) → Option (Int32 × MS)
  | 0 => fun _ _ _ _ _ _ _ _ _ => none
  | n + 1 => f_apartOf_46s (f_apartOf_46 n)
def f_apartOf_33 (t0 : Int32) (I : Nat → Int32) (A : Nat → Nat → Int32) : Option (Int32 × MS) :=
  some (t0, (I, A))
def f_apartOf_0 (x1 : Int32) (I : Nat → Int32) (A : Nat → Nat → Int32) : Option (Int32 × MS) :=
  m_bnd (x1 - x1 / (64 : Int32) * (64 : Int32)) (fun v1 =>
  m_chk (¬ (v1 < 0 ∨ 64 ≤ (v1).toNatClampNeg)) (
  m_bnd (A 24 (v1).toNatClampNeg) (fun v2 =>
  m_cl (f_kind v2 I A) (fun r3 Ic3 Ac3 =>
  m_if (r3 = (1 : Int32)) (
  m_cl (f_isTaking x1 Ic3 Ac3) (fun r4 Ic4 Ac4 =>
  m_if (r4 = 0) (
  f_apartOf_33 (0 : Int32) Ic4 Ac4
  ) (
  f_apartOf_33 (1 : Int32) Ic4 Ac4
  ))
  ) (
  f_apartOf_46 mFuel x1 v1 r3 (0 : Int32) (0 : Int32) (0 : Int32) (0 : Int32) Ic3 Ac3
  )))))
def f_apartOf (x1 : Int32) (I : Nat → Int32) (A : Nat → Nat → Int32) : Option (Int32 × MS) := f_apartOf_0 x1 I A
def f_spellWhole_30 (I : Nat → Int32) (A : Nat → Nat → Int32) : Option (Int32 × MS) :=
  some (0, (I, A))
def f_spellWhole_0 (x1 : Int32) (I : Nat → Int32) (A : Nat → Nat → Int32) : Option (Int32 × MS) :=
  m_cl (f_apartOf x1 I A) (fun r1 Ic1 Ac1 =>
  m_cl (f_isTaking x1 Ic1 Ac1) (fun r2 Ic2 Ac2 =>
  m_cl (f_spellMove x1 r1 r2 Ic2 Ac2) (fun r3 Ic3 Ac3 =>
  m_cl (f_behind x1 Ic3 Ac3) (fun r4 Ic4 Ac4 =>
  m_if (r4 = 0) (
  f_spellWhole_30  Ic4 Ac4
  ) (
  m_cl (f_spell r4 Ic4 Ac4) (fun r5 Ic5 Ac5 =>
  f_spellWhole_30  Ic5 Ac5)
  )))))
def f_spellWhole (x1 : Int32) (I : Nat → Int32) (A : Nat → Nat → Int32) : Option (Int32 × MS) := f_spellWhole_0 x1 I A
def f_isSpelled_92 (t0 : Int32) (I : Nat → Int32) (A : Nat → Nat → Int32) : Option (Int32 × MS) :=
  m_chk (vp_nar .boolean t0 = t0) (some (t0, (I, A)))
def f_isSpelled_67 (I : Nat → Int32) (A : Nat → Nat → Int32) : Option (Int32 × MS) :=
  m_chk (vp_nar .boolean (0 : Int32) = (0 : Int32)) (some ((0 : Int32), (I, A)))
def f_isSpelled_72 (self6 : Int32 → Int32 → Int32 → Int32 → (Nat → Int32) → (Nat → Nat → Int32) → Option (Int32 × MS)) (x2 : Int32) (x3 : Int32) (x4 : Int32) (x5 : Int32) (I : Nat → Int32) (A : Nat → Nat → Int32) : Option (Int32 × MS) :=
  m_bnd (x5 + (1 : Int32)) (fun v1 =>
  self6 x2 x3 x4 v1 I A)
def f_isSpelled_46 (self6 : Int32 → Int32 → Int32 → Int32 → (Nat → Int32) → (Nat → Nat → Int32) → Option (Int32 × MS)) (x2 : Int32) (x3 : Int32) (x4 : Int32) (x5 : Int32) (x6 : Int32) (I : Nat → Int32) (A : Nat → Nat → Int32) : Option (Int32 × MS) :=
  m_if (x4 = (I 36)) (
  f_isSpelled_67  I A
  ) (
  m_chk (¬ (x4 < 0 ∨ 16 ≤ (x4).toNatClampNeg)) (
  m_bnd (A 35 (x4).toNatClampNeg) (fun v1 =>
  m_if (v1 = x6) (
  m_bnd (x4 + (1 : Int32)) (fun v2 =>
  f_isSpelled_72 self6 x2 x3 v2 x5 I A)
  ) (
  f_isSpelled_67  I A
  )))
  )
def f_isSpelled_6s (self6 : Int32 → Int32 → Int32 → Int32 → (Nat → Int32) → (Nat → Nat → Int32) → Option (Int32 × MS)) (x2 : Int32) (x3 : Int32) (x4 : Int32) (x5 : Int32) (I : Nat → Int32) (A : Nat → Nat → Int32) : Option (Int32 × MS) :=
  m_if (x2 ≤ x5) (
  m_if (x4 = (I 36)) (
  f_isSpelled_92 (1 : Int32) I A
  ) (
  f_isSpelled_92 (0 : Int32) I A
  )
  ) (
  m_chk (¬ (x5 < 0 ∨ 2000 ≤ (x5).toNatClampNeg)) (
  m_bnd (A 2 (x5).toNatClampNeg) (fun v1 =>
  m_if (x3 = 0) (
  f_isSpelled_46 self6 x2 x3 x4 x5 v1 I A
  ) (
  m_if (v1 = (120 : Int32)) (
  f_isSpelled_72 self6 x2 x3 x4 x5 I A
  ) (
  m_if (v1 = (43 : Int32)) (
  f_isSpelled_72 self6 x2 x3 x4 x5 I A
  ) (
  m_if (v1 = (35 : Int32)) (
  f_isSpelled_72 self6 x2 x3 x4 x5 I A
  ) (
  f_isSpelled_46 self6 x2 x3 x4 x5 v1 I A
  )
  )
  )
  )))
  )
def f_isSpelled_6 : Nat → Int32 → Int32 → Int32 → Int32 → (Nat → Int32) → (Nat → Nat → Int32) → Option (Int32 × MS)
  | 0 => fun _ _ _ _ _ _ => none
  | n + 1 => f_isSpelled_6s (f_isSpelled_6 n)
def f_isSpelled_0 (x1 : Int32) (x2 : Int32) (x3 : Int32) (I : Nat → Int32) (A : Nat → Nat → Int32) : Option (Int32 × MS) :=
  f_isSpelled_6 mFuel x2 x3 (0 : Int32) x1 I A
def f_isSpelled (x1 : Int32) (x2 : Int32) (x3 : Int32) (I : Nat → Int32) (A : Nat → Nat → Int32) : Option (Int32 × MS) := f_isSpelled_0 x1 x2 x3 I A
def f_fits_198 (self37 : Int32 → Int32 → Int32 → Int32 → Int32 → Int32 → Int32 → (Nat → Int32) → (Nat → Nat → Int32) → Option (Int32 × MS)) (x1 : Int32) (x2 : Int32) (x3 : Int32) (x4 : Int32) (x6 : Int32) (x7 : Int32) (x8 : Int32) (I : Nat → Int32) (A : Nat → Nat → Int32) : Option (Int32 × MS) :=
  m_bnd (x8 + (1 : Int32)) (fun v1 =>
  self37 x1 x2 x3 x4 x6 x7 v1 I A)
def f_fits_168 (self37 : Int32 → Int32 → Int32 → Int32 → Int32 → Int32 → Int32 → (Nat → Int32) → (Nat → Nat → Int32) → Option (Int32 × MS)) (x1 : Int32) (x2 : Int32) (x3 : Int32) (x4 : Int32) (x6 : Int32) (x7 : Int32) (x8 : Int32) (I : Nat → Int32) (A : Nat → Nat → Int32) : Option (Int32 × MS) :=
  m_bnd (x3 - (1 : Int32)) (fun v1 =>
  m_cl (f_isSpelled x2 v1 (0 : Int32) I A) (fun r2 Ic2 Ac2 =>
  m_if (r2 = 0) (
  f_fits_198 self37 x1 x2 x3 x4 x6 x7 x8 Ic2 Ac2
  ) (
  m_cl (f_behind x1 Ic2 Ac2) (fun r3 Ic3 Ac3 =>
  m_bnd (x3 - (1 : Int32)) (fun v4 =>
  m_chk (¬ (v4 < 0 ∨ 2000 ≤ (v4).toNatClampNeg)) (
  m_bnd (Ac3 2 (v4).toNatClampNeg) (fun v5 =>
  m_if (r3 = v5) (
  m_chk (vp_nar .boolean (1 : Int32) = (1 : Int32)) (some ((1 : Int32), (Ic3, Ac3)))
  ) (
  f_fits_198 self37 x1 x2 x3 x4 x6 x7 x8 Ic3 Ac3
  )))))
  )))
def f_fits_116 (self37 : Int32 → Int32 → Int32 → Int32 → Int32 → Int32 → Int32 → (Nat → Int32) → (Nat → Nat → Int32) → Option (Int32 × MS)) (x1 : Int32) (x2 : Int32) (x3 : Int32) (x4 : Int32) (x6 : Int32) (x7 : Int32) (x8 : Int32) (t0 : Int32) (t1 : Int32) (t2 : Int32) (I : Nat → Int32) (A : Nat → Nat → Int32) : Option (Int32 × MS) :=
  m_cl (f_spellMove t2 t1 t0 I A) (fun r1 Ic1 Ac1 =>
  m_cl (f_isSpelled x2 x3 x4 Ic1 Ac1) (fun r2 Ic2 Ac2 =>
  m_if (r2 = 0) (
  m_if (x4 = 0) (
  m_if (x3 ≤ x2) (
  f_fits_198 self37 x1 x2 x3 x4 x6 x7 x8 Ic2 Ac2
  ) (
  m_bnd (x3 - (1 : Int32)) (fun v3 =>
  m_chk (¬ (v3 < 0 ∨ 2000 ≤ (v3).toNatClampNeg)) (
  m_bnd (Ac2 2 (v3).toNatClampNeg) (fun v4 =>
  m_if (v4 = (43 : Int32)) (
  f_fits_168 self37 x1 x2 x3 x4 x6 x7 x8 Ic2 Ac2
  ) (
  m_bnd (x3 - (1 : Int32)) (fun v5 =>
  m_chk (¬ (v5 < 0 ∨ 2000 ≤ (v5).toNatClampNeg)) (
  m_bnd (Ac2 2 (v5).toNatClampNeg) (fun v6 =>
  m_if (v6 = (35 : Int32)) (
  f_fits_168 self37 x1 x2 x3 x4 x6 x7 x8 Ic2 Ac2
  ) (
  f_fits_198 self37 x1 x2 x3 x4 x6 x7 x8 Ic2 Ac2
  ))))
  ))))
  )
  ) (
  f_fits_198 self37 x1 x2 x3 x4 x6 x7 x8 Ic2 Ac2
  )
  ) (
  m_chk (vp_nar .boolean (1 : Int32) = (1 : Int32)) (some ((1 : Int32), (Ic2, Ac2)))
  )))
def f_fits_115 (self37 : Int32 → Int32 → Int32 → Int32 → Int32 → Int32 → Int32 → (Nat → Int32) → (Nat → Nat → Int32) → Option (Int32 × MS)) (x1 : Int32) (x2 : Int32) (x3 : Int32) (x4 : Int32) (x6 : Int32) (x7 : Int32) (x8 : Int32) (t0 : Int32) (t1 : Int32) (I : Nat → Int32) (A : Nat → Nat → Int32) : Option (Int32 × MS) :=
  f_fits_116 self37 x1 x2 x3 x4 x6 x7 x8 (0 : Int32) t0 t1 I A
def f_fits_90 (self37 : Int32 → Int32 → Int32 → Int32 → Int32 → Int32 → Int32 → (Nat → Int32) → (Nat → Nat → Int32) → Option (Int32 × MS)) (x1 : Int32) (x2 : Int32) (x3 : Int32) (x4 : Int32) (x6 : Int32) (x7 : Int32) (x8 : Int32) (t0 : Int32) (I : Nat → Int32) (A : Nat → Nat → Int32) : Option (Int32 × MS) :=
  m_if (t0 = 0) (
  f_fits_198 self37 x1 x2 x3 x4 x6 x7 x8 I A
  ) (
  m_if (x7 = 0) (
  f_fits_115 self37 x1 x2 x3 x4 x6 x7 x8 x8 x1 I A
  ) (
  m_if (x4 = 0) (
  f_fits_116 self37 x1 x2 x3 x4 x6 x7 x8 (1 : Int32) x8 x1 I A
  ) (
  f_fits_115 self37 x1 x2 x3 x4 x6 x7 x8 x8 x1 I A
  )
  )
  )
def f_fits_85 (self37 : Int32 → Int32 → Int32 → Int32 → Int32 → Int32 → Int32 → (Nat → Int32) → (Nat → Nat → Int32) → Option (Int32 × MS)) (x1 : Int32) (x2 : Int32) (x3 : Int32) (x4 : Int32) (x6 : Int32) (x7 : Int32) (x8 : Int32) (I : Nat → Int32) (A : Nat → Nat → Int32) : Option (Int32 × MS) :=
  f_fits_90 self37 x1 x2 x3 x4 x6 x7 x8 (1 : Int32) I A
def f_fits_89 (self37 : Int32 → Int32 → Int32 → Int32 → Int32 → Int32 → Int32 → (Nat → Int32) → (Nat → Nat → Int32) → Option (Int32 × MS)) (x1 : Int32) (x2 : Int32) (x3 : Int32) (x4 : Int32) (x6 : Int32) (x7 : Int32) (x8 : Int32) (I : Nat → Int32) (A : Nat → Nat → Int32) : Option (Int32 × MS) :=
  f_fits_90 self37 x1 x2 x3 x4 x6 x7 x8 (0 : Int32) I A
def f_fits_37s (self37 : Int32 → Int32 → Int32 → Int32 → Int32 → Int32 → Int32 → (Nat → Int32) → (Nat → Nat → Int32) → Option (Int32 × MS)) (x1 : Int32) (x2 : Int32) (x3 : Int32) (x4 : Int32) (x6 : Int32) (x7 : Int32) (x8 : Int32) (I : Nat → Int32) (A : Nat → Nat → Int32) : Option (Int32 × MS) :=
  m_if ((4 : Int32) ≤ x8) (
  m_chk (vp_nar .boolean (0 : Int32) = (0 : Int32)) (some ((0 : Int32), (I, A)))
  ) (
  m_cl (f_isCastling x1 I A) (fun r1 Ic1 Ac1 =>
  m_if (r1 = 0) (
  m_if (x6 = 0) (
  f_fits_85 self37 x1 x2 x3 x4 x6 x7 x8 Ic1 Ac1
  ) (
  m_if (x8 = (1 : Int32)) (
  f_fits_85 self37 x1 x2 x3 x4 x6 x7 x8 Ic1 Ac1
  ) (
  m_if (x8 = 0) (
  m_if (x7 = 0) (
  f_fits_85 self37 x1 x2 x3 x4 x6 x7 x8 Ic1 Ac1
  ) (
  f_fits_89 self37 x1 x2 x3 x4 x6 x7 x8 Ic1 Ac1
  )
  ) (
  f_fits_89 self37 x1 x2 x3 x4 x6 x7 x8 Ic1 Ac1
  )
  )
  )
  ) (
  m_if (x8 = 0) (
  f_fits_90 self37 x1 x2 x3 x4 x6 x7 x8 (1 : Int32) Ic1 Ac1
  ) (
  f_fits_90 self37 x1 x2 x3 x4 x6 x7 x8 (0 : Int32) Ic1 Ac1
  )
  ))
  )
def f_fits_37 : Nat → Int32 → Int32 → Int32 → Int32 → Int32 → Int32 → Int32 → (Nat → Int32) → (Nat → Nat → Int32) → Option (Int32 × MS)
  | 0 => fun _ _ _ _ _ _ _ _ _ => none
  | n + 1 => f_fits_37s (f_fits_37 n)
def f_fits_25 (x1 : Int32) (x2 : Int32) (x3 : Int32) (x4 : Int32) (t0 : Int32) (I : Nat → Int32) (A : Nat → Nat → Int32) : Option (Int32 × MS) :=
  m_cl (f_isTaking x1 I A) (fun r1 Ic1 Ac1 =>
  f_fits_37 mFuel x1 x2 x3 x4 t0 r1 (0 : Int32) Ic1 Ac1)
def f_fits_0 (x1 : Int32) (x2 : Int32) (x3 : Int32) (x4 : Int32) (I : Nat → Int32) (A : Nat → Nat → Int32) : Option (Int32 × MS) :=
  m_bnd (x1 - x1 / (64 : Int32) * (64 : Int32)) (fun v1 =>
  m_chk (¬ (v1 < 0 ∨ 64 ≤ (v1).toNatClampNeg)) (
  m_bnd (A 24 (v1).toNatClampNeg) (fun v2 =>
  m_cl (f_kind v2 I A) (fun r3 Ic3 Ac3 =>
  m_if (r3 = (1 : Int32)) (
  f_fits_25 x1 x2 x3 x4 (1 : Int32) Ic3 Ac3
  ) (
  f_fits_25 x1 x2 x3 x4 (0 : Int32) Ic3 Ac3
  )))))
def f_fits (x1 : Int32) (x2 : Int32) (x3 : Int32) (x4 : Int32) (I : Nat → Int32) (A : Nat → Nat → Int32) : Option (Int32 × MS) := f_fits_0 x1 x2 x3 x4 I A
def f_understood_122 (t0 : Int32) (I : Nat → Int32) (A : Nat → Nat → Int32) : Option (Int32 × MS) :=
  some (t0, (I, A))
def f_understood_104 (self71 : Int32 → Int32 → Int32 → Int32 → (Nat → Int32) → (Nat → Nat → Int32) → Option (Int32 × MS)) (x1 : Int32) (x2 : Int32) (x5 : Int32) (t0 : Int32) (I : Nat → Int32) (A : Nat → Nat → Int32) : Option (Int32 × MS) :=
  m_bnd (x5 + (1 : Int32)) (fun v1 =>
  self71 x1 x2 t0 v1 I A)
def f_understood_71s (self71 : Int32 → Int32 → Int32 → Int32 → (Nat → Int32) → (Nat → Nat → Int32) → Option (Int32 × MS)) (x1 : Int32) (x2 : Int32) (x3 : Int32) (x5 : Int32) (I : Nat → Int32) (A : Nat → Nat → Int32) : Option (Int32 × MS) :=
  m_if ((I 33) ≤ x5) (
  m_if (x3 = (1 : Int32)) (
  f_understood_122 (-2 : Int32) I A
  ) (
  f_understood_122 (-1 : Int32) I A
  )
  ) (
  m_chk (¬ (x5 < 0 ∨ 2048 ≤ (x5).toNatClampNeg)) (
  m_bnd (A 32 (x5).toNatClampNeg) (fun v1 =>
  m_cl (f_fits v1 x1 x2 (1 : Int32) I A) (fun r2 Ic2 Ac2 =>
  m_if (r2 = 0) (
  f_understood_104 self71 x1 x2 x5 x3 Ic2 Ac2
  ) (
  m_bnd (x3 + (1 : Int32)) (fun v3 =>
  f_understood_104 self71 x1 x2 x5 v3 Ic2 Ac2)
  ))))
  )
def f_understood_71 : Nat → Int32 → Int32 → Int32 → Int32 → (Nat → Int32) → (Nat → Nat → Int32) → Option (Int32 × MS)
  | 0 => fun _ _ _ _ _ _ => none
  | n + 1 => f_understood_71s (f_understood_71 n)
def f_understood_67 (t0 : Int32) (I : Nat → Int32) (A : Nat → Nat → Int32) : Option (Int32 × MS) :=
  some (t0, (I, A))
def f_understood_46 (self8 : Int32 → Int32 → Int32 → Int32 → Int32 → (Nat → Int32) → (Nat → Nat → Int32) → Option (Int32 × MS)) (x1 : Int32) (x2 : Int32) (x3 : Int32) (x4 : Int32) (x5 : Int32) (I : Nat → Int32) (A : Nat → Nat → Int32) : Option (Int32 × MS) :=
  m_bnd (x5 + (1 : Int32)) (fun v1 =>
  self8 x1 x2 x3 x4 v1 I A)
def f_understood_8s (self8 : Int32 → Int32 → Int32 → Int32 → Int32 → (Nat → Int32) → (Nat → Nat → Int32) → Option (Int32 × MS)) (x1 : Int32) (x2 : Int32) (x3 : Int32) (x4 : Int32) (x5 : Int32) (I : Nat → Int32) (A : Nat → Nat → Int32) : Option (Int32 × MS) :=
  m_if ((I 33) ≤ x5) (
  m_if (x3 ≤ 0) (
  f_understood_71 mFuel x1 x2 x3 (0 : Int32) I A
  ) (
  m_if (x3 = (1 : Int32)) (
  f_understood_67 x4 I A
  ) (
  f_understood_67 (-1 : Int32) I A
  )
  )
  ) (
  m_chk (¬ (x5 < 0 ∨ 2048 ≤ (x5).toNatClampNeg)) (
  m_bnd (A 32 (x5).toNatClampNeg) (fun v1 =>
  m_cl (f_fits v1 x1 x2 (0 : Int32) I A) (fun r2 Ic2 Ac2 =>
  m_if (r2 = 0) (
  f_understood_46 self8 x1 x2 x3 x4 x5 Ic2 Ac2
  ) (
  m_bnd (x3 + (1 : Int32)) (fun v3 =>
  m_chk (¬ (x5 < 0 ∨ 2048 ≤ (x5).toNatClampNeg)) (
  m_bnd (Ac2 32 (x5).toNatClampNeg) (fun v4 =>
  f_understood_46 self8 x1 x2 v3 v4 x5 Ic2 Ac2)))
  ))))
  )
def f_understood_8 : Nat → Int32 → Int32 → Int32 → Int32 → Int32 → (Nat → Int32) → (Nat → Nat → Int32) → Option (Int32 × MS)
  | 0 => fun _ _ _ _ _ _ _ => none
  | n + 1 => f_understood_8s (f_understood_8 n)
def f_understood_0 (x1 : Int32) (x2 : Int32) (I : Nat → Int32) (A : Nat → Nat → Int32) : Option (Int32 × MS) :=
  f_understood_8 mFuel x1 x2 (0 : Int32) (-1 : Int32) (0 : Int32) I A
def f_understood (x1 : Int32) (x2 : Int32) (I : Nat → Int32) (A : Nat → Nat → Int32) : Option (Int32 × MS) := f_understood_0 x1 x2 I A
def f_sign_24 (t0 : Int32) (I : Nat → Int32) (A : Nat → Nat → Int32) : Option (Int32 × MS) :=
  m_chk (vp_nar .char t0 = t0) (some (t0, (I, A)))
def f_sign_0 (I : Nat → Int32) (A : Nat → Nat → Int32) : Option (Int32 × MS) :=
  m_if ((I 39) ≤ (I 38)) (
  f_sign_24 (0 : Int32) I A
  ) (
  m_chk (¬ ((I 38) < 0 ∨ 1536 ≤ ((I 38)).toNatClampNeg)) (
  m_bnd (A 22 ((I 38)).toNatClampNeg) (fun v1 =>
  f_sign_24 v1 I A))
  )
def f_sign (I : Nat → Int32) (A : Nat → Nat → Int32) : Option (Int32 × MS) := f_sign_0  I A
def f_pass_13 (t0 : Int32) (I : Nat → Int32) (A : Nat → Nat → Int32) : Option (Int32 × MS) :=
  m_bnd ((I 38) + (1 : Int32)) (fun v1 =>
  m_bnd (upd I 38 v1) (fun I2 =>
  m_chk (vp_nar .boolean t0 = t0) (some (t0, (I2, A)))))
def f_pass_0 (x1 : Int32) (I : Nat → Int32) (A : Nat → Nat → Int32) : Option (Int32 × MS) :=
  m_cl (f_sign  I A) (fun r1 Ic1 Ac1 =>
  m_if (r1 = x1) (
  f_pass_13 (1 : Int32) Ic1 Ac1
  ) (
  f_pass_13 (0 : Int32) Ic1 Ac1
  ))
def f_pass (x1 : Int32) (I : Nat → Int32) (A : Nat → Nat → Int32) : Option (Int32 × MS) := f_pass_0 x1 I A
def f_manOf_135 (rec : Int32 → (Nat → Int32) → (Nat → Nat → Int32) → Option (Int32 × MS)) (t0 : Int32) (I : Nat → Int32) (A : Nat → Nat → Int32) : Option (Int32 × MS) :=
  some (t0, (I, A))
def f_manOf_134 (rec : Int32 → (Nat → Int32) → (Nat → Nat → Int32) → Option (Int32 × MS)) (I : Nat → Int32) (A : Nat → Nat → Int32) : Option (Int32 × MS) :=
  f_manOf_135 rec (0 : Int32) I A
def f_manOf_0 (rec : Int32 → (Nat → Int32) → (Nat → Nat → Int32) → Option (Int32 × MS)) (x0 : Int32) (I : Nat → Int32) (A : Nat → Nat → Int32) : Option (Int32 × MS) :=
  m_if (x0 = (66 : Int32)) (
  some ((3 : Int32), (I, A))
  ) (
  m_if (x0 = (75 : Int32)) (
  some ((6 : Int32), (I, A))
  ) (
  m_if (x0 = (78 : Int32)) (
  some ((2 : Int32), (I, A))
  ) (
  m_if (x0 = (80 : Int32)) (
  some ((1 : Int32), (I, A))
  ) (
  m_if (x0 = (81 : Int32)) (
  some ((5 : Int32), (I, A))
  ) (
  m_if (x0 = (82 : Int32)) (
  some ((4 : Int32), (I, A))
  ) (
  m_if (x0 < (97 : Int32)) (
  f_manOf_134 rec  I A
  ) (
  m_if ((122 : Int32) < x0) (
  f_manOf_134 rec  I A
  ) (
  m_bnd (x0 - (32 : Int32)) (fun v1 =>
  m_bnd ((v1.toUInt32 % 65536).toInt32) (fun v2 =>
  m_cl (rec v2 I A) (fun r3 Ic3 Ac3 =>
  m_if (r3 ≤ 0) (
  f_manOf_134 rec  Ic3 Ac3
  ) (
  m_bnd (x0 - (32 : Int32)) (fun v4 =>
  m_bnd ((v4.toUInt32 % 65536).toInt32) (fun v5 =>
  m_cl (rec v5 Ic3 Ac3) (fun r6 Ic6 Ac6 =>
  m_bnd (r6 + (8 : Int32)) (fun v7 =>
  f_manOf_135 rec v7 Ic6 Ac6))))
  ))))
  )
  )
  ))))))
def fr_manOf : Nat → Int32 → (Nat → Int32) → (Nat → Nat → Int32) → Option (Int32 × MS)
  | 0 => fun _ _ _ => none
  | n + 1 => fun x0 I A => f_manOf_0 (fr_manOf n) x0 I A
def f_manOf (x0 : Int32) (I : Nat → Int32) (A : Nat → Nat → Int32) : Option (Int32 × MS) := fr_manOf 3 x0 I A
def f_readRank_106 (t0 : Int32) (I : Nat → Int32) (A : Nat → Nat → Int32) : Option (Int32 × MS) :=
  m_chk (vp_nar .boolean t0 = t0) (some (t0, (I, A)))
def f_readRank_82 (self4 : Int32 → Int32 → Int32 → (Nat → Int32) → (Nat → Nat → Int32) → Option (Int32 × MS)) (x1 : Int32) (x2 : Int32) (x3 : Int32) (I : Nat → Int32) (A : Nat → Nat → Int32) : Option (Int32 × MS) :=
  m_bnd ((I 38) + (1 : Int32)) (fun v1 =>
  m_bnd (upd I 38 v1) (fun I2 =>
  self4 x1 x2 x3 I2 A))
def f_readRank_54 (self4 : Int32 → Int32 → Int32 → (Nat → Int32) → (Nat → Nat → Int32) → Option (Int32 × MS)) (x1 : Int32) (x2 : Int32) (x5 : Int32) (I : Nat → Int32) (A : Nat → Nat → Int32) : Option (Int32 × MS) :=
  m_if (x5 ≤ 0) (
  m_chk (vp_nar .boolean (0 : Int32) = (0 : Int32)) (some ((0 : Int32), (I, A)))
  ) (
  m_bnd ((8 : Int32) * x1) (fun v1 =>
  m_bnd (v1 + x2) (fun v2 =>
  m_chk (¬ (v2 < 0 ∨ 64 ≤ (v2).toNatClampNeg)) (
  m_bnd (va_up A 24 (upd (A 24) (v2).toNatClampNeg x5)) (fun A3 =>
  m_bnd (x2 + (1 : Int32)) (fun v4 =>
  f_readRank_82 self4 x1 v4 (0 : Int32) I A3)))))
  )
def f_readRank_4s (self4 : Int32 → Int32 → Int32 → (Nat → Int32) → (Nat → Nat → Int32) → Option (Int32 × MS)) (x1 : Int32) (x2 : Int32) (x3 : Int32) (I : Nat → Int32) (A : Nat → Nat → Int32) : Option (Int32 × MS) :=
  m_if ((8 : Int32) ≤ x2) (
  m_if (x2 = (8 : Int32)) (
  f_readRank_106 (1 : Int32) I A
  ) (
  f_readRank_106 (0 : Int32) I A
  )
  ) (
  m_cl (f_sign  I A) (fun r1 Ic1 Ac1 =>
  m_cl (f_manOf r1 Ic1 Ac1) (fun r2 Ic2 Ac2 =>
  m_if (r1 < (49 : Int32)) (
  f_readRank_54 self4 x1 x2 r2 Ic2 Ac2
  ) (
  m_if ((56 : Int32) < r1) (
  f_readRank_54 self4 x1 x2 r2 Ic2 Ac2
  ) (
  m_if (x3 = 0) (
  m_bnd (x2 + r1) (fun v3 =>
  m_bnd (v3 - (48 : Int32)) (fun v4 =>
  f_readRank_82 self4 x1 v4 (1 : Int32) Ic2 Ac2))
  ) (
  f_readRank_54 self4 x1 x2 r2 Ic2 Ac2
  )
  )
  )))
  )
def f_readRank_4 : Nat → Int32 → Int32 → Int32 → (Nat → Int32) → (Nat → Nat → Int32) → Option (Int32 × MS)
  | 0 => fun _ _ _ _ _ => none
  | n + 1 => f_readRank_4s (f_readRank_4 n)
def f_readRank_0 (x1 : Int32) (I : Nat → Int32) (A : Nat → Nat → Int32) : Option (Int32 × MS) :=
  f_readRank_4 mFuel x1 (0 : Int32) (0 : Int32) I A
def f_readRank (x1 : Int32) (I : Nat → Int32) (A : Nat → Nat → Int32) : Option (Int32 × MS) := f_readRank_0 x1 I A
def f_readNumber_86 (t0 : Int32) (I : Nat → Int32) (A : Nat → Nat → Int32) : Option (Int32 × MS) :=
  some (t0, (I, A))
def f_readNumber_81 (I : Nat → Int32) (A : Nat → Nat → Int32) : Option (Int32 × MS) :=
  f_readNumber_86 (-1 : Int32) I A
def f_readNumber_85 (x1 : Int32) (I : Nat → Int32) (A : Nat → Nat → Int32) : Option (Int32 × MS) :=
  f_readNumber_86 x1 I A
def f_readNumber_61 (x1 : Int32) (x2 : Int32) (x3 : Int32) (I : Nat → Int32) (A : Nat → Nat → Int32) : Option (Int32 × MS) :=
  m_if (x2 = 0) (
  f_readNumber_81  I A
  ) (
  m_if ((3 : Int32) < x2) (
  f_readNumber_81  I A
  ) (
  m_if (x2 ≤ (1 : Int32)) (
  f_readNumber_85 x1 I A
  ) (
  m_if (x3 = (48 : Int32)) (
  f_readNumber_81  I A
  ) (
  f_readNumber_85 x1 I A
  )
  )
  )
  )
def f_readNumber_9s (self9 : Int32 → Int32 → Int32 → (Nat → Int32) → (Nat → Nat → Int32) → Option (Int32 × MS)) (x1 : Int32) (x2 : Int32) (x3 : Int32) (I : Nat → Int32) (A : Nat → Nat → Int32) : Option (Int32 × MS) :=
  m_cl (f_sign  I A) (fun r1 Ic1 Ac1 =>
  m_if (r1 < (48 : Int32)) (
  f_readNumber_61 x1 x2 x3 Ic1 Ac1
  ) (
  m_cl (f_sign  Ic1 Ac1) (fun r2 Ic2 Ac2 =>
  m_if ((57 : Int32) < r2) (
  f_readNumber_61 x1 x2 x3 Ic2 Ac2
  ) (
  m_if ((4 : Int32) ≤ x2) (
  f_readNumber_61 x1 x2 x3 Ic2 Ac2
  ) (
  m_bnd ((10 : Int32) * x1) (fun v3 =>
  m_cl (f_sign  Ic2 Ac2) (fun r4 Ic4 Ac4 =>
  m_bnd (v3 + r4) (fun v5 =>
  m_bnd (v5 - (48 : Int32)) (fun v6 =>
  m_bnd (x2 + (1 : Int32)) (fun v7 =>
  m_bnd ((Ic4 38) + (1 : Int32)) (fun v8 =>
  m_bnd (upd Ic4 38 v8) (fun I9 =>
  self9 v6 v7 x3 I9 Ac4)))))))
  )
  ))
  ))
def f_readNumber_9 : Nat → Int32 → Int32 → Int32 → (Nat → Int32) → (Nat → Nat → Int32) → Option (Int32 × MS)
  | 0 => fun _ _ _ _ _ => none
  | n + 1 => f_readNumber_9s (f_readNumber_9 n)
def f_readNumber_0 (I : Nat → Int32) (A : Nat → Nat → Int32) : Option (Int32 × MS) :=
  m_cl (f_sign  I A) (fun r1 Ic1 Ac1 =>
  f_readNumber_9 mFuel (0 : Int32) (0 : Int32) r1 Ic1 Ac1)
def f_readNumber (I : Nat → Int32) (A : Nat → Nat → Int32) : Option (Int32 × MS) := f_readNumber_0  I A
def f_readRights_106 (t0 : Int32) (I : Nat → Int32) (A : Nat → Nat → Int32) : Option (Int32 × MS) :=
  m_chk (vp_nar .boolean t0 = t0) (some (t0, (I, A)))
def f_readRights_88 (self23 : Int32 → (Nat → Int32) → (Nat → Nat → Int32) → Option (Int32 × MS)) (x1 : Int32) (I : Nat → Int32) (A : Nat → Nat → Int32) : Option (Int32 × MS) :=
  m_bnd (x1 + (1 : Int32)) (fun v1 =>
  self23 v1 I A)
def f_readRights_63 (self23 : Int32 → (Nat → Int32) → (Nat → Nat → Int32) → Option (Int32 × MS)) (x1 : Int32) (t0 : Int32) (t1 : Int32) (I : Nat → Int32) (A : Nat → Nat → Int32) : Option (Int32 × MS) :=
  m_if (t1 = t0) (
  m_bnd ((1 : Int32) <<< (x1 &&& 31)) (fun v1 =>
  m_bnd ((I 26) + v1) (fun v2 =>
  m_bnd (upd I 26 v2) (fun I3 =>
  m_bnd ((I3 38) + (1 : Int32)) (fun v4 =>
  m_bnd (upd I3 38 v4) (fun I5 =>
  f_readRights_88 self23 x1 I5 A)))))
  ) (
  f_readRights_88 self23 x1 I A
  )
def f_readRights_23s (self23 : Int32 → (Nat → Int32) → (Nat → Nat → Int32) → Option (Int32 × MS)) (x1 : Int32) (I : Nat → Int32) (A : Nat → Nat → Int32) : Option (Int32 × MS) :=
  m_if ((4 : Int32) ≤ x1) (
  m_if ((I 26) ≤ 0) (
  f_readRights_106 (0 : Int32) I A
  ) (
  f_readRights_106 (1 : Int32) I A
  )
  ) (
  m_cl (f_sign  I A) (fun r1 Ic1 Ac1 =>
  m_if (x1 = 0) (
  f_readRights_63 self23 x1 (75 : Int32) r1 Ic1 Ac1
  ) (
  m_if (x1 = (1 : Int32)) (
  f_readRights_63 self23 x1 (81 : Int32) r1 Ic1 Ac1
  ) (
  m_if (x1 = (2 : Int32)) (
  f_readRights_63 self23 x1 (107 : Int32) r1 Ic1 Ac1
  ) (
  f_readRights_63 self23 x1 (113 : Int32) r1 Ic1 Ac1
  )
  )
  ))
  )
def f_readRights_23 : Nat → Int32 → (Nat → Int32) → (Nat → Nat → Int32) → Option (Int32 × MS)
  | 0 => fun _ _ _ => none
  | n + 1 => f_readRights_23s (f_readRights_23 n)
def f_readRights_0 (I : Nat → Int32) (A : Nat → Nat → Int32) : Option (Int32 × MS) :=
  m_bnd (upd I 26 (0 : Int32)) (fun I1 =>
  m_cl (f_sign  I1 A) (fun r2 Ic2 Ac2 =>
  m_if (r2 = (45 : Int32)) (
  m_cl (f_pass (45 : Int32) Ic2 Ac2) (fun r3 Ic3 Ac3 =>
  m_chk (vp_nar .boolean r3 = r3) (some (r3, (Ic3, Ac3))))
  ) (
  f_readRights_23 mFuel (0 : Int32) Ic2 Ac2
  )))
def f_readRights (I : Nat → Int32) (A : Nat → Nat → Int32) : Option (Int32 × MS) := f_readRights_0  I A
def f_readPassed_103 (t0 : Int32) (I : Nat → Int32) (A : Nat → Nat → Int32) : Option (Int32 × MS) :=
  m_chk (vp_nar .boolean t0 = t0) (some (t0, (I, A)))
def f_readPassed_88 (t0 : Int32) (I : Nat → Int32) (A : Nat → Nat → Int32) : Option (Int32 × MS) :=
  m_bnd (upd I 27 t0) (fun I1 =>
  m_if ((I1 27) < 0) (
  f_readPassed_103 (0 : Int32) I1 A
  ) (
  f_readPassed_103 (1 : Int32) I1 A
  ))
def f_readPassed_87 (I : Nat → Int32) (A : Nat → Nat → Int32) : Option (Int32 × MS) :=
  f_readPassed_88 (-1 : Int32) I A
def f_readPassed_0 (I : Nat → Int32) (A : Nat → Nat → Int32) : Option (Int32 × MS) :=
  m_bnd (upd I 27 (-1 : Int32)) (fun I1 =>
  m_cl (f_sign  I1 A) (fun r2 Ic2 Ac2 =>
  m_if (r2 = (45 : Int32)) (
  m_cl (f_pass (45 : Int32) Ic2 Ac2) (fun r13 Ic13 Ac13 =>
  m_chk (vp_nar .boolean r13 = r13) (some (r13, (Ic13, Ac13))))
  ) (
  m_cl (f_sign  Ic2 Ac2) (fun r3 Ic3 Ac3 =>
  m_bnd (r3 - (97 : Int32)) (fun v4 =>
  m_bnd ((Ic3 38) + (1 : Int32)) (fun v5 =>
  m_bnd (upd Ic3 38 v5) (fun I6 =>
  m_cl (f_sign  I6 Ac3) (fun r7 Ic7 Ac7 =>
  m_bnd (r7 - (49 : Int32)) (fun v8 =>
  m_bnd ((Ic7 38) + (1 : Int32)) (fun v9 =>
  m_bnd (upd Ic7 38 v9) (fun I10 =>
  m_if (v4 < 0) (
  f_readPassed_87  I10 Ac7
  ) (
  m_if ((8 : Int32) ≤ v4) (
  f_readPassed_87  I10 Ac7
  ) (
  m_if (v8 < 0) (
  f_readPassed_87  I10 Ac7
  ) (
  m_if ((8 : Int32) ≤ v8) (
  f_readPassed_87  I10 Ac7
  ) (
  m_bnd ((8 : Int32) * v8) (fun v11 =>
  m_bnd (v11 + v4) (fun v12 =>
  f_readPassed_88 v12 I10 Ac7))
  )
  )
  )
  )))))))))
  )))
def f_readPassed (I : Nat → Int32) (A : Nat → Nat → Int32) : Option (Int32 × MS) := f_readPassed_0  I A
def f_countOf_27 (self4 : Int32 → Int32 → Int32 → (Nat → Int32) → (Nat → Nat → Int32) → Option (Int32 × MS)) (x1 : Int32) (x3 : Int32) (t0 : Int32) (I : Nat → Int32) (A : Nat → Nat → Int32) : Option (Int32 × MS) :=
  m_bnd (x3 + (1 : Int32)) (fun v1 =>
  self4 x1 t0 v1 I A)
def f_countOf_4s (self4 : Int32 → Int32 → Int32 → (Nat → Int32) → (Nat → Nat → Int32) → Option (Int32 × MS)) (x1 : Int32) (x2 : Int32) (x3 : Int32) (I : Nat → Int32) (A : Nat → Nat → Int32) : Option (Int32 × MS) :=
  m_if ((64 : Int32) ≤ x3) (
  some (x2, (I, A))
  ) (
  m_chk (¬ (x3 < 0 ∨ 64 ≤ (x3).toNatClampNeg)) (
  m_bnd (A 24 (x3).toNatClampNeg) (fun v1 =>
  m_if (v1 = x1) (
  m_bnd (x2 + (1 : Int32)) (fun v2 =>
  f_countOf_27 self4 x1 x3 v2 I A)
  ) (
  f_countOf_27 self4 x1 x3 x2 I A
  )))
  )
def f_countOf_4 : Nat → Int32 → Int32 → Int32 → (Nat → Int32) → (Nat → Nat → Int32) → Option (Int32 × MS)
  | 0 => fun _ _ _ _ _ => none
  | n + 1 => f_countOf_4s (f_countOf_4 n)
def f_countOf_0 (x1 : Int32) (I : Nat → Int32) (A : Nat → Nat → Int32) : Option (Int32 × MS) :=
  f_countOf_4 mFuel x1 (0 : Int32) (0 : Int32) I A
def f_countOf (x1 : Int32) (I : Nat → Int32) (A : Nat → Nat → Int32) : Option (Int32 × MS) := f_countOf_0 x1 I A
def f_mayStand_20 (I : Nat → Int32) (A : Nat → Nat → Int32) : Option (Int32 × MS) :=
  m_chk (vp_nar .boolean (0 : Int32) = (0 : Int32)) (some ((0 : Int32), (I, A)))
def f_mayStand_202 (x1 : Int32) (I : Nat → Int32) (A : Nat → Nat → Int32) : Option (Int32 × MS) :=
  m_chk (vp_nar .boolean x1 = x1) (some (x1, (I, A)))
def f_mayStand_383 (t0 : Int32) (I : Nat → Int32) (A : Nat → Nat → Int32) : Option (Int32 × MS) :=
  m_chk (vp_nar .boolean t0 = t0) (some (t0, (I, A)))
def f_mayStand_382 (I : Nat → Int32) (A : Nat → Nat → Int32) : Option (Int32 × MS) :=
  f_mayStand_383 (0 : Int32) I A
def f_mayStand_378 (I : Nat → Int32) (A : Nat → Nat → Int32) : Option (Int32 × MS) :=
  f_mayStand_383 (1 : Int32) I A
def f_mayStand_320 (x3 : Int32) (t0 : Int32) (I : Nat → Int32) (A : Nat → Nat → Int32) : Option (Int32 × MS) :=
  m_if (x3 = 0) (
  f_mayStand_382  I A
  ) (
  m_cl (f_step (I 27) (-1 : Int32) t0 I A) (fun r1 Ic1 Ac1 =>
  m_bnd ((8 : Int32) * (Ic1 25)) (fun v2 =>
  m_bnd ((1 : Int32) + v2) (fun v3 =>
  m_cl (f_stands r1 v3 Ic1 Ac1) (fun r4 Ic4 Ac4 =>
  m_if (r4 = 0) (
  m_cl (f_step (Ic4 27) (1 : Int32) t0 Ic4 Ac4) (fun r5 Ic5 Ac5 =>
  m_bnd ((8 : Int32) * (Ic5 25)) (fun v6 =>
  m_bnd ((1 : Int32) + v6) (fun v7 =>
  m_cl (f_stands r5 v7 Ic5 Ac5) (fun r8 Ic8 Ac8 =>
  m_if (r8 = 0) (
  f_mayStand_382  Ic8 Ac8
  ) (
  f_mayStand_378  Ic8 Ac8
  )))))
  ) (
  f_mayStand_378  Ic4 Ac4
  )))))
  )
def f_mayStand_307 (t0 : Int32) (I : Nat → Int32) (A : Nat → Nat → Int32) : Option (Int32 × MS) :=
  m_if ((I 25) = 0) (
  f_mayStand_320 t0 (-1 : Int32) I A
  ) (
  f_mayStand_320 t0 (1 : Int32) I A
  )
def f_mayStand_306 (I : Nat → Int32) (A : Nat → Nat → Int32) : Option (Int32 × MS) :=
  f_mayStand_307 (0 : Int32) I A
def f_mayStand_258 (x2 : Int32) (t0 : Int32) (I : Nat → Int32) (A : Nat → Nat → Int32) : Option (Int32 × MS) :=
  m_if (t0 = 0) (
  f_mayStand_306  I A
  ) (
  m_bnd ((I 27) + x2) (fun v1 =>
  m_chk (¬ (v1 < 0 ∨ 64 ≤ (v1).toNatClampNeg)) (
  m_bnd (A 24 (v1).toNatClampNeg) (fun v2 =>
  m_if (v2 = 0) (
  m_bnd ((I 27) - x2) (fun v3 =>
  m_chk (¬ (v3 < 0 ∨ 64 ≤ (v3).toNatClampNeg)) (
  m_bnd (A 24 (v3).toNatClampNeg) (fun v4 =>
  m_bnd ((1 : Int32) - (I 25)) (fun v5 =>
  m_bnd ((8 : Int32) * v5) (fun v6 =>
  m_bnd ((1 : Int32) + v6) (fun v7 =>
  m_if (v4 = v7) (
  f_mayStand_307 (1 : Int32) I A
  ) (
  f_mayStand_306  I A
  )))))))
  ) (
  f_mayStand_306  I A
  ))))
  )
def f_mayStand_257 (x2 : Int32) (I : Nat → Int32) (A : Nat → Nat → Int32) : Option (Int32 × MS) :=
  f_mayStand_258 x2 (0 : Int32) I A
def f_mayStand_238 (x2 : Int32) (t0 : Int32) (t1 : Int32) (I : Nat → Int32) (A : Nat → Nat → Int32) : Option (Int32 × MS) :=
  m_if (t1 = t0) (
  m_chk (¬ ((I 27) < 0 ∨ 64 ≤ ((I 27)).toNatClampNeg)) (
  m_bnd (A 24 ((I 27)).toNatClampNeg) (fun v1 =>
  m_if (v1 = 0) (
  f_mayStand_258 x2 (1 : Int32) I A
  ) (
  f_mayStand_257 x2 I A
  )))
  ) (
  f_mayStand_257 x2 I A
  )
def f_mayStand_218 (t0 : Int32) (I : Nat → Int32) (A : Nat → Nat → Int32) : Option (Int32 × MS) :=
  m_bnd ((I 27) / (8 : Int32)) (fun v1 =>
  m_if ((I 25) = 0) (
  f_mayStand_238 t0 (5 : Int32) v1 I A
  ) (
  f_mayStand_238 t0 (2 : Int32) v1 I A
  ))
def f_mayStand_184 (self102 : Int32 → Int32 → (Nat → Int32) → (Nat → Nat → Int32) → Option (Int32 × MS)) (x2 : Int32) (t0 : Int32) (I : Nat → Int32) (A : Nat → Nat → Int32) : Option (Int32 × MS) :=
  m_bnd (x2 + (1 : Int32)) (fun v1 =>
  self102 t0 v1 I A)
def f_mayStand_183 (self102 : Int32 → Int32 → (Nat → Int32) → (Nat → Nat → Int32) → Option (Int32 × MS)) (x2 : Int32) (I : Nat → Int32) (A : Nat → Nat → Int32) : Option (Int32 × MS) :=
  f_mayStand_184 self102 x2 (0 : Int32) I A
def f_mayStand_179 (self102 : Int32 → Int32 → (Nat → Int32) → (Nat → Nat → Int32) → Option (Int32 × MS)) (x2 : Int32) (I : Nat → Int32) (A : Nat → Nat → Int32) : Option (Int32 × MS) :=
  f_mayStand_184 self102 x2 (1 : Int32) I A
def f_mayStand_170 (self102 : Int32 → Int32 → (Nat → Int32) → (Nat → Nat → Int32) → Option (Int32 × MS)) (x2 : Int32) (x4 : Int32) (t0 : Int32) (t1 : Int32) (I : Nat → Int32) (A : Nat → Nat → Int32) : Option (Int32 × MS) :=
  m_bnd (t1 + t0) (fun v1 =>
  m_chk (¬ (v1 < 0 ∨ 64 ≤ (v1).toNatClampNeg)) (
  m_bnd (A 24 (v1).toNatClampNeg) (fun v2 =>
  m_bnd ((4 : Int32) + x4) (fun v3 =>
  m_if (v2 = v3) (
  f_mayStand_179 self102 x2 I A
  ) (
  f_mayStand_183 self102 x2 I A
  )))))
def f_mayStand_102s (self102 : Int32 → Int32 → (Nat → Int32) → (Nat → Nat → Int32) → Option (Int32 × MS)) (x1 : Int32) (x2 : Int32) (I : Nat → Int32) (A : Nat → Nat → Int32) : Option (Int32 × MS) :=
  m_if ((4 : Int32) ≤ x2) (
  m_if ((I 27) < 0) (
  f_mayStand_202 x1 I A
  ) (
  m_if (x1 = 0) (
  f_mayStand_202 x1 I A
  ) (
  m_if ((I 25) = 0) (
  f_mayStand_218 (8 : Int32) I A
  ) (
  f_mayStand_218 (-8 : Int32) I A
  )
  )
  )
  ) (
  m_bnd (x2 / (2 : Int32)) (fun v1 =>
  m_bnd ((56 : Int32) * v1) (fun v2 =>
  m_bnd (x2 / (2 : Int32)) (fun v3 =>
  m_bnd ((8 : Int32) * v3) (fun v4 =>
  m_if (x1 = 0) (
  f_mayStand_183 self102 x2 I A
  ) (
  m_bnd ((I 26) >>> (x2 &&& 31)) (fun v5 =>
  m_bnd (v5 &&& (1 : Int32)) (fun v6 =>
  m_if (v6 = 0) (
  f_mayStand_179 self102 x2 I A
  ) (
  m_bnd (v2 + (4 : Int32)) (fun v7 =>
  m_chk (¬ (v7 < 0 ∨ 64 ≤ (v7).toNatClampNeg)) (
  m_bnd (A 24 (v7).toNatClampNeg) (fun v8 =>
  m_bnd ((6 : Int32) + v4) (fun v9 =>
  m_if (v8 = v9) (
  m_bnd (x2 - x2 / (2 : Int32) * (2 : Int32)) (fun v10 =>
  m_if (v10 = 0) (
  f_mayStand_170 self102 x2 v4 (7 : Int32) v2 I A
  ) (
  f_mayStand_170 self102 x2 v4 (0 : Int32) v2 I A
  ))
  ) (
  f_mayStand_183 self102 x2 I A
  )))))
  )))
  )))))
  )
def f_mayStand_102 : Nat → Int32 → Int32 → (Nat → Int32) → (Nat → Nat → Int32) → Option (Int32 × MS)
  | 0 => fun _ _ _ _ => none
  | n + 1 => f_mayStand_102s (f_mayStand_102 n)
def f_mayStand_99 (t0 : Int32) (I : Nat → Int32) (A : Nat → Nat → Int32) : Option (Int32 × MS) :=
  f_mayStand_102 mFuel t0 (0 : Int32) I A
def f_mayStand_98 (I : Nat → Int32) (A : Nat → Nat → Int32) : Option (Int32 × MS) :=
  f_mayStand_99 (0 : Int32) I A
def f_mayStand_70 (self26 : Int32 → Int32 → (Nat → Int32) → (Nat → Nat → Int32) → Option (Int32 × MS)) (x2 : Int32) (t0 : Int32) (I : Nat → Int32) (A : Nat → Nat → Int32) : Option (Int32 × MS) :=
  m_bnd (x2 + (1 : Int32)) (fun v1 =>
  self26 t0 v1 I A)
def f_mayStand_69 (self26 : Int32 → Int32 → (Nat → Int32) → (Nat → Nat → Int32) → Option (Int32 × MS)) (x2 : Int32) (I : Nat → Int32) (A : Nat → Nat → Int32) : Option (Int32 × MS) :=
  f_mayStand_70 self26 x2 (0 : Int32) I A
def f_mayStand_26s (self26 : Int32 → Int32 → (Nat → Int32) → (Nat → Nat → Int32) → Option (Int32 × MS)) (x1 : Int32) (x2 : Int32) (I : Nat → Int32) (A : Nat → Nat → Int32) : Option (Int32 × MS) :=
  m_if ((8 : Int32) ≤ x2) (
  m_if (x1 = 0) (
  f_mayStand_98  I A
  ) (
  m_bnd ((1 : Int32) - (I 25)) (fun v1 =>
  m_cl (f_isInCheck v1 I A) (fun r2 Ic2 Ac2 =>
  m_if (r2 = 0) (
  f_mayStand_99 (1 : Int32) Ic2 Ac2
  ) (
  f_mayStand_98  Ic2 Ac2
  )))
  )
  ) (
  m_if (x1 = 0) (
  f_mayStand_69 self26 x2 I A
  ) (
  m_chk (¬ (x2 < 0 ∨ 64 ≤ (x2).toNatClampNeg)) (
  m_bnd (A 24 (x2).toNatClampNeg) (fun v3 =>
  m_cl (f_kind v3 I A) (fun r4 Ic4 Ac4 =>
  m_if (r4 = (1 : Int32)) (
  f_mayStand_69 self26 x2 Ic4 Ac4
  ) (
  m_bnd ((56 : Int32) + x2) (fun v5 =>
  m_chk (¬ (v5 < 0 ∨ 64 ≤ (v5).toNatClampNeg)) (
  m_bnd (Ac4 24 (v5).toNatClampNeg) (fun v6 =>
  m_cl (f_kind v6 Ic4 Ac4) (fun r7 Ic7 Ac7 =>
  m_if (r7 = (1 : Int32)) (
  f_mayStand_69 self26 x2 Ic7 Ac7
  ) (
  f_mayStand_70 self26 x2 (1 : Int32) Ic7 Ac7
  )))))
  ))))
  )
  )
def f_mayStand_26 : Nat → Int32 → Int32 → (Nat → Int32) → (Nat → Nat → Int32) → Option (Int32 × MS)
  | 0 => fun _ _ _ _ => none
  | n + 1 => f_mayStand_26s (f_mayStand_26 n)
def f_mayStand_0 (I : Nat → Int32) (A : Nat → Nat → Int32) : Option (Int32 × MS) :=
  m_cl (f_countOf (6 : Int32) I A) (fun r1 Ic1 Ac1 =>
  m_if (r1 = (1 : Int32)) (
  m_cl (f_countOf (14 : Int32) Ic1 Ac1) (fun r2 Ic2 Ac2 =>
  m_if (r2 = (1 : Int32)) (
  f_mayStand_26 mFuel (1 : Int32) (0 : Int32) Ic2 Ac2
  ) (
  f_mayStand_20  Ic2 Ac2
  ))
  ) (
  f_mayStand_20  Ic1 Ac1
  ))
def f_mayStand (I : Nat → Int32) (A : Nat → Nat → Int32) : Option (Int32 × MS) := f_mayStand_0  I A
def f_readPosition_289 (t0 : Int32) (I : Nat → Int32) (A : Nat → Nat → Int32) : Option (Int32 × MS) :=
  m_chk (vp_nar .boolean t0 = t0) (some (t0, (I, A)))
def f_readPosition_288 (I : Nat → Int32) (A : Nat → Nat → Int32) : Option (Int32 × MS) :=
  f_readPosition_289 (0 : Int32) I A
def f_readPosition_252 (x3 : Int32) (t0 : Int32) (I : Nat → Int32) (A : Nat → Nat → Int32) : Option (Int32 × MS) :=
  m_bnd (upd I 29 t0) (fun I1 =>
  m_if (x3 = 0) (
  f_readPosition_288  I1 A
  ) (
  m_if ((I1 29) ≤ 0) (
  f_readPosition_288  I1 A
  ) (
  m_if ((I1 38) = (I1 39)) (
  m_cl (f_mayStand  I1 A) (fun r2 Ic2 Ac2 =>
  m_if (r2 = 0) (
  f_readPosition_288  Ic2 Ac2
  ) (
  f_readPosition_289 (1 : Int32) Ic2 Ac2
  ))
  ) (
  f_readPosition_288  I1 A
  )
  )
  ))
def f_readPosition_238 (t0 : Int32) (I : Nat → Int32) (A : Nat → Nat → Int32) : Option (Int32 × MS) :=
  m_if (t0 = 0) (
  f_readPosition_252 t0 (-1 : Int32) I A
  ) (
  m_cl (f_readNumber  I A) (fun r1 Ic1 Ac1 =>
  f_readPosition_252 t0 r1 Ic1 Ac1)
  )
def f_readPosition_237 (I : Nat → Int32) (A : Nat → Nat → Int32) : Option (Int32 × MS) :=
  f_readPosition_238 (0 : Int32) I A
def f_readPosition_210 (x3 : Int32) (t0 : Int32) (I : Nat → Int32) (A : Nat → Nat → Int32) : Option (Int32 × MS) :=
  m_bnd (upd I 28 t0) (fun I1 =>
  m_if (x3 = 0) (
  f_readPosition_237  I1 A
  ) (
  m_if ((I1 28) < 0) (
  f_readPosition_237  I1 A
  ) (
  m_cl (f_pass (32 : Int32) I1 A) (fun r2 Ic2 Ac2 =>
  m_if (r2 = 0) (
  f_readPosition_237  Ic2 Ac2
  ) (
  f_readPosition_238 (1 : Int32) Ic2 Ac2
  ))
  )
  ))
def f_readPosition_196 (t0 : Int32) (I : Nat → Int32) (A : Nat → Nat → Int32) : Option (Int32 × MS) :=
  m_if (t0 = 0) (
  f_readPosition_210 t0 (-1 : Int32) I A
  ) (
  m_cl (f_readNumber  I A) (fun r1 Ic1 Ac1 =>
  f_readPosition_210 t0 r1 Ic1 Ac1)
  )
def f_readPosition_195 (I : Nat → Int32) (A : Nat → Nat → Int32) : Option (Int32 × MS) :=
  f_readPosition_196 (0 : Int32) I A
def f_readPosition_135 (t0 : Int32) (I : Nat → Int32) (A : Nat → Nat → Int32) : Option (Int32 × MS) :=
  m_bnd ((I 38) + (1 : Int32)) (fun v1 =>
  m_bnd (upd I 38 v1) (fun I2 =>
  m_if (t0 = 0) (
  f_readPosition_195  I2 A
  ) (
  m_cl (f_pass (32 : Int32) I2 A) (fun r3 Ic3 Ac3 =>
  m_if (r3 = 0) (
  f_readPosition_195  Ic3 Ac3
  ) (
  m_cl (f_readRights  Ic3 Ac3) (fun r4 Ic4 Ac4 =>
  m_if (r4 = 0) (
  f_readPosition_195  Ic4 Ac4
  ) (
  m_cl (f_pass (32 : Int32) Ic4 Ac4) (fun r5 Ic5 Ac5 =>
  m_if (r5 = 0) (
  f_readPosition_195  Ic5 Ac5
  ) (
  m_cl (f_readPassed  Ic5 Ac5) (fun r6 Ic6 Ac6 =>
  m_if (r6 = 0) (
  f_readPosition_195  Ic6 Ac6
  ) (
  m_cl (f_pass (32 : Int32) Ic6 Ac6) (fun r7 Ic7 Ac7 =>
  m_if (r7 = 0) (
  f_readPosition_195  Ic7 Ac7
  ) (
  f_readPosition_196 (1 : Int32) Ic7 Ac7
  ))
  ))
  ))
  ))
  ))
  )))
def f_readPosition_130 (I : Nat → Int32) (A : Nat → Nat → Int32) : Option (Int32 × MS) :=
  f_readPosition_135 (1 : Int32) I A
def f_readPosition_109 (t0 : Int32) (I : Nat → Int32) (A : Nat → Nat → Int32) : Option (Int32 × MS) :=
  m_bnd (upd I 25 t0) (fun I1 =>
  m_cl (f_sign  I1 A) (fun r2 Ic2 Ac2 =>
  m_if (r2 = (119 : Int32)) (
  f_readPosition_130  Ic2 Ac2
  ) (
  m_cl (f_sign  Ic2 Ac2) (fun r3 Ic3 Ac3 =>
  m_if (r3 = (98 : Int32)) (
  f_readPosition_130  Ic3 Ac3
  ) (
  f_readPosition_135 (0 : Int32) Ic3 Ac3
  ))
  )))
def f_readPosition_81 (self39 : Int32 → Int32 → (Nat → Int32) → (Nat → Nat → Int32) → Option (Int32 × MS)) (x4 : Int32) (t0 : Int32) (I : Nat → Int32) (A : Nat → Nat → Int32) : Option (Int32 × MS) :=
  m_bnd (x4 + (-1 : Int32)) (fun v1 =>
  self39 t0 v1 I A)
def f_readPosition_80 (self39 : Int32 → Int32 → (Nat → Int32) → (Nat → Nat → Int32) → Option (Int32 × MS)) (x4 : Int32) (I : Nat → Int32) (A : Nat → Nat → Int32) : Option (Int32 × MS) :=
  f_readPosition_81 self39 x4 (0 : Int32) I A
def f_readPosition_70 (self39 : Int32 → Int32 → (Nat → Int32) → (Nat → Nat → Int32) → Option (Int32 × MS)) (x4 : Int32) (t0 : Int32) (I : Nat → Int32) (A : Nat → Nat → Int32) : Option (Int32 × MS) :=
  m_cl (f_pass t0 I A) (fun r1 Ic1 Ac1 =>
  m_if (r1 = 0) (
  f_readPosition_80 self39 x4 Ic1 Ac1
  ) (
  f_readPosition_81 self39 x4 (1 : Int32) Ic1 Ac1
  ))
def f_readPosition_39s (self39 : Int32 → Int32 → (Nat → Int32) → (Nat → Nat → Int32) → Option (Int32 × MS)) (x3 : Int32) (x4 : Int32) (I : Nat → Int32) (A : Nat → Nat → Int32) : Option (Int32 × MS) :=
  m_if (x4 < 0) (
  m_if (x3 = 0) (
  m_chk (vp_nar .boolean (0 : Int32) = (0 : Int32)) (some ((0 : Int32), (I, A)))
  ) (
  m_cl (f_sign  I A) (fun r1 Ic1 Ac1 =>
  m_if (r1 = (119 : Int32)) (
  f_readPosition_109 (0 : Int32) Ic1 Ac1
  ) (
  f_readPosition_109 (1 : Int32) Ic1 Ac1
  ))
  )
  ) (
  m_if (x3 = 0) (
  f_readPosition_80 self39 x4 I A
  ) (
  m_cl (f_readRank x4 I A) (fun r2 Ic2 Ac2 =>
  m_if (r2 = 0) (
  f_readPosition_80 self39 x4 Ic2 Ac2
  ) (
  m_if (x4 ≤ 0) (
  f_readPosition_70 self39 x4 (32 : Int32) Ic2 Ac2
  ) (
  f_readPosition_70 self39 x4 (47 : Int32) Ic2 Ac2
  )
  ))
  )
  )
def f_readPosition_39 : Nat → Int32 → Int32 → (Nat → Int32) → (Nat → Nat → Int32) → Option (Int32 × MS)
  | 0 => fun _ _ _ _ => none
  | n + 1 => f_readPosition_39s (f_readPosition_39 n)
def f_readPosition_14s (self14 : Int32 → (Nat → Int32) → (Nat → Nat → Int32) → Option (Int32 × MS)) (x3 : Int32) (I : Nat → Int32) (A : Nat → Nat → Int32) : Option (Int32 × MS) :=
  m_if ((64 : Int32) ≤ x3) (
  f_readPosition_39 mFuel (1 : Int32) (7 : Int32) I A
  ) (
  m_chk (¬ (x3 < 0 ∨ 64 ≤ (x3).toNatClampNeg)) (
  m_bnd (va_up A 24 (upd (A 24) (x3).toNatClampNeg (0 : Int32))) (fun A1 =>
  m_bnd (x3 + (1 : Int32)) (fun v2 =>
  self14 v2 I A1)))
  )
def f_readPosition_14 : Nat → Int32 → (Nat → Int32) → (Nat → Nat → Int32) → Option (Int32 × MS)
  | 0 => fun _ _ _ => none
  | n + 1 => f_readPosition_14s (f_readPosition_14 n)
def f_readPosition_0 (x1 : Int32) (x2 : Int32) (I : Nat → Int32) (A : Nat → Nat → Int32) : Option (Int32 × MS) :=
  m_bnd (upd I 38 x1) (fun I1 =>
  m_bnd (x1 + x2) (fun v2 =>
  m_bnd (upd I1 39 v2) (fun I3 =>
  f_readPosition_14 mFuel (0 : Int32) I3 A)))
def f_readPosition (x1 : Int32) (x2 : Int32) (I : Nat → Int32) (A : Nat → Nat → Int32) : Option (Int32 × MS) := f_readPosition_0 x1 x2 I A
def f_look_24 (t0 : Int32) (I : Nat → Int32) (A : Nat → Nat → Int32) : Option (Int32 × MS) :=
  m_chk (vp_nar .char t0 = t0) (some (t0, (I, A)))
def f_look_0 (I : Nat → Int32) (A : Nat → Nat → Int32) : Option (Int32 × MS) :=
  m_if ((I 1) ≤ (I 37)) (
  f_look_24 (0 : Int32) I A
  ) (
  m_chk (¬ ((I 37) < 0 ∨ 2000 ≤ ((I 37)).toNatClampNeg)) (
  m_bnd (A 2 ((I 37)).toNatClampNeg) (fun v1 =>
  f_look_24 v1 I A))
  )
def f_look (I : Nat → Int32) (A : Nat → Nat → Int32) : Option (Int32 × MS) := f_look_0  I A
def f_blanks_52 (I : Nat → Int32) (A : Nat → Nat → Int32) : Option (Int32 × MS) :=
  some (0, (I, A))
def f_blanks_39 (self0 : (Nat → Int32) → (Nat → Nat → Int32) → Option (Int32 × MS)) (I : Nat → Int32) (A : Nat → Nat → Int32) : Option (Int32 × MS) :=
  m_bnd ((I 37) + (1 : Int32)) (fun v1 =>
  m_bnd (upd I 37 v1) (fun I2 =>
  self0  I2 A))
def f_blanks_0s (self0 : (Nat → Int32) → (Nat → Nat → Int32) → Option (Int32 × MS)) (I : Nat → Int32) (A : Nat → Nat → Int32) : Option (Int32 × MS) :=
  m_if ((I 1) ≤ (I 37)) (
  f_blanks_52  I A
  ) (
  m_chk (¬ ((I 37) < 0 ∨ 2000 ≤ ((I 37)).toNatClampNeg)) (
  m_bnd (A 2 ((I 37)).toNatClampNeg) (fun v1 =>
  m_if (v1 = (32 : Int32)) (
  f_blanks_39 self0  I A
  ) (
  m_chk (¬ ((I 37) < 0 ∨ 2000 ≤ ((I 37)).toNatClampNeg)) (
  m_bnd (A 2 ((I 37)).toNatClampNeg) (fun v2 =>
  m_if (v2 = (10 : Int32)) (
  f_blanks_39 self0  I A
  ) (
  f_blanks_52  I A
  )))
  )))
  )
def f_blanks_0 : Nat → (Nat → Int32) → (Nat → Nat → Int32) → Option (Int32 × MS)
  | 0 => fun  _ _ => none
  | n + 1 => f_blanks_0s (f_blanks_0 n)
def f_blanks (I : Nat → Int32) (A : Nat → Nat → Int32) : Option (Int32 × MS) := f_blanks_0 mFuel  I A
def f_fault_0 (x0 : Int32) (x1 : Int32) (I : Nat → Int32) (A : Nat → Nat → Int32) : Option (Int32 × MS) :=
  m_bnd ((10000 : Int32) * x0) (fun v1 =>
  m_bnd (v1 + x1) (fun v2 =>
  some (v2, (I, A))))
def f_fault (x0 : Int32) (x1 : Int32) (I : Nat → Int32) (A : Nat → Nat → Int32) : Option (Int32 × MS) := f_fault_0 x0 x1 I A
def f_isLetter_29 (t0 : Int32) (I : Nat → Int32) (A : Nat → Nat → Int32) : Option (Int32 × MS) :=
  m_chk (vp_nar .boolean t0 = t0) (some (t0, (I, A)))
def f_isLetter_28 (I : Nat → Int32) (A : Nat → Nat → Int32) : Option (Int32 × MS) :=
  f_isLetter_29 (0 : Int32) I A
def f_isLetter_24 (I : Nat → Int32) (A : Nat → Nat → Int32) : Option (Int32 × MS) :=
  f_isLetter_29 (1 : Int32) I A
def f_isLetter_12 (x0 : Int32) (I : Nat → Int32) (A : Nat → Nat → Int32) : Option (Int32 × MS) :=
  m_if (x0 < (65 : Int32)) (
  f_isLetter_28  I A
  ) (
  m_if ((90 : Int32) < x0) (
  f_isLetter_28  I A
  ) (
  f_isLetter_24  I A
  )
  )
def f_isLetter_0 (x0 : Int32) (I : Nat → Int32) (A : Nat → Nat → Int32) : Option (Int32 × MS) :=
  m_if (x0 < (97 : Int32)) (
  f_isLetter_12 x0 I A
  ) (
  m_if (x0 ≤ (122 : Int32)) (
  f_isLetter_24  I A
  ) (
  f_isLetter_12 x0 I A
  )
  )
def f_isLetter (x0 : Int32) (I : Nat → Int32) (A : Nat → Nat → Int32) : Option (Int32 × MS) := f_isLetter_0 x0 I A
def f_isDigit_17 (t0 : Int32) (I : Nat → Int32) (A : Nat → Nat → Int32) : Option (Int32 × MS) :=
  m_chk (vp_nar .boolean t0 = t0) (some (t0, (I, A)))
def f_isDigit_16 (I : Nat → Int32) (A : Nat → Nat → Int32) : Option (Int32 × MS) :=
  f_isDigit_17 (0 : Int32) I A
def f_isDigit_0 (x0 : Int32) (I : Nat → Int32) (A : Nat → Nat → Int32) : Option (Int32 × MS) :=
  m_if (x0 < (48 : Int32)) (
  f_isDigit_16  I A
  ) (
  m_if ((57 : Int32) < x0) (
  f_isDigit_16  I A
  ) (
  f_isDigit_17 (1 : Int32) I A
  )
  )
def f_isDigit (x0 : Int32) (I : Nat → Int32) (A : Nat → Nat → Int32) : Option (Int32 × MS) := f_isDigit_0 x0 I A
def f_isTag_173 (x5 : Int32) (I : Nat → Int32) (A : Nat → Nat → Int32) : Option (Int32 × MS) :=
  m_chk (vp_nar .boolean x5 = x5) (some (x5, (I, A)))
def f_isTag_165 (self38 : Int32 → Int32 → Int32 → Int32 → Int32 → Int32 → (Nat → Int32) → (Nat → Nat → Int32) → Option (Int32 × MS)) (x1 : Int32) (x2 : Int32) (x3 : Int32) (x4 : Int32) (x6 : Int32) (t0 : Int32) (I : Nat → Int32) (A : Nat → Nat → Int32) : Option (Int32 × MS) :=
  m_bnd (x6 + (1 : Int32)) (fun v1 =>
  self38 x1 x2 x3 x4 t0 v1 I A)
def f_isTag_136 (self38 : Int32 → Int32 → Int32 → Int32 → Int32 → Int32 → (Nat → Int32) → (Nat → Nat → Int32) → Option (Int32 × MS)) (x1 : Int32) (x2 : Int32) (x3 : Int32) (x4 : Int32) (x6 : Int32) (t0 : Int32) (I : Nat → Int32) (A : Nat → Nat → Int32) : Option (Int32 × MS) :=
  m_bnd ((96 : Int32) * x2) (fun v1 =>
  m_bnd ((12 : Int32) * x1) (fun v2 =>
  m_bnd (v1 + v2) (fun v3 =>
  m_bnd (v3 + x6) (fun v4 =>
  m_chk (¬ (v4 < 0 ∨ 192 ≤ (v4).toNatClampNeg)) (
  m_bnd (A 20 (v4).toNatClampNeg) (fun v5 =>
  m_if (v5 = t0) (
  f_isTag_165 self38 x1 x2 x3 x4 x6 (1 : Int32) I A
  ) (
  f_isTag_165 self38 x1 x2 x3 x4 x6 (0 : Int32) I A
  )))))))
def f_isTag_38s (self38 : Int32 → Int32 → Int32 → Int32 → Int32 → Int32 → (Nat → Int32) → (Nat → Nat → Int32) → Option (Int32 × MS)) (x1 : Int32) (x2 : Int32) (x3 : Int32) (x4 : Int32) (x5 : Int32) (x6 : Int32) (I : Nat → Int32) (A : Nat → Nat → Int32) : Option (Int32 × MS) :=
  m_if (x4 ≤ x6) (
  f_isTag_173 x5 I A
  ) (
  m_if (x5 = 0) (
  f_isTag_173 x5 I A
  ) (
  m_if (x3 = 0) (
  m_if (x6 = 0) (
  f_isTag_136 self38 x1 x2 x3 x4 x6 (70 : Int32) I A
  ) (
  m_if (x6 = (1 : Int32)) (
  f_isTag_136 self38 x1 x2 x3 x4 x6 (69 : Int32) I A
  ) (
  f_isTag_136 self38 x1 x2 x3 x4 x6 (78 : Int32) I A
  )
  )
  ) (
  m_if (x6 = 0) (
  f_isTag_136 self38 x1 x2 x3 x4 x6 (82 : Int32) I A
  ) (
  m_if (x6 = (1 : Int32)) (
  f_isTag_136 self38 x1 x2 x3 x4 x6 (101 : Int32) I A
  ) (
  m_if (x6 = (2 : Int32)) (
  f_isTag_136 self38 x1 x2 x3 x4 x6 (115 : Int32) I A
  ) (
  m_if (x6 = (3 : Int32)) (
  f_isTag_136 self38 x1 x2 x3 x4 x6 (117 : Int32) I A
  ) (
  m_if (x6 = (4 : Int32)) (
  f_isTag_136 self38 x1 x2 x3 x4 x6 (108 : Int32) I A
  ) (
  f_isTag_136 self38 x1 x2 x3 x4 x6 (116 : Int32) I A
  )
  )
  )
  )
  )
  )
  )
  )
def f_isTag_38 : Nat → Int32 → Int32 → Int32 → Int32 → Int32 → Int32 → (Nat → Int32) → (Nat → Nat → Int32) → Option (Int32 × MS)
  | 0 => fun _ _ _ _ _ _ _ _ => none
  | n + 1 => f_isTag_38s (f_isTag_38 n)
def f_isTag_33 (x1 : Int32) (x2 : Int32) (x3 : Int32) (x4 : Int32) (t0 : Int32) (I : Nat → Int32) (A : Nat → Nat → Int32) : Option (Int32 × MS) :=
  f_isTag_38 mFuel x1 x2 x3 x4 t0 (0 : Int32) I A
def f_isTag_10 (x1 : Int32) (x2 : Int32) (x3 : Int32) (t0 : Int32) (I : Nat → Int32) (A : Nat → Nat → Int32) : Option (Int32 × MS) :=
  m_bnd ((8 : Int32) * x2) (fun v1 =>
  m_bnd (v1 + x1) (fun v2 =>
  m_chk (¬ (v2 < 0 ∨ 16 ≤ (v2).toNatClampNeg)) (
  m_bnd (A 19 (v2).toNatClampNeg) (fun v3 =>
  m_if (v3 = t0) (
  f_isTag_33 x1 x2 x3 t0 (1 : Int32) I A
  ) (
  f_isTag_33 x1 x2 x3 t0 (0 : Int32) I A
  )))))
def f_isTag_0 (x1 : Int32) (x2 : Int32) (x3 : Int32) (I : Nat → Int32) (A : Nat → Nat → Int32) : Option (Int32 × MS) :=
  m_if (x3 = 0) (
  f_isTag_10 x1 x2 x3 (3 : Int32) I A
  ) (
  f_isTag_10 x1 x2 x3 (6 : Int32) I A
  )
def f_isTag (x1 : Int32) (x2 : Int32) (x3 : Int32) (I : Nat → Int32) (A : Nat → Nat → Int32) : Option (Int32 × MS) := f_isTag_0 x1 x2 x3 I A
def f_isNameThere_133 (self5 : Int32 → Int32 → Int32 → Int32 → (Nat → Int32) → (Nat → Nat → Int32) → Option (Int32 × MS)) (x1 : Int32) (x2 : Int32) (x4 : Int32) (t0 : Int32) (I : Nat → Int32) (A : Nat → Nat → Int32) : Option (Int32 × MS) :=
  m_bnd (x4 + (1 : Int32)) (fun v1 =>
  self5 x1 x2 t0 v1 I A)
def f_isNameThere_128 (self5 : Int32 → Int32 → Int32 → Int32 → (Nat → Int32) → (Nat → Nat → Int32) → Option (Int32 × MS)) (x1 : Int32) (x2 : Int32) (x4 : Int32) (I : Nat → Int32) (A : Nat → Nat → Int32) : Option (Int32 × MS) :=
  f_isNameThere_133 self5 x1 x2 x4 (1 : Int32) I A
def f_isNameThere_119 (self5 : Int32 → Int32 → Int32 → Int32 → (Nat → Int32) → (Nat → Nat → Int32) → Option (Int32 × MS)) (x1 : Int32) (x2 : Int32) (x3 : Int32) (x4 : Int32) (x5 : Int32) (I : Nat → Int32) (A : Nat → Nat → Int32) : Option (Int32 × MS) :=
  m_if (x3 = 0) (
  m_if (x5 = 0) (
  f_isNameThere_133 self5 x1 x2 x4 (0 : Int32) I A
  ) (
  f_isNameThere_128 self5 x1 x2 x4 I A
  )
  ) (
  f_isNameThere_128 self5 x1 x2 x4 I A
  )
def f_isNameThere_111 (self5 : Int32 → Int32 → Int32 → Int32 → (Nat → Int32) → (Nat → Nat → Int32) → Option (Int32 × MS)) (self47 : Int32 → Int32 → Int32 → Int32 → Int32 → Int32 → (Nat → Int32) → (Nat → Nat → Int32) → Option (Int32 × MS)) (x1 : Int32) (x2 : Int32) (x3 : Int32) (x4 : Int32) (x6 : Int32) (t0 : Int32) (I : Nat → Int32) (A : Nat → Nat → Int32) : Option (Int32 × MS) :=
  m_bnd (x6 + (1 : Int32)) (fun v1 =>
  self47 x1 x2 x3 x4 t0 v1 I A)
def f_isNameThere_47s (self5 : Int32 → Int32 → Int32 → Int32 → (Nat → Int32) → (Nat → Nat → Int32) → Option (Int32 × MS)) (self47 : Int32 → Int32 → Int32 → Int32 → Int32 → Int32 → (Nat → Int32) → (Nat → Nat → Int32) → Option (Int32 × MS)) (x1 : Int32) (x2 : Int32) (x3 : Int32) (x4 : Int32) (x5 : Int32) (x6 : Int32) (I : Nat → Int32) (A : Nat → Nat → Int32) : Option (Int32 × MS) :=
  m_bnd ((8 : Int32) * x1) (fun v1 =>
  m_bnd (v1 + x2) (fun v2 =>
  m_chk (¬ (v2 < 0 ∨ 16 ≤ (v2).toNatClampNeg)) (
  m_bnd (A 19 (v2).toNatClampNeg) (fun v3 =>
  m_if (v3 ≤ x6) (
  f_isNameThere_119 self5 x1 x2 x3 x4 x5 I A
  ) (
  m_if (x5 = 0) (
  f_isNameThere_119 self5 x1 x2 x3 x4 x5 I A
  ) (
  m_bnd ((96 : Int32) * x1) (fun v4 =>
  m_bnd ((12 : Int32) * x4) (fun v5 =>
  m_bnd (v4 + v5) (fun v6 =>
  m_bnd (v6 + x6) (fun v7 =>
  m_chk (¬ (v7 < 0 ∨ 192 ≤ (v7).toNatClampNeg)) (
  m_bnd (A 20 (v7).toNatClampNeg) (fun v8 =>
  m_bnd ((96 : Int32) * x1) (fun v9 =>
  m_bnd ((12 : Int32) * x2) (fun v10 =>
  m_bnd (v9 + v10) (fun v11 =>
  m_bnd (v11 + x6) (fun v12 =>
  m_chk (¬ (v12 < 0 ∨ 192 ≤ (v12).toNatClampNeg)) (
  m_bnd (A 20 (v12).toNatClampNeg) (fun v13 =>
  m_if (v8 = v13) (
  f_isNameThere_111 self5 self47 x1 x2 x3 x4 x6 (1 : Int32) I A
  ) (
  f_isNameThere_111 self5 self47 x1 x2 x3 x4 x6 (0 : Int32) I A
  )))))))))))))
  )
  )))))
def f_isNameThere_47 (self5 : Int32 → Int32 → Int32 → Int32 → (Nat → Int32) → (Nat → Nat → Int32) → Option (Int32 × MS)) : Nat → Int32 → Int32 → Int32 → Int32 → Int32 → Int32 → (Nat → Int32) → (Nat → Nat → Int32) → Option (Int32 × MS)
  | 0 => fun _ _ _ _ _ _ _ _ => none
  | n + 1 => f_isNameThere_47s self5 (f_isNameThere_47 self5 n)
def f_isNameThere_42 (self5 : Int32 → Int32 → Int32 → Int32 → (Nat → Int32) → (Nat → Nat → Int32) → Option (Int32 × MS)) (x1 : Int32) (x2 : Int32) (x3 : Int32) (x4 : Int32) (t0 : Int32) (I : Nat → Int32) (A : Nat → Nat → Int32) : Option (Int32 × MS) :=
  f_isNameThere_47 self5 mFuel x1 x2 x3 x4 t0 (0 : Int32) I A
def f_isNameThere_5s (self5 : Int32 → Int32 → Int32 → Int32 → (Nat → Int32) → (Nat → Nat → Int32) → Option (Int32 × MS)) (x1 : Int32) (x2 : Int32) (x3 : Int32) (x4 : Int32) (I : Nat → Int32) (A : Nat → Nat → Int32) : Option (Int32 × MS) :=
  m_if (x2 ≤ x4) (
  m_chk (vp_nar .boolean x3 = x3) (some (x3, (I, A)))
  ) (
  m_bnd ((8 : Int32) * x1) (fun v1 =>
  m_bnd (v1 + x4) (fun v2 =>
  m_chk (¬ (v2 < 0 ∨ 16 ≤ (v2).toNatClampNeg)) (
  m_bnd (A 19 (v2).toNatClampNeg) (fun v3 =>
  m_bnd ((8 : Int32) * x1) (fun v4 =>
  m_bnd (v4 + x2) (fun v5 =>
  m_chk (¬ (v5 < 0 ∨ 16 ≤ (v5).toNatClampNeg)) (
  m_bnd (A 19 (v5).toNatClampNeg) (fun v6 =>
  m_if (v3 = v6) (
  f_isNameThere_42 self5 x1 x2 x3 x4 (1 : Int32) I A
  ) (
  f_isNameThere_42 self5 x1 x2 x3 x4 (0 : Int32) I A
  )))))))))
  )
def f_isNameThere_5 : Nat → Int32 → Int32 → Int32 → Int32 → (Nat → Int32) → (Nat → Nat → Int32) → Option (Int32 × MS)
  | 0 => fun _ _ _ _ _ _ => none
  | n + 1 => f_isNameThere_5s (f_isNameThere_5 n)
def f_isNameThere_0 (x1 : Int32) (x2 : Int32) (I : Nat → Int32) (A : Nat → Nat → Int32) : Option (Int32 × MS) :=
  f_isNameThere_5 mFuel x1 x2 (0 : Int32) (0 : Int32) I A
def f_isNameThere (x1 : Int32) (x2 : Int32) (I : Nat → Int32) (A : Nat → Nat → Int32) : Option (Int32 × MS) := f_isNameThere_0 x1 x2 I A
def f_readTag_124 (self71 : Int32 → Int32 → Int32 → Int32 → Int32 → (Nat → Int32) → (Nat → Nat → Int32) → Option (Int32 × MS)) (x1 : Int32) (x2 : Int32) (x3 : Int32) (x4 : Int32) (x5 : Int32) (I : Nat → Int32) (A : Nat → Nat → Int32) : Option (Int32 × MS) :=
  m_bnd (x5 + (1 : Int32)) (fun v1 =>
  m_bnd ((I 37) + (1 : Int32)) (fun v2 =>
  m_bnd (upd I 37 v2) (fun I3 =>
  self71 x1 x2 x3 x4 v1 I3 A)))
def f_readTag_91 (self71 : Int32 → Int32 → Int32 → Int32 → Int32 → (Nat → Int32) → (Nat → Nat → Int32) → Option (Int32 × MS)) (x1 : Int32) (x2 : Int32) (x3 : Int32) (x4 : Int32) (x5 : Int32) (I : Nat → Int32) (A : Nat → Nat → Int32) : Option (Int32 × MS) :=
  m_if ((12 : Int32) ≤ x5) (
  f_readTag_124 self71 x1 x2 x3 x4 x5 I A
  ) (
  m_if (x4 = 0) (
  m_bnd ((96 : Int32) * x1) (fun v1 =>
  m_bnd ((12 : Int32) * x3) (fun v2 =>
  m_bnd (v1 + v2) (fun v3 =>
  m_bnd (v3 + x5) (fun v4 =>
  m_cl (f_look  I A) (fun r5 Ic5 Ac5 =>
  m_chk (¬ (v4 < 0 ∨ 192 ≤ (v4).toNatClampNeg)) (
  m_bnd (va_up Ac5 20 (upd (Ac5 20) (v4).toNatClampNeg (vp_nar .char r5))) (fun A6 =>
  f_readTag_124 self71 x1 x2 x3 x4 x5 Ic5 A6)))))))
  ) (
  f_readTag_124 self71 x1 x2 x3 x4 x5 I A
  )
  )
def f_readTag_370 (x2 : Int32) (I : Nat → Int32) (A : Nat → Nat → Int32) : Option (Int32 × MS) :=
  m_cl (f_fault (2 : Int32) x2 I A) (fun r1 Ic1 Ac1 =>
  some (r1, (Ic1, Ac1)))
def f_readTag_457 (x1 : Int32) (I : Nat → Int32) (A : Nat → Nat → Int32) : Option (Int32 × MS) :=
  m_chk (¬ (x1 < 0 ∨ 2 ≤ (x1).toNatClampNeg)) (
  m_bnd (A 18 (x1).toNatClampNeg) (fun v1 =>
  m_bnd (v1 + (1 : Int32)) (fun v2 =>
  m_chk (¬ (x1 < 0 ∨ 2 ≤ (x1).toNatClampNeg)) (
  m_bnd (va_up A 18 (upd (A 18) (x1).toNatClampNeg v2)) (fun A3 =>
  some ((0 : Int32), (I, A3)))))))
def f_readTag_250 (I : Nat → Int32) (A : Nat → Nat → Int32) : Option (Int32 × MS) :=
  m_cl (f_fault (1 : Int32) (I 37) I A) (fun r1 Ic1 Ac1 =>
  some (r1, (Ic1, Ac1)))
def f_readTag_293 (self175 : Int32 → Int32 → Int32 → Int32 → Int32 → Int32 → (Nat → Int32) → (Nat → Nat → Int32) → Option (Int32 × MS)) (x1 : Int32) (x2 : Int32) (x3 : Int32) (x4 : Int32) (x5 : Int32) (x6 : Int32) (I : Nat → Int32) (A : Nat → Nat → Int32) : Option (Int32 × MS) :=
  m_bnd (x6 + (1 : Int32)) (fun v1 =>
  m_bnd ((I 37) + (1 : Int32)) (fun v2 =>
  m_bnd (upd I 37 v2) (fun I3 =>
  self175 x1 x2 x3 x4 x5 v1 I3 A)))
def f_readTag_230 (self175 : Int32 → Int32 → Int32 → Int32 → Int32 → Int32 → (Nat → Int32) → (Nat → Nat → Int32) → Option (Int32 × MS)) (x1 : Int32) (x2 : Int32) (x3 : Int32) (x4 : Int32) (x5 : Int32) (x6 : Int32) (I : Nat → Int32) (A : Nat → Nat → Int32) : Option (Int32 × MS) :=
  m_if ((I 37) = (I 1)) (
  f_readTag_250  I A
  ) (
  m_cl (f_look  I A) (fun r1 Ic1 Ac1 =>
  m_if (r1 = (10 : Int32)) (
  f_readTag_250  Ic1 Ac1
  ) (
  m_if ((96 : Int32) ≤ x6) (
  f_readTag_293 self175 x1 x2 x3 x4 x5 x6 Ic1 Ac1
  ) (
  m_if (x4 = 0) (
  m_bnd ((768 : Int32) * x1) (fun v2 =>
  m_bnd ((96 : Int32) * x3) (fun v3 =>
  m_bnd (v2 + v3) (fun v4 =>
  m_bnd (v4 + x6) (fun v5 =>
  m_cl (f_look  Ic1 Ac1) (fun r6 Ic6 Ac6 =>
  m_chk (¬ (v5 < 0 ∨ 1536 ≤ (v5).toNatClampNeg)) (
  m_bnd (va_up Ac6 22 (upd (Ac6 22) (v5).toNatClampNeg (vp_nar .char r6))) (fun A7 =>
  f_readTag_293 self175 x1 x2 x3 x4 x5 x6 Ic6 A7)))))))
  ) (
  f_readTag_293 self175 x1 x2 x3 x4 x5 x6 Ic1 Ac1
  )
  )
  ))
  )
def f_readTag_175s (self175 : Int32 → Int32 → Int32 → Int32 → Int32 → Int32 → (Nat → Int32) → (Nat → Nat → Int32) → Option (Int32 × MS)) (x1 : Int32) (x2 : Int32) (x3 : Int32) (x4 : Int32) (x5 : Int32) (x6 : Int32) (I : Nat → Int32) (A : Nat → Nat → Int32) : Option (Int32 × MS) :=
  m_cl (f_look  I A) (fun r1 Ic1 Ac1 =>
  m_if (r1 = (34 : Int32)) (
  m_bnd ((Ic1 37) + (1 : Int32)) (fun v2 =>
  m_bnd (upd Ic1 37 v2) (fun I3 =>
  m_cl (f_blanks  I3 Ac1) (fun r4 Ic4 Ac4 =>
  m_cl (f_look  Ic4 Ac4) (fun r5 Ic5 Ac5 =>
  m_if (r5 = (93 : Int32)) (
  m_bnd ((Ic5 37) + (1 : Int32)) (fun v6 =>
  m_bnd (upd Ic5 37 v6) (fun I7 =>
  m_if (x4 = 0) (
  m_if ((12 : Int32) < x5) (
  f_readTag_370 x2 I7 Ac5
  ) (
  m_if (x6 ≤ (96 : Int32)) (
  m_bnd ((8 : Int32) * x1) (fun v8 =>
  m_bnd (v8 + x3) (fun v9 =>
  m_chk (¬ (v9 < 0 ∨ 16 ≤ (v9).toNatClampNeg)) (
  m_bnd (va_up Ac5 19 (upd (Ac5 19) (v9).toNatClampNeg x5)) (fun A10 =>
  m_bnd ((8 : Int32) * x1) (fun v11 =>
  m_bnd (v11 + x3) (fun v12 =>
  m_chk (¬ (v12 < 0 ∨ 16 ≤ (v12).toNatClampNeg)) (
  m_bnd (va_up A10 21 (upd (A10 21) (v12).toNatClampNeg x6)) (fun A13 =>
  m_cl (f_isNameThere x1 x3 I7 A13) (fun r14 Ic14 Ac14 =>
  m_if (r14 = 0) (
  m_cl (f_isTag x3 x1 (0 : Int32) Ic14 Ac14) (fun r15 Ic15 Ac15 =>
  m_if (r15 = 0) (
  f_readTag_457 x1 Ic15 Ac15
  ) (
  m_bnd ((768 : Int32) * x1) (fun v16 =>
  m_bnd ((96 : Int32) * x3) (fun v17 =>
  m_bnd (v16 + v17) (fun v18 =>
  m_cl (f_readPosition v18 x6 Ic15 Ac15) (fun r19 Ic19 Ac19 =>
  m_if (r19 = 0) (
  m_cl (f_fault (3 : Int32) x2 Ic19 Ac19) (fun r21 Ic21 Ac21 =>
  some (r21, (Ic21, Ac21)))
  ) (
  m_cl (f_start x1 Ic19 Ac19) (fun r20 Ic20 Ac20 =>
  f_readTag_457 x1 Ic20 Ac20)
  )))))
  ))
  ) (
  m_cl (f_fault (2 : Int32) x2 Ic14 Ac14) (fun r22 Ic22 Ac22 =>
  some (r22, (Ic22, Ac22)))
  ))))))))))
  ) (
  f_readTag_370 x2 I7 Ac5
  )
  )
  ) (
  f_readTag_370 x2 I7 Ac5
  )))
  ) (
  m_cl (f_fault (1 : Int32) (Ic5 37) Ic5 Ac5) (fun r23 Ic23 Ac23 =>
  some (r23, (Ic23, Ac23)))
  )))))
  ) (
  m_cl (f_look  Ic1 Ac1) (fun r24 Ic24 Ac24 =>
  m_if (r24 = (92 : Int32)) (
  m_bnd ((Ic24 37) + (1 : Int32)) (fun v25 =>
  m_bnd (upd Ic24 37 v25) (fun I26 =>
  m_cl (f_look  I26 Ac24) (fun r27 Ic27 Ac27 =>
  m_if (r27 = (34 : Int32)) (
  f_readTag_230 self175 x1 x2 x3 x4 x5 x6 Ic27 Ac27
  ) (
  m_cl (f_look  Ic27 Ac27) (fun r28 Ic28 Ac28 =>
  m_if (r28 = (92 : Int32)) (
  f_readTag_230 self175 x1 x2 x3 x4 x5 x6 Ic28 Ac28
  ) (
  m_cl (f_fault (1 : Int32) (Ic28 37) Ic28 Ac28) (fun r29 Ic29 Ac29 =>
  some (r29, (Ic29, Ac29)))
  ))
  ))))
  ) (
  f_readTag_230 self175 x1 x2 x3 x4 x5 x6 Ic24 Ac24
  ))
  ))
def f_readTag_175 : Nat → Int32 → Int32 → Int32 → Int32 → Int32 → Int32 → (Nat → Int32) → (Nat → Nat → Int32) → Option (Int32 × MS)
  | 0 => fun _ _ _ _ _ _ _ _ => none
  | n + 1 => f_readTag_175s (f_readTag_175 n)
def f_readTag_71s (self71 : Int32 → Int32 → Int32 → Int32 → Int32 → (Nat → Int32) → (Nat → Nat → Int32) → Option (Int32 × MS)) (x1 : Int32) (x2 : Int32) (x3 : Int32) (x4 : Int32) (x5 : Int32) (I : Nat → Int32) (A : Nat → Nat → Int32) : Option (Int32 × MS) :=
  m_cl (f_look  I A) (fun r1 Ic1 Ac1 =>
  m_cl (f_isLetter r1 Ic1 Ac1) (fun r2 Ic2 Ac2 =>
  m_if (r2 = 0) (
  m_cl (f_look  Ic2 Ac2) (fun r3 Ic3 Ac3 =>
  m_cl (f_isDigit r3 Ic3 Ac3) (fun r4 Ic4 Ac4 =>
  m_if (r4 = 0) (
  m_cl (f_blanks  Ic4 Ac4) (fun r5 Ic5 Ac5 =>
  m_cl (f_look  Ic5 Ac5) (fun r6 Ic6 Ac6 =>
  m_if (r6 = (34 : Int32)) (
  m_bnd ((Ic6 37) + (1 : Int32)) (fun v7 =>
  m_bnd (upd Ic6 37 v7) (fun I8 =>
  f_readTag_175 mFuel x1 x2 x3 x4 x5 (0 : Int32) I8 Ac6))
  ) (
  m_cl (f_fault (1 : Int32) (Ic6 37) Ic6 Ac6) (fun r9 Ic9 Ac9 =>
  some (r9, (Ic9, Ac9)))
  )))
  ) (
  f_readTag_91 self71 x1 x2 x3 x4 x5 Ic4 Ac4
  )))
  ) (
  f_readTag_91 self71 x1 x2 x3 x4 x5 Ic2 Ac2
  )))
def f_readTag_71 : Nat → Int32 → Int32 → Int32 → Int32 → Int32 → (Nat → Int32) → (Nat → Nat → Int32) → Option (Int32 × MS)
  | 0 => fun _ _ _ _ _ _ _ => none
  | n + 1 => f_readTag_71s (f_readTag_71 n)
def f_readTag_23 (x1 : Int32) (x2 : Int32) (x3 : Int32) (t0 : Int32) (I : Nat → Int32) (A : Nat → Nat → Int32) : Option (Int32 × MS) :=
  m_bnd ((I 37) + (1 : Int32)) (fun v1 =>
  m_bnd (upd I 37 v1) (fun I2 =>
  m_cl (f_blanks  I2 A) (fun r3 Ic3 Ac3 =>
  m_cl (f_look  Ic3 Ac3) (fun r4 Ic4 Ac4 =>
  m_cl (f_isLetter r4 Ic4 Ac4) (fun r5 Ic5 Ac5 =>
  m_if (r5 = 0) (
  m_cl (f_look  Ic5 Ac5) (fun r6 Ic6 Ac6 =>
  m_cl (f_isDigit r6 Ic6 Ac6) (fun r7 Ic7 Ac7 =>
  m_if (r7 = 0) (
  m_cl (f_fault (1 : Int32) (Ic7 37) Ic7 Ac7) (fun r8 Ic8 Ac8 =>
  some (r8, (Ic8, Ac8)))
  ) (
  f_readTag_71 mFuel x1 x2 x3 t0 (0 : Int32) Ic7 Ac7
  )))
  ) (
  f_readTag_71 mFuel x1 x2 x3 t0 (0 : Int32) Ic5 Ac5
  ))))))
def f_readTag_0 (x1 : Int32) (I : Nat → Int32) (A : Nat → Nat → Int32) : Option (Int32 × MS) :=
  m_chk (¬ (x1 < 0 ∨ 2 ≤ (x1).toNatClampNeg)) (
  m_bnd (A 18 (x1).toNatClampNeg) (fun v1 =>
  m_if (v1 = (8 : Int32)) (
  f_readTag_23 x1 (I 37) v1 (1 : Int32) I A
  ) (
  f_readTag_23 x1 (I 37) v1 (0 : Int32) I A
  )))
def f_readTag (x1 : Int32) (I : Nat → Int32) (A : Nat → Nat → Int32) : Option (Int32 × MS) := f_readTag_0 x1 I A
def f_readRemarks_344 (self4 : Int32 → Int32 → (Nat → Int32) → (Nat → Nat → Int32) → Option (Int32 × MS)) (x1 : Int32) (x2 : Int32) (t0 : Int32) (I : Nat → Int32) (A : Nat → Nat → Int32) : Option (Int32 × MS) :=
  m_bnd (upd I 37 t0) (fun I1 =>
  m_cl (f_blanks  I1 A) (fun r2 Ic2 Ac2 =>
  self4 x1 x2 Ic2 Ac2))
def f_readRemarks_303 (self4 : Int32 → Int32 → (Nat → Int32) → (Nat → Nat → Int32) → Option (Int32 × MS)) (self247 : Int32 → Int32 → Int32 → Int32 → Int32 → Int32 → Int32 → Int32 → Int32 → (Nat → Int32) → (Nat → Nat → Int32) → Option (Int32 × MS)) (x1 : Int32) (x2 : Int32) (x4 : Int32) (x5 : Int32) (x6 : Int32) (x7 : Int32) (x8 : Int32) (x9 : Int32) (x10 : Int32) (t0 : Int32) (t1 : Int32) (I : Nat → Int32) (A : Nat → Nat → Int32) : Option (Int32 × MS) :=
  m_chk (¬ (t1 < 0 ∨ 120400 ≤ (t1).toNatClampNeg)) (
  m_bnd (va_up A 15 (upd (A 15) (t1).toNatClampNeg (vp_nar .char t0))) (fun A1 =>
  m_bnd (x10 + (1 : Int32)) (fun v2 =>
  self247 x1 x2 x4 x5 x6 x7 x8 x9 v2 I A1)))
def f_readRemarks_247s (self4 : Int32 → Int32 → (Nat → Int32) → (Nat → Nat → Int32) → Option (Int32 × MS)) (self247 : Int32 → Int32 → Int32 → Int32 → Int32 → Int32 → Int32 → Int32 → Int32 → (Nat → Int32) → (Nat → Nat → Int32) → Option (Int32 × MS)) (x1 : Int32) (x2 : Int32) (x4 : Int32) (x5 : Int32) (x6 : Int32) (x7 : Int32) (x8 : Int32) (x9 : Int32) (x10 : Int32) (I : Nat → Int32) (A : Nat → Nat → Int32) : Option (Int32 × MS) :=
  m_if (x6 ≤ x10) (
  m_bnd (x8 + x9) (fun v1 =>
  m_bnd (v1 + x6) (fun v2 =>
  m_chk (¬ (x7 < 0 ∨ 602 ≤ (x7).toNatClampNeg)) (
  m_bnd (va_up A 14 (upd (A 14) (x7).toNatClampNeg v2)) (fun A3 =>
  m_if (x4 = 0) (
  f_readRemarks_344 self4 x1 x2 (I 37) I A3
  ) (
  m_bnd ((I 37) + (1 : Int32)) (fun v4 =>
  f_readRemarks_344 self4 x1 x2 v4 I A3)
  )))))
  ) (
  m_bnd ((200 : Int32) * x7) (fun v5 =>
  m_bnd (v5 + x8) (fun v6 =>
  m_bnd (v6 + x9) (fun v7 =>
  m_bnd (v7 + x10) (fun v8 =>
  m_bnd (x5 + x10) (fun v9 =>
  m_chk (¬ (v9 < 0 ∨ 2000 ≤ (v9).toNatClampNeg)) (
  m_bnd (A 2 (v9).toNatClampNeg) (fun v10 =>
  m_if (v10 = (10 : Int32)) (
  f_readRemarks_303 self4 self247 x1 x2 x4 x5 x6 x7 x8 x9 x10 (32 : Int32) v8 I A
  ) (
  m_bnd (x5 + x10) (fun v11 =>
  m_chk (¬ (v11 < 0 ∨ 2000 ≤ (v11).toNatClampNeg)) (
  m_bnd (A 2 (v11).toNatClampNeg) (fun v12 =>
  f_readRemarks_303 self4 self247 x1 x2 x4 x5 x6 x7 x8 x9 x10 v12 v8 I A)))
  ))))))))
  )
def f_readRemarks_247 (self4 : Int32 → Int32 → (Nat → Int32) → (Nat → Nat → Int32) → Option (Int32 × MS)) : Nat → Int32 → Int32 → Int32 → Int32 → Int32 → Int32 → Int32 → Int32 → Int32 → (Nat → Int32) → (Nat → Nat → Int32) → Option (Int32 × MS)
  | 0 => fun _ _ _ _ _ _ _ _ _ _ _ => none
  | n + 1 => f_readRemarks_247s self4 (f_readRemarks_247 self4 n)
def f_readRemarks_244 (self4 : Int32 → Int32 → (Nat → Int32) → (Nat → Nat → Int32) → Option (Int32 × MS)) (x1 : Int32) (x2 : Int32) (x4 : Int32) (x5 : Int32) (x6 : Int32) (x7 : Int32) (x8 : Int32) (x9 : Int32) (I : Nat → Int32) (A : Nat → Nat → Int32) : Option (Int32 × MS) :=
  f_readRemarks_247 self4 mFuel x1 x2 x4 x5 x6 x7 x8 x9 (0 : Int32) I A
def f_readRemarks_199 (self4 : Int32 → Int32 → (Nat → Int32) → (Nat → Nat → Int32) → Option (Int32 × MS)) (x1 : Int32) (x2 : Int32) (x3 : Int32) (x4 : Int32) (x5 : Int32) (x6 : Int32) (x7 : Int32) (x8 : Int32) (t0 : Int32) (I : Nat → Int32) (A : Nat → Nat → Int32) : Option (Int32 × MS) :=
  m_bnd (x8 + t0) (fun v1 =>
  m_bnd (v1 + x6) (fun v2 =>
  m_if (v2 ≤ (200 : Int32)) (
  m_if (t0 = (1 : Int32)) (
  m_bnd ((200 : Int32) * x7) (fun v3 =>
  m_bnd (v3 + x8) (fun v4 =>
  m_chk (¬ (v4 < 0 ∨ 120400 ≤ (v4).toNatClampNeg)) (
  m_bnd (va_up A 15 (upd (A 15) (v4).toNatClampNeg (vp_nar .char (32 : Int32)))) (fun A5 =>
  f_readRemarks_244 self4 x1 x2 x4 x5 x6 x7 x8 t0 I A5))))
  ) (
  f_readRemarks_244 self4 x1 x2 x4 x5 x6 x7 x8 t0 I A
  )
  ) (
  m_cl (f_fault (8 : Int32) x3 I A) (fun r6 Ic6 Ac6 =>
  some (r6, (Ic6, Ac6)))
  )))
def f_readRemarks_198 (self4 : Int32 → Int32 → (Nat → Int32) → (Nat → Nat → Int32) → Option (Int32 × MS)) (x1 : Int32) (x2 : Int32) (x3 : Int32) (x4 : Int32) (x5 : Int32) (x6 : Int32) (x7 : Int32) (x8 : Int32) (I : Nat → Int32) (A : Nat → Nat → Int32) : Option (Int32 × MS) :=
  f_readRemarks_199 self4 x1 x2 x3 x4 x5 x6 x7 x8 (0 : Int32) I A
def f_readRemarks_157 (self4 : Int32 → Int32 → (Nat → Int32) → (Nat → Nat → Int32) → Option (Int32 × MS)) (x1 : Int32) (x2 : Int32) (x3 : Int32) (x4 : Int32) (x5 : Int32) (I : Nat → Int32) (A : Nat → Nat → Int32) : Option (Int32 × MS) :=
  m_bnd ((I 37) - x5) (fun v1 =>
  m_bnd ((301 : Int32) * x1) (fun v2 =>
  m_bnd (v2 + x2) (fun v3 =>
  m_chk (¬ (v3 < 0 ∨ 602 ≤ (v3).toNatClampNeg)) (
  m_bnd (A 14 (v3).toNatClampNeg) (fun v4 =>
  m_if (v1 ≤ 0) (
  f_readRemarks_198 self4 x1 x2 x3 x4 x5 v1 v3 v4 I A
  ) (
  m_if (v4 ≤ 0) (
  f_readRemarks_198 self4 x1 x2 x3 x4 x5 v1 v3 v4 I A
  ) (
  f_readRemarks_199 self4 x1 x2 x3 x4 x5 v1 v3 v4 (1 : Int32) I A
  )
  ))))))
def f_readRemarks_132 (self4 : Int32 → Int32 → (Nat → Int32) → (Nat → Nat → Int32) → Option (Int32 × MS)) (x1 : Int32) (x2 : Int32) (x3 : Int32) (x4 : Int32) (x5 : Int32) (I : Nat → Int32) (A : Nat → Nat → Int32) : Option (Int32 × MS) :=
  m_if (x4 = 0) (
  f_readRemarks_157 self4 x1 x2 x3 x4 x5 I A
  ) (
  m_if ((I 37) = (I 1)) (
  m_cl (f_fault (1 : Int32) (I 37) I A) (fun r1 Ic1 Ac1 =>
  some (r1, (Ic1, Ac1)))
  ) (
  f_readRemarks_157 self4 x1 x2 x3 x4 x5 I A
  )
  )
def f_readRemarks_119 (self4 : Int32 → Int32 → (Nat → Int32) → (Nat → Nat → Int32) → Option (Int32 × MS)) (self59 : Int32 → Int32 → Int32 → Int32 → Int32 → (Nat → Int32) → (Nat → Nat → Int32) → Option (Int32 × MS)) (x1 : Int32) (x2 : Int32) (x3 : Int32) (x4 : Int32) (x5 : Int32) (I : Nat → Int32) (A : Nat → Nat → Int32) : Option (Int32 × MS) :=
  m_bnd ((I 37) + (1 : Int32)) (fun v1 =>
  m_bnd (upd I 37 v1) (fun I2 =>
  self59 x1 x2 x3 x4 x5 I2 A))
def f_readRemarks_96 (self4 : Int32 → Int32 → (Nat → Int32) → (Nat → Nat → Int32) → Option (Int32 × MS)) (self59 : Int32 → Int32 → Int32 → Int32 → Int32 → (Nat → Int32) → (Nat → Nat → Int32) → Option (Int32 × MS)) (x1 : Int32) (x2 : Int32) (x3 : Int32) (x4 : Int32) (x5 : Int32) (I : Nat → Int32) (A : Nat → Nat → Int32) : Option (Int32 × MS) :=
  m_if (x4 = 0) (
  m_cl (f_look  I A) (fun r1 Ic1 Ac1 =>
  m_if (r1 = (125 : Int32)) (
  m_cl (f_fault (1 : Int32) (Ic1 37) Ic1 Ac1) (fun r2 Ic2 Ac2 =>
  some (r2, (Ic2, Ac2)))
  ) (
  f_readRemarks_119 self4 self59 x1 x2 x3 x4 x5 Ic1 Ac1
  ))
  ) (
  f_readRemarks_119 self4 self59 x1 x2 x3 x4 x5 I A
  )
def f_readRemarks_59s (self4 : Int32 → Int32 → (Nat → Int32) → (Nat → Nat → Int32) → Option (Int32 × MS)) (self59 : Int32 → Int32 → Int32 → Int32 → Int32 → (Nat → Int32) → (Nat → Nat → Int32) → Option (Int32 × MS)) (x1 : Int32) (x2 : Int32) (x3 : Int32) (x4 : Int32) (x5 : Int32) (I : Nat → Int32) (A : Nat → Nat → Int32) : Option (Int32 × MS) :=
  m_if ((I 1) ≤ (I 37)) (
  f_readRemarks_132 self4 x1 x2 x3 x4 x5 I A
  ) (
  m_if (x4 = 0) (
  m_cl (f_look  I A) (fun r1 Ic1 Ac1 =>
  m_if (r1 = (10 : Int32)) (
  f_readRemarks_132 self4 x1 x2 x3 x4 x5 Ic1 Ac1
  ) (
  f_readRemarks_96 self4 self59 x1 x2 x3 x4 x5 Ic1 Ac1
  ))
  ) (
  m_cl (f_look  I A) (fun r2 Ic2 Ac2 =>
  m_if (r2 = (125 : Int32)) (
  f_readRemarks_132 self4 x1 x2 x3 x4 x5 Ic2 Ac2
  ) (
  f_readRemarks_96 self4 self59 x1 x2 x3 x4 x5 Ic2 Ac2
  ))
  )
  )
def f_readRemarks_59 (self4 : Int32 → Int32 → (Nat → Int32) → (Nat → Nat → Int32) → Option (Int32 × MS)) : Nat → Int32 → Int32 → Int32 → Int32 → Int32 → (Nat → Int32) → (Nat → Nat → Int32) → Option (Int32 × MS)
  | 0 => fun _ _ _ _ _ _ _ => none
  | n + 1 => f_readRemarks_59s self4 (f_readRemarks_59 self4 n)
def f_readRemarks_41 (self4 : Int32 → Int32 → (Nat → Int32) → (Nat → Nat → Int32) → Option (Int32 × MS)) (x1 : Int32) (x2 : Int32) (x3 : Int32) (t0 : Int32) (I : Nat → Int32) (A : Nat → Nat → Int32) : Option (Int32 × MS) :=
  m_bnd ((I 37) + (1 : Int32)) (fun v1 =>
  m_bnd (upd I 37 v1) (fun I2 =>
  f_readRemarks_59 self4 mFuel x1 x2 x3 t0 (I2 37) I2 A))
def f_readRemarks_22 (self4 : Int32 → Int32 → (Nat → Int32) → (Nat → Nat → Int32) → Option (Int32 × MS)) (x1 : Int32) (x2 : Int32) (I : Nat → Int32) (A : Nat → Nat → Int32) : Option (Int32 × MS) :=
  m_cl (f_look  I A) (fun r1 Ic1 Ac1 =>
  m_if (r1 = (123 : Int32)) (
  f_readRemarks_41 self4 x1 x2 (I 37) (1 : Int32) Ic1 Ac1
  ) (
  f_readRemarks_41 self4 x1 x2 (I 37) (0 : Int32) Ic1 Ac1
  ))
def f_readRemarks_4s (self4 : Int32 → Int32 → (Nat → Int32) → (Nat → Nat → Int32) → Option (Int32 × MS)) (x1 : Int32) (x2 : Int32) (I : Nat → Int32) (A : Nat → Nat → Int32) : Option (Int32 × MS) :=
  m_cl (f_look  I A) (fun r1 Ic1 Ac1 =>
  m_if (r1 = (123 : Int32)) (
  f_readRemarks_22 self4 x1 x2 Ic1 Ac1
  ) (
  m_cl (f_look  Ic1 Ac1) (fun r2 Ic2 Ac2 =>
  m_if (r2 = (59 : Int32)) (
  f_readRemarks_22 self4 x1 x2 Ic2 Ac2
  ) (
  some ((0 : Int32), (Ic2, Ac2))
  ))
  ))
def f_readRemarks_4 : Nat → Int32 → Int32 → (Nat → Int32) → (Nat → Nat → Int32) → Option (Int32 × MS)
  | 0 => fun _ _ _ _ => none
  | n + 1 => f_readRemarks_4s (f_readRemarks_4 n)
def f_readRemarks_0 (x1 : Int32) (x2 : Int32) (I : Nat → Int32) (A : Nat → Nat → Int32) : Option (Int32 × MS) :=
  m_cl (f_blanks  I A) (fun r1 Ic1 Ac1 =>
  f_readRemarks_4 mFuel x1 x2 Ic1 Ac1)
def f_readRemarks (x1 : Int32) (x2 : Int32) (I : Nat → Int32) (A : Nat → Nat → Int32) : Option (Int32 × MS) := f_readRemarks_0 x1 x2 I A
def f_goesOnWith_61 (t0 : Int32) (I : Nat → Int32) (A : Nat → Nat → Int32) : Option (Int32 × MS) :=
  m_chk (vp_nar .boolean t0 = t0) (some (t0, (I, A)))
def f_goesOnWith_60 (I : Nat → Int32) (A : Nat → Nat → Int32) : Option (Int32 × MS) :=
  f_goesOnWith_61 (0 : Int32) I A
def f_goesOnWith_0 (x1 : Int32) (x2 : Int32) (x3 : Int32) (I : Nat → Int32) (A : Nat → Nat → Int32) : Option (Int32 × MS) :=
  m_bnd ((I 37) + (2 : Int32)) (fun v1 =>
  m_if ((I 1) ≤ v1) (
  f_goesOnWith_60  I A
  ) (
  m_chk (¬ ((I 37) < 0 ∨ 2000 ≤ ((I 37)).toNatClampNeg)) (
  m_bnd (A 2 ((I 37)).toNatClampNeg) (fun v2 =>
  m_if (v2 = x1) (
  m_bnd ((I 37) + (1 : Int32)) (fun v3 =>
  m_chk (¬ (v3 < 0 ∨ 2000 ≤ (v3).toNatClampNeg)) (
  m_bnd (A 2 (v3).toNatClampNeg) (fun v4 =>
  m_if (v4 = x2) (
  m_bnd ((I 37) + (2 : Int32)) (fun v5 =>
  m_chk (¬ (v5 < 0 ∨ 2000 ≤ (v5).toNatClampNeg)) (
  m_bnd (A 2 (v5).toNatClampNeg) (fun v6 =>
  m_if (v6 = x3) (
  f_goesOnWith_61 (1 : Int32) I A
  ) (
  f_goesOnWith_60  I A
  ))))
  ) (
  f_goesOnWith_60  I A
  ))))
  ) (
  f_goesOnWith_60  I A
  )))
  ))
def f_goesOnWith (x1 : Int32) (x2 : Int32) (x3 : Int32) (I : Nat → Int32) (A : Nat → Nat → Int32) : Option (Int32 × MS) := f_goesOnWith_0 x1 x2 x3 I A
def f_resultHere_148 (t0 : Int32) (I : Nat → Int32) (A : Nat → Nat → Int32) : Option (Int32 × MS) :=
  some (t0, (I, A))
def f_resultHere_138 (t0 : Int32) (I : Nat → Int32) (A : Nat → Nat → Int32) : Option (Int32 × MS) :=
  m_if (t0 = 0) (
  f_resultHere_148 (-1 : Int32) I A
  ) (
  f_resultHere_148 (3 : Int32) I A
  )
def f_resultHere_137 (I : Nat → Int32) (A : Nat → Nat → Int32) : Option (Int32 × MS) :=
  f_resultHere_138 (0 : Int32) I A
def f_resultHere_0 (I : Nat → Int32) (A : Nat → Nat → Int32) : Option (Int32 × MS) :=
  m_cl (f_look  I A) (fun r1 Ic1 Ac1 =>
  m_if (r1 = (42 : Int32)) (
  some ((0 : Int32), (Ic1, Ac1))
  ) (
  m_cl (f_goesOnWith (49 : Int32) (45 : Int32) (48 : Int32) Ic1 Ac1) (fun r2 Ic2 Ac2 =>
  m_if (r2 = 0) (
  m_cl (f_goesOnWith (48 : Int32) (45 : Int32) (49 : Int32) Ic2 Ac2) (fun r3 Ic3 Ac3 =>
  m_if (r3 = 0) (
  m_cl (f_goesOnWith (49 : Int32) (47 : Int32) (50 : Int32) Ic3 Ac3) (fun r4 Ic4 Ac4 =>
  m_if (r4 = 0) (
  f_resultHere_137  Ic4 Ac4
  ) (
  m_bnd ((Ic4 37) + (6 : Int32)) (fun v5 =>
  m_if ((Ic4 1) ≤ v5) (
  f_resultHere_137  Ic4 Ac4
  ) (
  m_bnd ((Ic4 37) + (3 : Int32)) (fun v6 =>
  m_chk (¬ (v6 < 0 ∨ 2000 ≤ (v6).toNatClampNeg)) (
  m_bnd (Ac4 2 (v6).toNatClampNeg) (fun v7 =>
  m_if (v7 = (45 : Int32)) (
  m_bnd ((Ic4 37) + (4 : Int32)) (fun v8 =>
  m_chk (¬ (v8 < 0 ∨ 2000 ≤ (v8).toNatClampNeg)) (
  m_bnd (Ac4 2 (v8).toNatClampNeg) (fun v9 =>
  m_if (v9 = (49 : Int32)) (
  m_bnd ((Ic4 37) + (5 : Int32)) (fun v10 =>
  m_chk (¬ (v10 < 0 ∨ 2000 ≤ (v10).toNatClampNeg)) (
  m_bnd (Ac4 2 (v10).toNatClampNeg) (fun v11 =>
  m_if (v11 = (47 : Int32)) (
  m_bnd ((Ic4 37) + (6 : Int32)) (fun v12 =>
  m_chk (¬ (v12 < 0 ∨ 2000 ≤ (v12).toNatClampNeg)) (
  m_bnd (Ac4 2 (v12).toNatClampNeg) (fun v13 =>
  m_if (v13 = (50 : Int32)) (
  f_resultHere_138 (1 : Int32) Ic4 Ac4
  ) (
  f_resultHere_137  Ic4 Ac4
  ))))
  ) (
  f_resultHere_137  Ic4 Ac4
  ))))
  ) (
  f_resultHere_137  Ic4 Ac4
  ))))
  ) (
  f_resultHere_137  Ic4 Ac4
  ))))
  ))
  ))
  ) (
  some ((2 : Int32), (Ic3, Ac3))
  ))
  ) (
  some ((1 : Int32), (Ic2, Ac2))
  ))
  ))
def f_resultHere (I : Nat → Int32) (A : Nat → Nat → Int32) : Option (Int32 × MS) := f_resultHere_0  I A
def f_addMarkTo_0 (x1 : Int32) (x2 : Int32) (x3 : Int32) (I : Nat → Int32) (A : Nat → Nat → Int32) : Option (Int32 × MS) :=
  m_bnd ((301 : Int32) * x1) (fun v1 =>
  m_bnd (v1 + x2) (fun v2 =>
  m_bnd ((4 : Int32) * v2) (fun v3 =>
  m_chk (¬ (v2 < 0 ∨ 602 ≤ (v2).toNatClampNeg)) (
  m_bnd (A 12 (v2).toNatClampNeg) (fun v4 =>
  m_bnd (v3 + v4) (fun v5 =>
  m_chk (¬ (v5 < 0 ∨ 2408 ≤ (v5).toNatClampNeg)) (
  m_bnd (va_up A 13 (upd (A 13) (v5).toNatClampNeg x3)) (fun A6 =>
  m_chk (¬ (v2 < 0 ∨ 602 ≤ (v2).toNatClampNeg)) (
  m_bnd (A6 12 (v2).toNatClampNeg) (fun v7 =>
  m_bnd (v7 + (1 : Int32)) (fun v8 =>
  m_chk (¬ (v2 < 0 ∨ 602 ≤ (v2).toNatClampNeg)) (
  m_bnd (va_up A6 12 (upd (A6 12) (v2).toNatClampNeg v8)) (fun A9 =>
  some (0, (I, A9)))))))))))))))
def f_addMarkTo (x1 : Int32) (x2 : Int32) (x3 : Int32) (I : Nat → Int32) (A : Nat → Nat → Int32) : Option (Int32 × MS) := f_addMarkTo_0 x1 x2 x3 I A
def f_readMarks_236 (I : Nat → Int32) (A : Nat → Nat → Int32) : Option (Int32 × MS) :=
  m_cl (f_fault (1 : Int32) (I 37) I A) (fun r1 Ic1 Ac1 =>
  some (r1, (Ic1, Ac1)))
def f_readMarks_269 (x3 : Int32) (I : Nat → Int32) (A : Nat → Nat → Int32) : Option (Int32 × MS) :=
  m_cl (f_fault (8 : Int32) x3 I A) (fun r1 Ic1 Ac1 =>
  some (r1, (Ic1, Ac1)))
def f_readMarks_221 (self144 : Int32 → Int32 → (Nat → Int32) → (Nat → Nat → Int32) → Option (Int32 × MS)) (x1 : Int32) (x2 : Int32) (x3 : Int32) (x4 : Int32) (x5 : Int32) (I : Nat → Int32) (A : Nat → Nat → Int32) : Option (Int32 × MS) :=
  m_if (x5 = 0) (
  f_readMarks_236  I A
  ) (
  m_cl (f_look  I A) (fun r1 Ic1 Ac1 =>
  m_cl (f_isDigit r1 Ic1 Ac1) (fun r2 Ic2 Ac2 =>
  m_if (r2 = 0) (
  m_if ((255 : Int32) < x4) (
  f_readMarks_269 x3 Ic2 Ac2
  ) (
  m_bnd ((301 : Int32) * x1) (fun v3 =>
  m_bnd (v3 + x2) (fun v4 =>
  m_chk (¬ (v4 < 0 ∨ 602 ≤ (v4).toNatClampNeg)) (
  m_bnd (Ac2 12 (v4).toNatClampNeg) (fun v5 =>
  m_if (v5 = (4 : Int32)) (
  f_readMarks_269 x3 Ic2 Ac2
  ) (
  m_cl (f_addMarkTo x1 x2 x4 Ic2 Ac2) (fun r6 Ic6 Ac6 =>
  m_cl (f_blanks  Ic6 Ac6) (fun r7 Ic7 Ac7 =>
  self144 x1 x2 Ic7 Ac7))
  )))))
  )
  ) (
  f_readMarks_236  Ic2 Ac2
  )))
  )
def f_readMarks_174s (self144 : Int32 → Int32 → (Nat → Int32) → (Nat → Nat → Int32) → Option (Int32 × MS)) (self174 : Int32 → Int32 → Int32 → Int32 → Int32 → (Nat → Int32) → (Nat → Nat → Int32) → Option (Int32 × MS)) (x1 : Int32) (x2 : Int32) (x3 : Int32) (x4 : Int32) (x5 : Int32) (I : Nat → Int32) (A : Nat → Nat → Int32) : Option (Int32 × MS) :=
  m_cl (f_look  I A) (fun r1 Ic1 Ac1 =>
  m_cl (f_isDigit r1 Ic1 Ac1) (fun r2 Ic2 Ac2 =>
  m_if (r2 = 0) (
  f_readMarks_221 self144 x1 x2 x3 x4 x5 Ic2 Ac2
  ) (
  m_if ((3 : Int32) ≤ x5) (
  f_readMarks_221 self144 x1 x2 x3 x4 x5 Ic2 Ac2
  ) (
  m_bnd ((10 : Int32) * x4) (fun v3 =>
  m_cl (f_look  Ic2 Ac2) (fun r4 Ic4 Ac4 =>
  m_bnd (v3 + r4) (fun v5 =>
  m_bnd (v5 - (48 : Int32)) (fun v6 =>
  m_bnd (x5 + (1 : Int32)) (fun v7 =>
  m_bnd ((Ic4 37) + (1 : Int32)) (fun v8 =>
  m_bnd (upd Ic4 37 v8) (fun I9 =>
  self174 x1 x2 x3 v6 v7 I9 Ac4)))))))
  )
  )))
def f_readMarks_174 (self144 : Int32 → Int32 → (Nat → Int32) → (Nat → Nat → Int32) → Option (Int32 × MS)) : Nat → Int32 → Int32 → Int32 → Int32 → Int32 → (Nat → Int32) → (Nat → Nat → Int32) → Option (Int32 × MS)
  | 0 => fun _ _ _ _ _ _ _ => none
  | n + 1 => f_readMarks_174s self144 (f_readMarks_174 self144 n)
def f_readMarks_144s (self144 : Int32 → Int32 → (Nat → Int32) → (Nat → Nat → Int32) → Option (Int32 × MS)) (x1 : Int32) (x2 : Int32) (I : Nat → Int32) (A : Nat → Nat → Int32) : Option (Int32 × MS) :=
  m_cl (f_look  I A) (fun r1 Ic1 Ac1 =>
  m_if (r1 = (36 : Int32)) (
  m_bnd ((Ic1 37) + (1 : Int32)) (fun v2 =>
  m_bnd (upd Ic1 37 v2) (fun I3 =>
  f_readMarks_174 self144 mFuel x1 x2 (Ic1 37) (0 : Int32) (0 : Int32) I3 Ac1))
  ) (
  some ((0 : Int32), (Ic1, Ac1))
  ))
def f_readMarks_144 : Nat → Int32 → Int32 → (Nat → Int32) → (Nat → Nat → Int32) → Option (Int32 × MS)
  | 0 => fun _ _ _ _ => none
  | n + 1 => f_readMarks_144s (f_readMarks_144 n)
def f_readMarks_132 (x1 : Int32) (x2 : Int32) (x4 : Int32) (I : Nat → Int32) (A : Nat → Nat → Int32) : Option (Int32 × MS) :=
  m_cl (f_addMarkTo x1 x2 x4 I A) (fun r1 Ic1 Ac1 =>
  m_cl (f_blanks  Ic1 Ac1) (fun r2 Ic2 Ac2 =>
  f_readMarks_144 mFuel x1 x2 Ic2 Ac2))
def f_readMarks_120 (x1 : Int32) (x2 : Int32) (t0 : Int32) (I : Nat → Int32) (A : Nat → Nat → Int32) : Option (Int32 × MS) :=
  m_bnd ((I 37) + (1 : Int32)) (fun v1 =>
  m_bnd (upd I 37 v1) (fun I2 =>
  f_readMarks_132 x1 x2 t0 I2 A))
def f_readMarks_90 (x1 : Int32) (x2 : Int32) (x3 : Int32) (t0 : Int32) (I : Nat → Int32) (A : Nat → Nat → Int32) : Option (Int32 × MS) :=
  m_if (x3 = 0) (
  m_if (t0 = 0) (
  f_readMarks_120 x1 x2 (4 : Int32) I A
  ) (
  f_readMarks_120 x1 x2 (6 : Int32) I A
  )
  ) (
  m_if (t0 = 0) (
  f_readMarks_120 x1 x2 (5 : Int32) I A
  ) (
  f_readMarks_120 x1 x2 (3 : Int32) I A
  )
  )
def f_readMarks_76 (x1 : Int32) (x2 : Int32) (x3 : Int32) (I : Nat → Int32) (A : Nat → Nat → Int32) : Option (Int32 × MS) :=
  m_cl (f_look  I A) (fun r1 Ic1 Ac1 =>
  m_if (r1 = (33 : Int32)) (
  f_readMarks_90 x1 x2 x3 (1 : Int32) Ic1 Ac1
  ) (
  f_readMarks_90 x1 x2 x3 (0 : Int32) Ic1 Ac1
  ))
def f_readMarks_56 (x1 : Int32) (x2 : Int32) (x3 : Int32) (t0 : Int32) (I : Nat → Int32) (A : Nat → Nat → Int32) : Option (Int32 × MS) :=
  m_cl (f_look  I A) (fun r1 Ic1 Ac1 =>
  m_if (r1 = (33 : Int32)) (
  f_readMarks_76 x1 x2 x3 Ic1 Ac1
  ) (
  m_cl (f_look  Ic1 Ac1) (fun r2 Ic2 Ac2 =>
  m_if (r2 = (63 : Int32)) (
  f_readMarks_76 x1 x2 x3 Ic2 Ac2
  ) (
  f_readMarks_132 x1 x2 t0 Ic2 Ac2
  ))
  ))
def f_readMarks_36 (x1 : Int32) (x2 : Int32) (t0 : Int32) (I : Nat → Int32) (A : Nat → Nat → Int32) : Option (Int32 × MS) :=
  m_bnd ((I 37) + (1 : Int32)) (fun v1 =>
  m_bnd (upd I 37 v1) (fun I2 =>
  m_if (t0 = 0) (
  f_readMarks_56 x1 x2 t0 (2 : Int32) I2 A
  ) (
  f_readMarks_56 x1 x2 t0 (1 : Int32) I2 A
  )))
def f_readMarks_22 (x1 : Int32) (x2 : Int32) (I : Nat → Int32) (A : Nat → Nat → Int32) : Option (Int32 × MS) :=
  m_cl (f_look  I A) (fun r1 Ic1 Ac1 =>
  m_if (r1 = (33 : Int32)) (
  f_readMarks_36 x1 x2 (1 : Int32) Ic1 Ac1
  ) (
  f_readMarks_36 x1 x2 (0 : Int32) Ic1 Ac1
  ))
def f_readMarks_0 (x1 : Int32) (x2 : Int32) (I : Nat → Int32) (A : Nat → Nat → Int32) : Option (Int32 × MS) :=
  m_cl (f_blanks  I A) (fun r1 Ic1 Ac1 =>
  m_cl (f_look  Ic1 Ac1) (fun r2 Ic2 Ac2 =>
  m_if (r2 = (33 : Int32)) (
  f_readMarks_22 x1 x2 Ic2 Ac2
  ) (
  m_cl (f_look  Ic2 Ac2) (fun r3 Ic3 Ac3 =>
  m_if (r3 = (63 : Int32)) (
  f_readMarks_22 x1 x2 Ic3 Ac3
  ) (
  f_readMarks_144 mFuel x1 x2 Ic3 Ac3
  ))
  )))
def f_readMarks (x1 : Int32) (x2 : Int32) (I : Nat → Int32) (A : Nat → Nat → Int32) : Option (Int32 × MS) := f_readMarks_0 x1 x2 I A
def f_readMoveNumber_65s (self65 : Int32 → Int32 → (Nat → Int32) → (Nat → Nat → Int32) → Option (Int32 × MS)) (x1 : Int32) (x2 : Int32) (I : Nat → Int32) (A : Nat → Nat → Int32) : Option (Int32 × MS) :=
  m_cl (f_look  I A) (fun r1 Ic1 Ac1 =>
  m_if (r1 = (46 : Int32)) (
  m_bnd ((Ic1 37) + (1 : Int32)) (fun v4 =>
  m_bnd (upd Ic1 37 v4) (fun I5 =>
  self65 x1 x2 I5 Ac1))
  ) (
  m_if (x2 = (Ic1 29)) (
  m_cl (f_blanks  Ic1 Ac1) (fun r2 Ic2 Ac2 =>
  some ((0 : Int32), (Ic2, Ac2)))
  ) (
  m_cl (f_fault (7 : Int32) x1 Ic1 Ac1) (fun r3 Ic3 Ac3 =>
  some (r3, (Ic3, Ac3)))
  )
  ))
def f_readMoveNumber_65 : Nat → Int32 → Int32 → (Nat → Int32) → (Nat → Nat → Int32) → Option (Int32 × MS)
  | 0 => fun _ _ _ _ => none
  | n + 1 => f_readMoveNumber_65s (f_readMoveNumber_65 n)
def f_readMoveNumber_21s (self21 : Int32 → Int32 → Int32 → (Nat → Int32) → (Nat → Nat → Int32) → Option (Int32 × MS)) (x1 : Int32) (x2 : Int32) (x3 : Int32) (I : Nat → Int32) (A : Nat → Nat → Int32) : Option (Int32 × MS) :=
  m_cl (f_look  I A) (fun r1 Ic1 Ac1 =>
  m_cl (f_isDigit r1 Ic1 Ac1) (fun r2 Ic2 Ac2 =>
  m_if (r2 = 0) (
  f_readMoveNumber_65 mFuel x1 x2 Ic2 Ac2
  ) (
  m_if ((4 : Int32) ≤ x3) (
  f_readMoveNumber_65 mFuel x1 x2 Ic2 Ac2
  ) (
  m_bnd ((10 : Int32) * x2) (fun v3 =>
  m_cl (f_look  Ic2 Ac2) (fun r4 Ic4 Ac4 =>
  m_bnd (v3 + r4) (fun v5 =>
  m_bnd (v5 - (48 : Int32)) (fun v6 =>
  m_bnd (x3 + (1 : Int32)) (fun v7 =>
  m_bnd ((Ic4 37) + (1 : Int32)) (fun v8 =>
  m_bnd (upd Ic4 37 v8) (fun I9 =>
  self21 x1 v6 v7 I9 Ac4)))))))
  )
  )))
def f_readMoveNumber_21 : Nat → Int32 → Int32 → Int32 → (Nat → Int32) → (Nat → Nat → Int32) → Option (Int32 × MS)
  | 0 => fun _ _ _ _ _ => none
  | n + 1 => f_readMoveNumber_21s (f_readMoveNumber_21 n)
def f_readMoveNumber_0 (I : Nat → Int32) (A : Nat → Nat → Int32) : Option (Int32 × MS) :=
  m_cl (f_look  I A) (fun r1 Ic1 Ac1 =>
  m_cl (f_isDigit r1 Ic1 Ac1) (fun r2 Ic2 Ac2 =>
  m_if (r2 = 0) (
  some ((0 : Int32), (Ic2, Ac2))
  ) (
  f_readMoveNumber_21 mFuel (Ic2 37) (0 : Int32) (0 : Int32) Ic2 Ac2
  )))
def f_readMoveNumber (I : Nat → Int32) (A : Nat → Nat → Int32) : Option (Int32 × MS) := f_readMoveNumber_0  I A
def f_readMove_81 (self25 : Int32 → Int32 → Int32 → (Nat → Int32) → (Nat → Nat → Int32) → Option (Int32 × MS)) (x1 : Int32) (x2 : Int32) (x3 : Int32) (I : Nat → Int32) (A : Nat → Nat → Int32) : Option (Int32 × MS) :=
  m_bnd ((I 37) + (1 : Int32)) (fun v1 =>
  m_bnd (upd I 37 v1) (fun I2 =>
  self25 x1 x2 x3 I2 A))
def f_readMove_122 (x3 : Int32) (t0 : Int32) (I : Nat → Int32) (A : Nat → Nat → Int32) : Option (Int32 × MS) :=
  m_cl (f_fault t0 x3 I A) (fun r1 Ic1 Ac1 =>
  m_bnd (-r1) (fun v2 =>
  some (v2, (Ic1, Ac1))))
def f_readMove_25s (self25 : Int32 → Int32 → Int32 → (Nat → Int32) → (Nat → Nat → Int32) → Option (Int32 × MS)) (x1 : Int32) (x2 : Int32) (x3 : Int32) (I : Nat → Int32) (A : Nat → Nat → Int32) : Option (Int32 × MS) :=
  m_cl (f_look  I A) (fun r1 Ic1 Ac1 =>
  m_cl (f_isLetter r1 Ic1 Ac1) (fun r2 Ic2 Ac2 =>
  m_if (r2 = 0) (
  m_cl (f_look  Ic2 Ac2) (fun r3 Ic3 Ac3 =>
  m_cl (f_isDigit r3 Ic3 Ac3) (fun r4 Ic4 Ac4 =>
  m_if (r4 = 0) (
  m_cl (f_look  Ic4 Ac4) (fun r5 Ic5 Ac5 =>
  m_if (r5 = (61 : Int32)) (
  f_readMove_81 self25 x1 x2 x3 Ic5 Ac5
  ) (
  m_cl (f_look  Ic5 Ac5) (fun r6 Ic6 Ac6 =>
  m_if (r6 = (45 : Int32)) (
  f_readMove_81 self25 x1 x2 x3 Ic6 Ac6
  ) (
  m_cl (f_look  Ic6 Ac6) (fun r7 Ic7 Ac7 =>
  m_if (r7 = (43 : Int32)) (
  f_readMove_81 self25 x1 x2 x3 Ic7 Ac7
  ) (
  m_cl (f_look  Ic7 Ac7) (fun r8 Ic8 Ac8 =>
  m_if (r8 = (35 : Int32)) (
  f_readMove_81 self25 x1 x2 x3 Ic8 Ac8
  ) (
  m_cl (f_understood x3 (Ic8 37) Ic8 Ac8) (fun r9 Ic9 Ac9 =>
  m_if (0 ≤ r9) (
  m_cl (f_childWith x1 x2 r9 Ic9 Ac9) (fun r10 Ic10 Ac10 =>
  m_if (r10 < 0) (
  m_chk (¬ (x1 < 0 ∨ 2 ≤ (x1).toNatClampNeg)) (
  m_bnd (Ac10 7 (x1).toNatClampNeg) (fun v11 =>
  m_if (v11 = (300 : Int32)) (
  m_cl (f_fault (8 : Int32) x3 Ic10 Ac10) (fun r13 Ic13 Ac13 =>
  m_bnd (-r13) (fun v14 =>
  some (v14, (Ic13, Ac13))))
  ) (
  m_cl (f_append x1 x2 r9 Ic10 Ac10) (fun r12 Ic12 Ac12 =>
  some (r12, (Ic12, Ac12)))
  )))
  ) (
  m_cl (f_fault (6 : Int32) x3 Ic10 Ac10) (fun r15 Ic15 Ac15 =>
  m_bnd (-r15) (fun v16 =>
  some (v16, (Ic15, Ac15))))
  ))
  ) (
  m_if (r9 = (-2 : Int32)) (
  f_readMove_122 x3 (5 : Int32) Ic9 Ac9
  ) (
  f_readMove_122 x3 (4 : Int32) Ic9 Ac9
  )
  ))
  ))
  ))
  ))
  ))
  ) (
  f_readMove_81 self25 x1 x2 x3 Ic4 Ac4
  )))
  ) (
  f_readMove_81 self25 x1 x2 x3 Ic2 Ac2
  )))
def f_readMove_25 : Nat → Int32 → Int32 → Int32 → (Nat → Int32) → (Nat → Nat → Int32) → Option (Int32 × MS)
  | 0 => fun _ _ _ _ _ => none
  | n + 1 => f_readMove_25s (f_readMove_25 n)
def f_readMove_0 (x1 : Int32) (x2 : Int32) (I : Nat → Int32) (A : Nat → Nat → Int32) : Option (Int32 × MS) :=
  m_cl (f_look  I A) (fun r1 Ic1 Ac1 =>
  m_cl (f_isLetter r1 Ic1 Ac1) (fun r2 Ic2 Ac2 =>
  m_if (r2 = 0) (
  m_cl (f_fault (1 : Int32) (Ic2 37) Ic2 Ac2) (fun r3 Ic3 Ac3 =>
  m_bnd (-r3) (fun v4 =>
  some (v4, (Ic3, Ac3))))
  ) (
  f_readMove_25 mFuel x1 x2 (I 37) Ic2 Ac2
  )))
def f_readMove (x1 : Int32) (x2 : Int32) (I : Nat → Int32) (A : Nat → Nat → Int32) : Option (Int32 × MS) := f_readMove_0 x1 x2 I A
def f_readLine_224 (rec : Int32 → Int32 → Int32 → (Nat → Int32) → (Nat → Nat → Int32) → Option (Int32 × MS)) (self3 : Int32 → Int32 → Int32 → Int32 → (Nat → Int32) → (Nat → Nat → Int32) → Option (Int32 × MS)) (x1 : Int32) (x2 : Int32) (x3 : Int32) (x4 : Int32) (x5 : Int32) (I : Nat → Int32) (A : Nat → Nat → Int32) : Option (Int32 × MS) :=
  m_if (x5 ≤ 0) (
  self3 x1 x2 x3 x4 I A
  ) (
  some (x5, (I, A))
  )
def f_readLine_219 (rec : Int32 → Int32 → Int32 → (Nat → Int32) → (Nat → Nat → Int32) → Option (Int32 × MS)) (self3 : Int32 → Int32 → Int32 → Int32 → (Nat → Int32) → (Nat → Nat → Int32) → Option (Int32 × MS)) (self113 : Int32 → Int32 → Int32 → Int32 → Int32 → Int32 → (Nat → Int32) → (Nat → Nat → Int32) → Option (Int32 × MS)) (x1 : Int32) (x2 : Int32) (x3 : Int32) (x4 : Int32) (x7 : Int32) (t0 : Int32) (I : Nat → Int32) (A : Nat → Nat → Int32) : Option (Int32 × MS) :=
  self113 x1 x2 x3 x4 t0 x7 I A
def f_readLine_199 (rec : Int32 → Int32 → Int32 → (Nat → Int32) → (Nat → Nat → Int32) → Option (Int32 × MS)) (self3 : Int32 → Int32 → Int32 → Int32 → (Nat → Int32) → (Nat → Nat → Int32) → Option (Int32 × MS)) (self113 : Int32 → Int32 → Int32 → Int32 → Int32 → Int32 → (Nat → Int32) → (Nat → Nat → Int32) → Option (Int32 × MS)) (x1 : Int32) (x2 : Int32) (x3 : Int32) (x4 : Int32) (x5 : Int32) (x7 : Int32) (t0 : Int32) (I : Nat → Int32) (A : Nat → Nat → Int32) : Option (Int32 × MS) :=
  m_bnd (upd I 37 t0) (fun I1 =>
  m_if (x5 ≤ 0) (
  m_cl (f_readRemarks x1 x4 I1 A) (fun r2 Ic2 Ac2 =>
  f_readLine_219 rec self3 self113 x1 x2 x3 x4 x7 r2 Ic2 Ac2)
  ) (
  f_readLine_219 rec self3 self113 x1 x2 x3 x4 x7 x5 I1 A
  ))
def f_readLine_178 (rec : Int32 → Int32 → Int32 → (Nat → Int32) → (Nat → Nat → Int32) → Option (Int32 × MS)) (self3 : Int32 → Int32 → Int32 → Int32 → (Nat → Int32) → (Nat → Nat → Int32) → Option (Int32 × MS)) (self113 : Int32 → Int32 → Int32 → Int32 → Int32 → Int32 → (Nat → Int32) → (Nat → Nat → Int32) → Option (Int32 × MS)) (x1 : Int32) (x2 : Int32) (x3 : Int32) (x4 : Int32) (x7 : Int32) (t0 : Int32) (I : Nat → Int32) (A : Nat → Nat → Int32) : Option (Int32 × MS) :=
  m_if (t0 ≤ 0) (
  m_bnd ((I 37) + (1 : Int32)) (fun v1 =>
  f_readLine_199 rec self3 self113 x1 x2 x3 x4 t0 x7 v1 I A)
  ) (
  f_readLine_199 rec self3 self113 x1 x2 x3 x4 t0 x7 (I 37) I A
  )
def f_readLine_146 (rec : Int32 → Int32 → Int32 → (Nat → Int32) → (Nat → Nat → Int32) → Option (Int32 × MS)) (self3 : Int32 → Int32 → Int32 → Int32 → (Nat → Int32) → (Nat → Nat → Int32) → Option (Int32 × MS)) (self113 : Int32 → Int32 → Int32 → Int32 → Int32 → Int32 → (Nat → Int32) → (Nat → Nat → Int32) → Option (Int32 × MS)) (x1 : Int32) (x2 : Int32) (x3 : Int32) (x4 : Int32) (x7 : Int32) (t0 : Int32) (I : Nat → Int32) (A : Nat → Nat → Int32) : Option (Int32 × MS) :=
  m_bnd ((I 37) + (1 : Int32)) (fun v1 =>
  m_bnd (upd I 37 v1) (fun I2 =>
  m_if (t0 ≤ 0) (
  m_bnd (x3 + (1 : Int32)) (fun v3 =>
  m_cl (rec x1 x7 v3 I2 A) (fun r4 Ic4 Ac4 =>
  f_readLine_178 rec self3 self113 x1 x2 x3 x4 x7 r4 Ic4 Ac4))
  ) (
  f_readLine_178 rec self3 self113 x1 x2 x3 x4 x7 t0 I2 A
  )))
def f_readLine_113s (rec : Int32 → Int32 → Int32 → (Nat → Int32) → (Nat → Nat → Int32) → Option (Int32 × MS)) (self3 : Int32 → Int32 → Int32 → Int32 → (Nat → Int32) → (Nat → Nat → Int32) → Option (Int32 × MS)) (self113 : Int32 → Int32 → Int32 → Int32 → Int32 → Int32 → (Nat → Int32) → (Nat → Nat → Int32) → Option (Int32 × MS)) (x1 : Int32) (x2 : Int32) (x3 : Int32) (x4 : Int32) (x5 : Int32) (x7 : Int32) (I : Nat → Int32) (A : Nat → Nat → Int32) : Option (Int32 × MS) :=
  m_if (x5 = 0) (
  m_cl (f_look  I A) (fun r1 Ic1 Ac1 =>
  m_if (r1 = (40 : Int32)) (
  m_if (x3 = (6 : Int32)) (
  m_cl (f_fault (8 : Int32) (Ic1 37) Ic1 Ac1) (fun r2 Ic2 Ac2 =>
  f_readLine_146 rec self3 self113 x1 x2 x3 x4 x7 r2 Ic2 Ac2)
  ) (
  f_readLine_146 rec self3 self113 x1 x2 x3 x4 x7 (0 : Int32) Ic1 Ac1
  )
  ) (
  f_readLine_224 rec self3 x1 x2 x3 x4 x5 Ic1 Ac1
  ))
  ) (
  f_readLine_224 rec self3 x1 x2 x3 x4 x5 I A
  )
def f_readLine_113 (rec : Int32 → Int32 → Int32 → (Nat → Int32) → (Nat → Nat → Int32) → Option (Int32 × MS)) (self3 : Int32 → Int32 → Int32 → Int32 → (Nat → Int32) → (Nat → Nat → Int32) → Option (Int32 × MS)) : Nat → Int32 → Int32 → Int32 → Int32 → Int32 → Int32 → (Nat → Int32) → (Nat → Nat → Int32) → Option (Int32 × MS)
  | 0 => fun _ _ _ _ _ _ _ _ => none
  | n + 1 => f_readLine_113s rec self3 (f_readLine_113 rec self3 n)
def f_readLine_111 (rec : Int32 → Int32 → Int32 → (Nat → Int32) → (Nat → Nat → Int32) → Option (Int32 × MS)) (self3 : Int32 → Int32 → Int32 → Int32 → (Nat → Int32) → (Nat → Nat → Int32) → Option (Int32 × MS)) (x1 : Int32) (x2 : Int32) (x3 : Int32) (x4 : Int32) (x7 : Int32) (t0 : Int32) (I : Nat → Int32) (A : Nat → Nat → Int32) : Option (Int32 × MS) :=
  f_readLine_113 rec self3 mFuel x1 x2 x3 x4 t0 x7 I A
def f_readLine_38 (rec : Int32 → Int32 → Int32 → (Nat → Int32) → (Nat → Nat → Int32) → Option (Int32 × MS)) (self3 : Int32 → Int32 → Int32 → Int32 → (Nat → Int32) → (Nat → Nat → Int32) → Option (Int32 × MS)) (x1 : Int32) (x2 : Int32) (x3 : Int32) (x4 : Int32) (I : Nat → Int32) (A : Nat → Nat → Int32) : Option (Int32 × MS) :=
  m_cl (f_place x1 x4 I A) (fun r1 Ic1 Ac1 =>
  m_cl (f_readMoveNumber  Ic1 Ac1) (fun r2 Ic2 Ac2 =>
  m_if (r2 ≤ 0) (
  m_cl (f_readMove x1 x4 Ic2 Ac2) (fun r3 Ic3 Ac3 =>
  m_if (0 ≤ r3) (
  m_cl (f_readMarks x1 r3 Ic3 Ac3) (fun r4 Ic4 Ac4 =>
  m_if (r4 ≤ 0) (
  m_cl (f_readRemarks x1 r3 Ic4 Ac4) (fun r5 Ic5 Ac5 =>
  f_readLine_111 rec self3 x1 x2 x3 r3 x4 r5 Ic5 Ac5)
  ) (
  f_readLine_111 rec self3 x1 x2 x3 r3 x4 r4 Ic4 Ac4
  ))
  ) (
  m_bnd (-r3) (fun v6 =>
  some (v6, (Ic3, Ac3)))
  ))
  ) (
  some (r2, (Ic2, Ac2))
  )))
def f_readLine_36 (rec : Int32 → Int32 → Int32 → (Nat → Int32) → (Nat → Nat → Int32) → Option (Int32 × MS)) (I : Nat → Int32) (A : Nat → Nat → Int32) : Option (Int32 × MS) :=
  some ((0 : Int32), (I, A))
def f_readLine_3s (rec : Int32 → Int32 → Int32 → (Nat → Int32) → (Nat → Nat → Int32) → Option (Int32 × MS)) (self3 : Int32 → Int32 → Int32 → Int32 → (Nat → Int32) → (Nat → Nat → Int32) → Option (Int32 × MS)) (x1 : Int32) (x2 : Int32) (x3 : Int32) (x4 : Int32) (I : Nat → Int32) (A : Nat → Nat → Int32) : Option (Int32 × MS) :=
  m_cl (f_blanks  I A) (fun r1 Ic1 Ac1 =>
  m_if (x3 = 0) (
  m_cl (f_resultHere  Ic1 Ac1) (fun r3 Ic3 Ac3 =>
  m_if (r3 < 0) (
  f_readLine_38 rec self3 x1 x2 x3 x4 Ic3 Ac3
  ) (
  f_readLine_36 rec  Ic3 Ac3
  ))
  ) (
  m_cl (f_look  Ic1 Ac1) (fun r2 Ic2 Ac2 =>
  m_if (r2 = (41 : Int32)) (
  m_if (x4 = x2) (
  f_readLine_38 rec self3 x1 x2 x3 x4 Ic2 Ac2
  ) (
  f_readLine_36 rec  Ic2 Ac2
  )
  ) (
  f_readLine_38 rec self3 x1 x2 x3 x4 Ic2 Ac2
  ))
  ))
def f_readLine_3 (rec : Int32 → Int32 → Int32 → (Nat → Int32) → (Nat → Nat → Int32) → Option (Int32 × MS)) : Nat → Int32 → Int32 → Int32 → Int32 → (Nat → Int32) → (Nat → Nat → Int32) → Option (Int32 × MS)
  | 0 => fun _ _ _ _ _ _ => none
  | n + 1 => f_readLine_3s rec (f_readLine_3 rec n)
def f_readLine_0 (rec : Int32 → Int32 → Int32 → (Nat → Int32) → (Nat → Nat → Int32) → Option (Int32 × MS)) (x1 : Int32) (x2 : Int32) (x3 : Int32) (I : Nat → Int32) (A : Nat → Nat → Int32) : Option (Int32 × MS) :=
  f_readLine_3 rec mFuel x1 x2 x3 x2 I A
def fr_readLine : Nat → Int32 → Int32 → Int32 → (Nat → Int32) → (Nat → Nat → Int32) → Option (Int32 × MS)
  | 0 => fun _ _ _ _ _ => none
  | n + 1 => fun x1 x2 x3 I A => f_readLine_0 (fr_readLine n) x1 x2 x3 I A
def f_readLine (x1 : Int32) (x2 : Int32) (x3 : Int32) (I : Nat → Int32) (A : Nat → Nat → Int32) : Option (Int32 × MS) := fr_readLine 8 x1 x2 x3 I A
def f_resultSize_19 (t0 : Int32) (I : Nat → Int32) (A : Nat → Nat → Int32) : Option (Int32 × MS) :=
  some (t0, (I, A))
def f_resultSize_0 (x0 : Int32) (I : Nat → Int32) (A : Nat → Nat → Int32) : Option (Int32 × MS) :=
  m_if (x0 = 0) (
  f_resultSize_19 (1 : Int32) I A
  ) (
  m_if (x0 = (3 : Int32)) (
  f_resultSize_19 (7 : Int32) I A
  ) (
  f_resultSize_19 (3 : Int32) I A
  )
  )
def f_resultSize (x0 : Int32) (I : Nat → Int32) (A : Nat → Nat → Int32) : Option (Int32 × MS) := f_resultSize_0 x0 I A
def f_resultSign_52 (t0 : Int32) (I : Nat → Int32) (A : Nat → Nat → Int32) : Option (Int32 × MS) :=
  m_chk (vp_nar .char t0 = t0) (some (t0, (I, A)))
def f_resultSign_74 (t0 : Int32) (I : Nat → Int32) (A : Nat → Nat → Int32) : Option (Int32 × MS) :=
  m_chk (vp_nar .char t0 = t0) (some (t0, (I, A)))
def f_resultSign_116 (t0 : Int32) (I : Nat → Int32) (A : Nat → Nat → Int32) : Option (Int32 × MS) :=
  m_chk (vp_nar .char t0 = t0) (some (t0, (I, A)))
def f_resultSign_85 (I : Nat → Int32) (A : Nat → Nat → Int32) : Option (Int32 × MS) :=
  f_resultSign_116 (47 : Int32) I A
def f_resultSign_109 (I : Nat → Int32) (A : Nat → Nat → Int32) : Option (Int32 × MS) :=
  f_resultSign_116 (49 : Int32) I A
def f_resultSign_0 (x0 : Int32) (x1 : Int32) (I : Nat → Int32) (A : Nat → Nat → Int32) : Option (Int32 × MS) :=
  m_if (x0 = (0 : Int32)) (
  m_chk (vp_nar .char (42 : Int32) = (42 : Int32)) (some ((42 : Int32), (I, A)))
  ) (
  m_if (x0 = (1 : Int32)) (
  m_if (x1 = 0) (
  f_resultSign_52 (49 : Int32) I A
  ) (
  m_if (x1 = (1 : Int32)) (
  f_resultSign_52 (45 : Int32) I A
  ) (
  f_resultSign_52 (48 : Int32) I A
  )
  )
  ) (
  m_if (x0 = (2 : Int32)) (
  m_if (x1 = 0) (
  f_resultSign_74 (48 : Int32) I A
  ) (
  m_if (x1 = (1 : Int32)) (
  f_resultSign_74 (45 : Int32) I A
  ) (
  f_resultSign_74 (49 : Int32) I A
  )
  )
  ) (
  m_if (x1 = (1 : Int32)) (
  f_resultSign_85  I A
  ) (
  m_if (x1 = (5 : Int32)) (
  f_resultSign_85  I A
  ) (
  m_if (x1 = (3 : Int32)) (
  f_resultSign_116 (45 : Int32) I A
  ) (
  m_if (x1 = 0) (
  f_resultSign_109  I A
  ) (
  m_if (x1 = (4 : Int32)) (
  f_resultSign_109  I A
  ) (
  f_resultSign_116 (50 : Int32) I A
  )
  )
  )
  )
  )
  )))
def f_resultSign (x0 : Int32) (x1 : Int32) (I : Nat → Int32) (A : Nat → Nat → Int32) : Option (Int32 × MS) := f_resultSign_0 x0 x1 I A
def f_isResultValue_82 (x4 : Int32) (I : Nat → Int32) (A : Nat → Nat → Int32) : Option (Int32 × MS) :=
  m_chk (vp_nar .boolean x4 = x4) (some (x4, (I, A)))
def f_isResultValue_74 (self28 : Int32 → Int32 → Int32 → Int32 → Int32 → (Nat → Int32) → (Nat → Nat → Int32) → Option (Int32 × MS)) (x1 : Int32) (x2 : Int32) (x3 : Int32) (x5 : Int32) (t0 : Int32) (I : Nat → Int32) (A : Nat → Nat → Int32) : Option (Int32 × MS) :=
  m_bnd (x5 + (1 : Int32)) (fun v1 =>
  self28 x1 x2 x3 t0 v1 I A)
def f_isResultValue_28s (self28 : Int32 → Int32 → Int32 → Int32 → Int32 → (Nat → Int32) → (Nat → Nat → Int32) → Option (Int32 × MS)) (x1 : Int32) (x2 : Int32) (x3 : Int32) (x4 : Int32) (x5 : Int32) (I : Nat → Int32) (A : Nat → Nat → Int32) : Option (Int32 × MS) :=
  m_cl (f_resultSize x3 I A) (fun r1 Ic1 Ac1 =>
  m_if (r1 ≤ x5) (
  f_isResultValue_82 x4 Ic1 Ac1
  ) (
  m_if (x4 = 0) (
  f_isResultValue_82 x4 Ic1 Ac1
  ) (
  m_bnd ((768 : Int32) * x1) (fun v2 =>
  m_bnd ((96 : Int32) * x2) (fun v3 =>
  m_bnd (v2 + v3) (fun v4 =>
  m_bnd (v4 + x5) (fun v5 =>
  m_chk (¬ (v5 < 0 ∨ 1536 ≤ (v5).toNatClampNeg)) (
  m_bnd (Ac1 22 (v5).toNatClampNeg) (fun v6 =>
  m_cl (f_resultSign x3 x5 Ic1 Ac1) (fun r7 Ic7 Ac7 =>
  m_if (v6 = r7) (
  f_isResultValue_74 self28 x1 x2 x3 x5 (1 : Int32) Ic7 Ac7
  ) (
  f_isResultValue_74 self28 x1 x2 x3 x5 (0 : Int32) Ic7 Ac7
  ))))))))
  )
  ))
def f_isResultValue_28 : Nat → Int32 → Int32 → Int32 → Int32 → Int32 → (Nat → Int32) → (Nat → Nat → Int32) → Option (Int32 × MS)
  | 0 => fun _ _ _ _ _ _ _ => none
  | n + 1 => f_isResultValue_28s (f_isResultValue_28 n)
def f_isResultValue_23 (x1 : Int32) (x2 : Int32) (x3 : Int32) (t0 : Int32) (I : Nat → Int32) (A : Nat → Nat → Int32) : Option (Int32 × MS) :=
  f_isResultValue_28 mFuel x1 x2 x3 t0 (0 : Int32) I A
def f_isResultValue_0 (x1 : Int32) (x2 : Int32) (x3 : Int32) (I : Nat → Int32) (A : Nat → Nat → Int32) : Option (Int32 × MS) :=
  m_bnd ((8 : Int32) * x1) (fun v1 =>
  m_bnd (v1 + x2) (fun v2 =>
  m_chk (¬ (v2 < 0 ∨ 16 ≤ (v2).toNatClampNeg)) (
  m_bnd (A 21 (v2).toNatClampNeg) (fun v3 =>
  m_cl (f_resultSize x3 I A) (fun r4 Ic4 Ac4 =>
  m_if (v3 = r4) (
  f_isResultValue_23 x1 x2 x3 (1 : Int32) Ic4 Ac4
  ) (
  f_isResultValue_23 x1 x2 x3 (0 : Int32) Ic4 Ac4
  ))))))
def f_isResultValue (x1 : Int32) (x2 : Int32) (x3 : Int32) (I : Nat → Int32) (A : Nat → Nat → Int32) : Option (Int32 × MS) := f_isResultValue_0 x1 x2 x3 I A
def f_readGame_185 (t0 : Int32) (I : Nat → Int32) (A : Nat → Nat → Int32) : Option (Int32 × MS) :=
  some (t0, (I, A))
def f_readGame_154 (t0 : Int32) (t1 : Int32) (I : Nat → Int32) (A : Nat → Nat → Int32) : Option (Int32 × MS) :=
  m_bnd (t1 + t0) (fun v1 =>
  m_bnd (upd I 37 v1) (fun I2 =>
  m_cl (f_blanks  I2 A) (fun r3 Ic3 Ac3 =>
  m_if ((Ic3 1) ≤ (Ic3 37)) (
  f_readGame_185 (0 : Int32) Ic3 Ac3
  ) (
  m_cl (f_fault (1 : Int32) (Ic3 37) Ic3 Ac3) (fun r4 Ic4 Ac4 =>
  f_readGame_185 r4 Ic4 Ac4)
  ))))
def f_readGame_117 (self74 : Int32 → Int32 → Int32 → (Nat → Int32) → (Nat → Nat → Int32) → Option (Int32 × MS)) (x1 : Int32) (x3 : Int32) (x4 : Int32) (I : Nat → Int32) (A : Nat → Nat → Int32) : Option (Int32 × MS) :=
  m_bnd (x4 + (1 : Int32)) (fun v1 =>
  self74 x1 x3 v1 I A)
def f_readGame_74s (self74 : Int32 → Int32 → Int32 → (Nat → Int32) → (Nat → Nat → Int32) → Option (Int32 × MS)) (x1 : Int32) (x3 : Int32) (x4 : Int32) (I : Nat → Int32) (A : Nat → Nat → Int32) : Option (Int32 × MS) :=
  m_chk (¬ (x1 < 0 ∨ 2 ≤ (x1).toNatClampNeg)) (
  m_bnd (A 18 (x1).toNatClampNeg) (fun v1 =>
  m_if (v1 ≤ x4) (
  m_chk (¬ (x1 < 0 ∨ 2 ≤ (x1).toNatClampNeg)) (
  m_bnd (va_up A 23 (upd (A 23) (x1).toNatClampNeg x3)) (fun A2 =>
  m_if (x3 = 0) (
  f_readGame_154 (1 : Int32) (I 37) I A2
  ) (
  m_if (x3 = (3 : Int32)) (
  f_readGame_154 (7 : Int32) (I 37) I A2
  ) (
  f_readGame_154 (3 : Int32) (I 37) I A2
  )
  )))
  ) (
  m_cl (f_isTag x4 x1 (1 : Int32) I A) (fun r3 Ic3 Ac3 =>
  m_if (r3 = 0) (
  f_readGame_117 self74 x1 x3 x4 Ic3 Ac3
  ) (
  m_cl (f_isResultValue x1 x4 x3 Ic3 Ac3) (fun r4 Ic4 Ac4 =>
  m_if (r4 = 0) (
  m_cl (f_fault (9 : Int32) (Ic4 37) Ic4 Ac4) (fun r5 Ic5 Ac5 =>
  some (r5, (Ic5, Ac5)))
  ) (
  f_readGame_117 self74 x1 x3 x4 Ic4 Ac4
  ))
  ))
  )))
def f_readGame_74 : Nat → Int32 → Int32 → Int32 → (Nat → Int32) → (Nat → Nat → Int32) → Option (Int32 × MS)
  | 0 => fun _ _ _ _ _ => none
  | n + 1 => f_readGame_74s (f_readGame_74 n)
def f_readGame_59 (x1 : Int32) (t0 : Int32) (I : Nat → Int32) (A : Nat → Nat → Int32) : Option (Int32 × MS) :=
  m_if (t0 ≤ 0) (
  m_cl (f_resultHere  I A) (fun r1 Ic1 Ac1 =>
  f_readGame_74 mFuel x1 r1 (0 : Int32) Ic1 Ac1)
  ) (
  some (t0, (I, A))
  )
def f_readGame_9s (self9 : Int32 → (Nat → Int32) → (Nat → Nat → Int32) → Option (Int32 × MS)) (x1 : Int32) (I : Nat → Int32) (A : Nat → Nat → Int32) : Option (Int32 × MS) :=
  m_cl (f_look  I A) (fun r1 Ic1 Ac1 =>
  m_if (r1 = (91 : Int32)) (
  m_cl (f_readTag x1 Ic1 Ac1) (fun r4 Ic4 Ac4 =>
  m_if (r4 ≤ 0) (
  m_cl (f_blanks  Ic4 Ac4) (fun r5 Ic5 Ac5 =>
  self9 x1 Ic5 Ac5)
  ) (
  some (r4, (Ic4, Ac4))
  ))
  ) (
  m_cl (f_readRemarks x1 (0 : Int32) Ic1 Ac1) (fun r2 Ic2 Ac2 =>
  m_if (r2 ≤ 0) (
  m_cl (f_readLine x1 (0 : Int32) (0 : Int32) Ic2 Ac2) (fun r3 Ic3 Ac3 =>
  f_readGame_59 x1 r3 Ic3 Ac3)
  ) (
  f_readGame_59 x1 r2 Ic2 Ac2
  ))
  ))
def f_readGame_9 : Nat → Int32 → (Nat → Int32) → (Nat → Nat → Int32) → Option (Int32 × MS)
  | 0 => fun _ _ _ => none
  | n + 1 => f_readGame_9s (f_readGame_9 n)
def f_readGame_0 (x1 : Int32) (I : Nat → Int32) (A : Nat → Nat → Int32) : Option (Int32 × MS) :=
  m_bnd (upd I 37 (0 : Int32)) (fun I1 =>
  m_cl (f_blanks  I1 A) (fun r2 Ic2 Ac2 =>
  f_readGame_9 mFuel x1 Ic2 Ac2))
def f_readGame (x1 : Int32) (I : Nat → Int32) (A : Nat → Nat → Int32) : Option (Int32 × MS) := f_readGame_0 x1 I A
def f_read_47 (x2 : Int32) (I : Nat → Int32) (A : Nat → Nat → Int32) : Option (Int32 × MS) :=
  m_cl (f_place (I 5) (I 6) I A) (fun r1 Ic1 Ac1 =>
  some (x2, (Ic1, Ac1)))
def f_read_0 (I : Nat → Int32) (A : Nat → Nat → Int32) : Option (Int32 × MS) :=
  m_bnd (upd I 0 (0 : Int32)) (fun I1 =>
  m_bnd ((1 : Int32) - (I1 5)) (fun v2 =>
  m_cl (f_clearGame v2 I1 A) (fun r3 Ic3 Ac3 =>
  m_cl (f_usual v2 Ic3 Ac3) (fun r4 Ic4 Ac4 =>
  m_cl (f_readGame v2 Ic4 Ac4) (fun r5 Ic5 Ac5 =>
  m_if (r5 = 0) (
  m_bnd (upd Ic5 5 v2) (fun I6 =>
  m_bnd (upd I6 6 (0 : Int32)) (fun I7 =>
  m_bnd (upd I7 1 (0 : Int32)) (fun I8 =>
  f_read_47 r5 I8 Ac5)))
  ) (
  f_read_47 r5 Ic5 Ac5
  ))))))
def f_read (I : Nat → Int32) (A : Nat → Nat → Int32) : Option (Int32 × MS) := f_read_0  I A
def f_find_0 (I : Nat → Int32) (A : Nat → Nat → Int32) : Option (Int32 × MS) :=
  m_bnd (upd I 0 (0 : Int32)) (fun I1 =>
  m_cl (f_understood (0 : Int32) (I1 1) I1 A) (fun r2 Ic2 Ac2 =>
  some (r2, (Ic2, Ac2))))
def f_find (I : Nat → Int32) (A : Nat → Nat → Int32) : Option (Int32 × MS) := f_find_0  I A
def f_type_28 (I : Nat → Int32) (A : Nat → Nat → Int32) : Option (Int32 × MS) :=
  m_chk (vp_nar .boolean (0 : Int32) = (0 : Int32)) (some ((0 : Int32), (I, A)))
def f_type_90s (self90 : Int64 → Int32 → Int32 → (Nat → Int32) → (Nat → Nat → Int32) → Option (Int32 × MS)) (x1 : Int64) (x3 : Int32) (x4 : Int32) (I : Nat → Int32) (A : Nat → Nat → Int32) : Option (Int32 × MS) :=
  m_if (x3 ≤ x4) (
  m_chk (vp_nar .boolean (1 : Int32) = (1 : Int32)) (some ((1 : Int32), (I, A)))
  ) (
  m_bnd ((8 : Int32) * x4) (fun v1 =>
  m_bnd (x1 >>> ((v1).toInt64 &&& 63)) (fun v2 =>
  m_bnd (v2 &&& (255 : Int64)) (fun v3 =>
  m_bnd ((v3).toInt32) (fun v4 =>
  m_bnd ((v4.toUInt32 % 65536).toInt32) (fun v5 =>
  m_chk (¬ ((I 1) < 0 ∨ 2000 ≤ ((I 1)).toNatClampNeg)) (
  m_bnd (va_up A 2 (upd (A 2) ((I 1)).toNatClampNeg (vp_nar .char v5))) (fun A6 =>
  m_bnd ((I 1) + (1 : Int32)) (fun v7 =>
  m_bnd (upd I 1 v7) (fun I8 =>
  m_bnd (x4 + (1 : Int32)) (fun v9 =>
  self90 x1 x3 v9 I8 A6))))))))))
  )
def f_type_90 : Nat → Int64 → Int32 → Int32 → (Nat → Int32) → (Nat → Nat → Int32) → Option (Int32 × MS)
  | 0 => fun _ _ _ _ _ => none
  | n + 1 => f_type_90s (f_type_90 n)
def f_type_81 (self33 : Int64 → Int32 → Int32 → (Nat → Int32) → (Nat → Nat → Int32) → Option (Int32 × MS)) (x1 : Int64) (x3 : Int32) (x4 : Int32) (I : Nat → Int32) (A : Nat → Nat → Int32) : Option (Int32 × MS) :=
  m_bnd (x4 + (1 : Int32)) (fun v1 =>
  self33 x1 x3 v1 I A)
def f_type_79 (I : Nat → Int32) (A : Nat → Nat → Int32) : Option (Int32 × MS) :=
  m_chk (vp_nar .boolean (0 : Int32) = (0 : Int32)) (some ((0 : Int32), (I, A)))
def f_type_33s (self33 : Int64 → Int32 → Int32 → (Nat → Int32) → (Nat → Nat → Int32) → Option (Int32 × MS)) (x1 : Int64) (x3 : Int32) (x4 : Int32) (I : Nat → Int32) (A : Nat → Nat → Int32) : Option (Int32 × MS) :=
  m_if (x3 ≤ x4) (
  f_type_90 mFuel x1 x3 (0 : Int32) I A
  ) (
  m_bnd ((8 : Int32) * x4) (fun v1 =>
  m_bnd (x1 >>> ((v1).toInt64 &&& 63)) (fun v2 =>
  m_bnd (v2 &&& (255 : Int64)) (fun v3 =>
  m_bnd (lg_cmp v3 (10 : Int64)) (fun v4 =>
  m_if (v4 = 0) (
  f_type_81 self33 x1 x3 x4 I A
  ) (
  m_bnd (lg_cmp v3 (32 : Int64)) (fun v5 =>
  m_if (v5 < 0) (
  f_type_79  I A
  ) (
  m_bnd (lg_cmp v3 (126 : Int64)) (fun v6 =>
  m_if (v6 ≤ 0) (
  f_type_81 self33 x1 x3 x4 I A
  ) (
  f_type_79  I A
  ))
  ))
  )))))
  )
def f_type_33 : Nat → Int64 → Int32 → Int32 → (Nat → Int32) → (Nat → Nat → Int32) → Option (Int32 × MS)
  | 0 => fun _ _ _ _ _ => none
  | n + 1 => f_type_33s (f_type_33 n)
def f_type_0 (x1 : Int64) (x3 : Int32) (I : Nat → Int32) (A : Nat → Nat → Int32) : Option (Int32 × MS) :=
  m_bnd (upd I 0 (0 : Int32)) (fun I1 =>
  m_if (x3 < (1 : Int32)) (
  f_type_28  I1 A
  ) (
  m_if ((8 : Int32) < x3) (
  f_type_28  I1 A
  ) (
  m_bnd ((I1 1) + x3) (fun v2 =>
  m_if (v2 ≤ (2000 : Int32)) (
  f_type_33 mFuel x1 x3 (0 : Int32) I1 A
  ) (
  f_type_28  I1 A
  ))
  )
  ))
def f_type (x1 : Int64) (x3 : Int32) (I : Nat → Int32) (A : Nat → Nat → Int32) : Option (Int32 × MS) := f_type_0 x1 x3 I A
def f_cut_17 (I : Nat → Int32) (A : Nat → Nat → Int32) : Option (Int32 × MS) :=
  m_chk (vp_nar .boolean (0 : Int32) = (0 : Int32)) (some ((0 : Int32), (I, A)))
def f_cut_0 (x1 : Int32) (I : Nat → Int32) (A : Nat → Nat → Int32) : Option (Int32 × MS) :=
  m_bnd (upd I 0 (0 : Int32)) (fun I1 =>
  m_if (x1 < 0) (
  f_cut_17  I1 A
  ) (
  m_if (x1 ≤ (I1 1)) (
  m_bnd (upd I1 1 x1) (fun I2 =>
  m_chk (vp_nar .boolean (1 : Int32) = (1 : Int32)) (some ((1 : Int32), (I2, A))))
  ) (
  f_cut_17  I1 A
  )
  ))
def f_cut (x1 : Int32) (I : Nat → Int32) (A : Nat → Nat → Int32) : Option (Int32 × MS) := f_cut_0 x1 I A
def f_ink_0 (x1 : Int32) (I : Nat → Int32) (A : Nat → Nat → Int32) : Option (Int32 × MS) :=
  m_chk (¬ ((I 3) < 0 ∨ 80000 ≤ ((I 3)).toNatClampNeg)) (
  m_bnd (va_up A 4 (upd (A 4) ((I 3)).toNatClampNeg (vp_nar .char x1))) (fun A1 =>
  m_bnd ((I 3) + (1 : Int32)) (fun v2 =>
  m_bnd (upd I 3 v2) (fun I3 =>
  some (0, (I3, A1))))))
def f_ink (x1 : Int32) (I : Nat → Int32) (A : Nat → Nat → Int32) : Option (Int32 × MS) := f_ink_0 x1 I A
def f_sayNumber_18s (self18 : Int32 → Int32 → (Nat → Int32) → (Nat → Nat → Int32) → Option (Int32 × MS)) (x1 : Int32) (x2 : Int32) (I : Nat → Int32) (A : Nat → Nat → Int32) : Option (Int32 × MS) :=
  m_if (x2 ≤ 0) (
  some (0, (I, A))
  ) (
  m_chk (¬ x2 = 0) (
  m_bnd (x1 / x2) (fun v1 =>
  m_bnd (v1 - v1 / (10 : Int32) * (10 : Int32)) (fun v2 =>
  m_bnd ((48 : Int32) + v2) (fun v3 =>
  m_bnd ((v3.toUInt32 % 65536).toInt32) (fun v4 =>
  m_cl (f_ink v4 I A) (fun r5 Ic5 Ac5 =>
  m_bnd (x2 / (10 : Int32)) (fun v6 =>
  self18 x1 v6 Ic5 Ac5)))))))
  )
def f_sayNumber_18 : Nat → Int32 → Int32 → (Nat → Int32) → (Nat → Nat → Int32) → Option (Int32 × MS)
  | 0 => fun _ _ _ _ => none
  | n + 1 => f_sayNumber_18s (f_sayNumber_18 n)
def f_sayNumber_2s (self2 : Int32 → Int32 → (Nat → Int32) → (Nat → Nat → Int32) → Option (Int32 × MS)) (x1 : Int32) (x2 : Int32) (I : Nat → Int32) (A : Nat → Nat → Int32) : Option (Int32 × MS) :=
  m_bnd (x2 * (10 : Int32)) (fun v1 =>
  m_if (x1 < v1) (
  f_sayNumber_18 mFuel x1 x2 I A
  ) (
  m_bnd (x2 * (10 : Int32)) (fun v2 =>
  self2 x1 v2 I A)
  ))
def f_sayNumber_2 : Nat → Int32 → Int32 → (Nat → Int32) → (Nat → Nat → Int32) → Option (Int32 × MS)
  | 0 => fun _ _ _ _ => none
  | n + 1 => f_sayNumber_2s (f_sayNumber_2 n)
def f_sayNumber_0 (x1 : Int32) (I : Nat → Int32) (A : Nat → Nat → Int32) : Option (Int32 × MS) :=
  f_sayNumber_2 mFuel x1 (1 : Int32) I A
def f_sayNumber (x1 : Int32) (I : Nat → Int32) (A : Nat → Nat → Int32) : Option (Int32 × MS) := f_sayNumber_0 x1 I A
def f_sayRemark_8s (self8 : Int32 → Int32 → (Nat → Int32) → (Nat → Nat → Int32) → Option (Int32 × MS)) (x1 : Int32) (x2 : Int32) (I : Nat → Int32) (A : Nat → Nat → Int32) : Option (Int32 × MS) :=
  m_chk (¬ (x1 < 0 ∨ 602 ≤ (x1).toNatClampNeg)) (
  m_bnd (A 14 (x1).toNatClampNeg) (fun v1 =>
  m_if (v1 ≤ x2) (
  m_cl (f_ink (125 : Int32) I A) (fun r2 Ic2 Ac2 =>
  some (0, (Ic2, Ac2)))
  ) (
  m_bnd ((200 : Int32) * x1) (fun v3 =>
  m_bnd (v3 + x2) (fun v4 =>
  m_chk (¬ (v4 < 0 ∨ 120400 ≤ (v4).toNatClampNeg)) (
  m_bnd (A 15 (v4).toNatClampNeg) (fun v5 =>
  m_cl (f_ink v5 I A) (fun r6 Ic6 Ac6 =>
  m_bnd (x2 + (1 : Int32)) (fun v7 =>
  self8 x1 v7 Ic6 Ac6))))))
  )))
def f_sayRemark_8 : Nat → Int32 → Int32 → (Nat → Int32) → (Nat → Nat → Int32) → Option (Int32 × MS)
  | 0 => fun _ _ _ _ => none
  | n + 1 => f_sayRemark_8s (f_sayRemark_8 n)
def f_sayRemark_0 (x1 : Int32) (I : Nat → Int32) (A : Nat → Nat → Int32) : Option (Int32 × MS) :=
  m_cl (f_ink (123 : Int32) I A) (fun r1 Ic1 Ac1 =>
  f_sayRemark_8 mFuel x1 (0 : Int32) Ic1 Ac1)
def f_sayRemark (x1 : Int32) (I : Nat → Int32) (A : Nat → Nat → Int32) : Option (Int32 × MS) := f_sayRemark_0 x1 I A
def f_sayMove_188 (I : Nat → Int32) (A : Nat → Nat → Int32) : Option (Int32 × MS) :=
  some (0, (I, A))
def f_sayMove_124s (self124 : Int32 → Int32 → (Nat → Int32) → (Nat → Nat → Int32) → Option (Int32 × MS)) (x3 : Int32) (x4 : Int32) (I : Nat → Int32) (A : Nat → Nat → Int32) : Option (Int32 × MS) :=
  m_chk (¬ (x3 < 0 ∨ 602 ≤ (x3).toNatClampNeg)) (
  m_bnd (A 12 (x3).toNatClampNeg) (fun v1 =>
  m_if (v1 ≤ x4) (
  m_chk (¬ (x3 < 0 ∨ 602 ≤ (x3).toNatClampNeg)) (
  m_bnd (A 14 (x3).toNatClampNeg) (fun v2 =>
  m_if (v2 ≤ 0) (
  f_sayMove_188  I A
  ) (
  m_cl (f_ink (32 : Int32) I A) (fun r3 Ic3 Ac3 =>
  m_cl (f_sayRemark x3 Ic3 Ac3) (fun r4 Ic4 Ac4 =>
  f_sayMove_188  Ic4 Ac4))
  )))
  ) (
  m_cl (f_ink (32 : Int32) I A) (fun r5 Ic5 Ac5 =>
  m_cl (f_ink (36 : Int32) Ic5 Ac5) (fun r6 Ic6 Ac6 =>
  m_bnd ((4 : Int32) * x3) (fun v7 =>
  m_bnd (v7 + x4) (fun v8 =>
  m_chk (¬ (v8 < 0 ∨ 2408 ≤ (v8).toNatClampNeg)) (
  m_bnd (Ac6 13 (v8).toNatClampNeg) (fun v9 =>
  m_cl (f_sayNumber v9 Ic6 Ac6) (fun r10 Ic10 Ac10 =>
  m_bnd (x4 + (1 : Int32)) (fun v11 =>
  self124 x3 v11 Ic10 Ac10))))))))
  )))
def f_sayMove_124 : Nat → Int32 → Int32 → (Nat → Int32) → (Nat → Nat → Int32) → Option (Int32 × MS)
  | 0 => fun _ _ _ _ => none
  | n + 1 => f_sayMove_124s (f_sayMove_124 n)
def f_sayMove_95s (self95 : Int32 → Int32 → (Nat → Int32) → (Nat → Nat → Int32) → Option (Int32 × MS)) (x3 : Int32) (x4 : Int32) (I : Nat → Int32) (A : Nat → Nat → Int32) : Option (Int32 × MS) :=
  m_if ((I 36) ≤ x4) (
  f_sayMove_124 mFuel x3 (0 : Int32) I A
  ) (
  m_chk (¬ (x4 < 0 ∨ 16 ≤ (x4).toNatClampNeg)) (
  m_bnd (A 35 (x4).toNatClampNeg) (fun v1 =>
  m_cl (f_ink v1 I A) (fun r2 Ic2 Ac2 =>
  m_bnd (x4 + (1 : Int32)) (fun v3 =>
  self95 x3 v3 Ic2 Ac2))))
  )
def f_sayMove_95 : Nat → Int32 → Int32 → (Nat → Int32) → (Nat → Nat → Int32) → Option (Int32 × MS)
  | 0 => fun _ _ _ _ => none
  | n + 1 => f_sayMove_95s (f_sayMove_95 n)
def f_sayMove_82 (x3 : Int32) (I : Nat → Int32) (A : Nat → Nat → Int32) : Option (Int32 × MS) :=
  m_chk (¬ (x3 < 0 ∨ 602 ≤ (x3).toNatClampNeg)) (
  m_bnd (A 9 (x3).toNatClampNeg) (fun v1 =>
  m_cl (f_spellWhole v1 I A) (fun r2 Ic2 Ac2 =>
  f_sayMove_95 mFuel x3 (0 : Int32) Ic2 Ac2)))
def f_sayMove_61 (self47 : Int32 → Int32 → (Nat → Int32) → (Nat → Nat → Int32) → Option (Int32 × MS)) (x3 : Int32) (x4 : Int32) (t0 : Int32) (t1 : Int32) (I : Nat → Int32) (A : Nat → Nat → Int32) : Option (Int32 × MS) :=
  m_if (t0 ≤ t1) (
  m_cl (f_ink (32 : Int32) I A) (fun r1 Ic1 Ac1 =>
  f_sayMove_82 x3 Ic1 Ac1)
  ) (
  m_cl (f_ink (46 : Int32) I A) (fun r2 Ic2 Ac2 =>
  m_bnd (x4 + (1 : Int32)) (fun v3 =>
  self47 x3 v3 Ic2 Ac2))
  )
def f_sayMove_47s (self47 : Int32 → Int32 → (Nat → Int32) → (Nat → Nat → Int32) → Option (Int32 × MS)) (x3 : Int32) (x4 : Int32) (I : Nat → Int32) (A : Nat → Nat → Int32) : Option (Int32 × MS) :=
  m_if ((I 25) = 0) (
  f_sayMove_61 self47 x3 x4 (1 : Int32) x4 I A
  ) (
  f_sayMove_61 self47 x3 x4 (3 : Int32) x4 I A
  )
def f_sayMove_47 : Nat → Int32 → Int32 → (Nat → Int32) → (Nat → Nat → Int32) → Option (Int32 × MS)
  | 0 => fun _ _ _ _ => none
  | n + 1 => f_sayMove_47s (f_sayMove_47 n)
def f_sayMove_36 (x3 : Int32) (I : Nat → Int32) (A : Nat → Nat → Int32) : Option (Int32 × MS) :=
  m_cl (f_sayNumber (I 29) I A) (fun r1 Ic1 Ac1 =>
  f_sayMove_47 mFuel x3 (0 : Int32) Ic1 Ac1)
def f_sayMove_0 (x1 : Int32) (x2 : Int32) (I : Nat → Int32) (A : Nat → Nat → Int32) : Option (Int32 × MS) :=
  m_bnd ((301 : Int32) * (I 5)) (fun v1 =>
  m_bnd (v1 + x1) (fun v2 =>
  m_chk (¬ (v2 < 0 ∨ 602 ≤ (v2).toNatClampNeg)) (
  m_bnd (A 8 (v2).toNatClampNeg) (fun v3 =>
  m_cl (f_place (I 5) v3 I A) (fun r4 Ic4 Ac4 =>
  m_if ((Ic4 25) = 0) (
  f_sayMove_36 v2 Ic4 Ac4
  ) (
  m_if (x2 = 0) (
  f_sayMove_82 v2 Ic4 Ac4
  ) (
  f_sayMove_36 v2 Ic4 Ac4
  )
  ))))))
def f_sayMove (x1 : Int32) (x2 : Int32) (I : Nat → Int32) (A : Nat → Nat → Int32) : Option (Int32 × MS) := f_sayMove_0 x1 x2 I A
def f_sayLine_141 (rec : Int32 → Int32 → (Nat → Int32) → (Nat → Nat → Int32) → Option (Int32 × MS)) (self8 : Int32 → Int32 → Int32 → (Nat → Int32) → (Nat → Nat → Int32) → Option (Int32 × MS)) (x3 : Int32) (x4 : Int32) (x5 : Int32) (I : Nat → Int32) (A : Nat → Nat → Int32) : Option (Int32 × MS) :=
  self8 x3 x4 x5 I A
def f_sayLine_66s (rec : Int32 → Int32 → (Nat → Int32) → (Nat → Nat → Int32) → Option (Int32 × MS)) (self8 : Int32 → Int32 → Int32 → (Nat → Int32) → (Nat → Nat → Int32) → Option (Int32 × MS)) (self66 : Int32 → Int32 → Int32 → (Nat → Int32) → (Nat → Nat → Int32) → Option (Int32 × MS)) (x4 : Int32) (x6 : Int32) (x7 : Int32) (I : Nat → Int32) (A : Nat → Nat → Int32) : Option (Int32 × MS) :=
  m_if (x7 < 0) (
  m_chk (¬ (x6 < 0 ∨ 602 ≤ (x6).toNatClampNeg)) (
  m_bnd (A 10 (x6).toNatClampNeg) (fun v1 =>
  m_if (v1 < 0) (
  f_sayLine_141 rec self8 v1 x4 (1 : Int32) I A
  ) (
  m_cl (f_ink (32 : Int32) I A) (fun r2 Ic2 Ac2 =>
  f_sayLine_141 rec self8 v1 x4 (1 : Int32) Ic2 Ac2)
  )))
  ) (
  m_cl (f_ink (32 : Int32) I A) (fun r3 Ic3 Ac3 =>
  m_cl (f_ink (40 : Int32) Ic3 Ac3) (fun r4 Ic4 Ac4 =>
  m_cl (rec x7 (0 : Int32) Ic4 Ac4) (fun r5 Ic5 Ac5 =>
  m_cl (f_ink (41 : Int32) Ic5 Ac5) (fun r6 Ic6 Ac6 =>
  m_bnd ((301 : Int32) * (Ic6 5)) (fun v7 =>
  m_bnd (v7 + x7) (fun v8 =>
  m_chk (¬ (v8 < 0 ∨ 602 ≤ (v8).toNatClampNeg)) (
  m_bnd (Ac6 11 (v8).toNatClampNeg) (fun v9 =>
  self66 (1 : Int32) x6 v9 Ic6 Ac6))))))))
  )
def f_sayLine_66 (rec : Int32 → Int32 → (Nat → Int32) → (Nat → Nat → Int32) → Option (Int32 × MS)) (self8 : Int32 → Int32 → Int32 → (Nat → Int32) → (Nat → Nat → Int32) → Option (Int32 × MS)) : Nat → Int32 → Int32 → Int32 → (Nat → Int32) → (Nat → Nat → Int32) → Option (Int32 × MS)
  | 0 => fun _ _ _ _ _ => none
  | n + 1 => f_sayLine_66s rec self8 (f_sayLine_66 rec self8 n)
def f_sayLine_64 (rec : Int32 → Int32 → (Nat → Int32) → (Nat → Nat → Int32) → Option (Int32 × MS)) (self8 : Int32 → Int32 → Int32 → (Nat → Int32) → (Nat → Nat → Int32) → Option (Int32 × MS)) (x4 : Int32) (x6 : Int32) (t0 : Int32) (I : Nat → Int32) (A : Nat → Nat → Int32) : Option (Int32 × MS) :=
  f_sayLine_66 rec self8 mFuel x4 x6 t0 I A
def f_sayLine_46 (rec : Int32 → Int32 → (Nat → Int32) → (Nat → Nat → Int32) → Option (Int32 × MS)) (self8 : Int32 → Int32 → Int32 → (Nat → Int32) → (Nat → Nat → Int32) → Option (Int32 × MS)) (x5 : Int32) (x6 : Int32) (t0 : Int32) (I : Nat → Int32) (A : Nat → Nat → Int32) : Option (Int32 × MS) :=
  m_if (x5 = 0) (
  f_sayLine_64 rec self8 t0 x6 (-1 : Int32) I A
  ) (
  m_chk (¬ (x6 < 0 ∨ 602 ≤ (x6).toNatClampNeg)) (
  m_bnd (A 11 (x6).toNatClampNeg) (fun v1 =>
  f_sayLine_64 rec self8 t0 x6 v1 I A))
  )
def f_sayLine_8s (rec : Int32 → Int32 → (Nat → Int32) → (Nat → Nat → Int32) → Option (Int32 × MS)) (self8 : Int32 → Int32 → Int32 → (Nat → Int32) → (Nat → Nat → Int32) → Option (Int32 × MS)) (x3 : Int32) (x4 : Int32) (x5 : Int32) (I : Nat → Int32) (A : Nat → Nat → Int32) : Option (Int32 × MS) :=
  m_if (x3 < 0) (
  some (0, (I, A))
  ) (
  m_bnd ((301 : Int32) * (I 5)) (fun v1 =>
  m_bnd (v1 + x3) (fun v2 =>
  m_cl (f_sayMove x3 x4 I A) (fun r3 Ic3 Ac3 =>
  m_chk (¬ (v2 < 0 ∨ 602 ≤ (v2).toNatClampNeg)) (
  m_bnd (Ac3 14 (v2).toNatClampNeg) (fun v4 =>
  m_if (v4 ≤ 0) (
  f_sayLine_46 rec self8 x5 v2 (0 : Int32) Ic3 Ac3
  ) (
  f_sayLine_46 rec self8 x5 v2 (1 : Int32) Ic3 Ac3
  ))))))
  )
def f_sayLine_8 (rec : Int32 → Int32 → (Nat → Int32) → (Nat → Nat → Int32) → Option (Int32 × MS)) : Nat → Int32 → Int32 → Int32 → (Nat → Int32) → (Nat → Nat → Int32) → Option (Int32 × MS)
  | 0 => fun _ _ _ _ _ => none
  | n + 1 => f_sayLine_8s rec (f_sayLine_8 rec n)
def f_sayLine_0 (rec : Int32 → Int32 → (Nat → Int32) → (Nat → Nat → Int32) → Option (Int32 × MS)) (x1 : Int32) (x2 : Int32) (I : Nat → Int32) (A : Nat → Nat → Int32) : Option (Int32 × MS) :=
  f_sayLine_8 rec mFuel x1 (1 : Int32) x2 I A
def fr_sayLine : Nat → Int32 → Int32 → (Nat → Int32) → (Nat → Nat → Int32) → Option (Int32 × MS)
  | 0 => fun _ _ _ _ => none
  | n + 1 => fun x1 x2 I A => f_sayLine_0 (fr_sayLine n) x1 x2 I A
def f_sayLine (x1 : Int32) (x2 : Int32) (I : Nat → Int32) (A : Nat → Nat → Int32) : Option (Int32 × MS) := fr_sayLine 8 x1 x2 I A
def f_write_280s (self280 : Int32 → (Nat → Int32) → (Nat → Nat → Int32) → Option (Int32 × MS)) (x1 : Int32) (I : Nat → Int32) (A : Nat → Nat → Int32) : Option (Int32 × MS) :=
  m_chk (¬ ((I 5) < 0 ∨ 2 ≤ ((I 5)).toNatClampNeg)) (
  m_bnd (A 23 ((I 5)).toNatClampNeg) (fun v1 =>
  m_cl (f_resultSize v1 I A) (fun r2 Ic2 Ac2 =>
  m_if (r2 ≤ x1) (
  m_cl (f_place (Ic2 5) (Ic2 6) Ic2 Ac2) (fun r3 Ic3 Ac3 =>
  some ((Ic3 3), (Ic3, Ac3)))
  ) (
  m_chk (¬ ((Ic2 5) < 0 ∨ 2 ≤ ((Ic2 5)).toNatClampNeg)) (
  m_bnd (Ac2 23 ((Ic2 5)).toNatClampNeg) (fun v4 =>
  m_cl (f_resultSign v4 x1 Ic2 Ac2) (fun r5 Ic5 Ac5 =>
  m_cl (f_ink r5 Ic5 Ac5) (fun r6 Ic6 Ac6 =>
  m_bnd (x1 + (1 : Int32)) (fun v7 =>
  self280 v7 Ic6 Ac6)))))
  ))))
def f_write_280 : Nat → Int32 → (Nat → Int32) → (Nat → Nat → Int32) → Option (Int32 × MS)
  | 0 => fun _ _ _ => none
  | n + 1 => f_write_280s (f_write_280 n)
def f_write_278 (I : Nat → Int32) (A : Nat → Nat → Int32) : Option (Int32 × MS) :=
  f_write_280 mFuel (0 : Int32) I A
def f_write_238 (I : Nat → Int32) (A : Nat → Nat → Int32) : Option (Int32 × MS) :=
  m_bnd ((301 : Int32) * (I 5)) (fun v1 =>
  m_chk (¬ (v1 < 0 ∨ 602 ≤ (v1).toNatClampNeg)) (
  m_bnd (A 10 (v1).toNatClampNeg) (fun v2 =>
  m_if (v2 < 0) (
  f_write_278  I A
  ) (
  m_bnd ((301 : Int32) * (I 5)) (fun v3 =>
  m_chk (¬ (v3 < 0 ∨ 602 ≤ (v3).toNatClampNeg)) (
  m_bnd (A 10 (v3).toNatClampNeg) (fun v4 =>
  m_cl (f_sayLine v4 (1 : Int32) I A) (fun r5 Ic5 Ac5 =>
  m_cl (f_ink (32 : Int32) Ic5 Ac5) (fun r6 Ic6 Ac6 =>
  f_write_278  Ic6 Ac6)))))
  ))))
def f_write_204 (I : Nat → Int32) (A : Nat → Nat → Int32) : Option (Int32 × MS) :=
  m_bnd ((301 : Int32) * (I 5)) (fun v1 =>
  m_chk (¬ (v1 < 0 ∨ 602 ≤ (v1).toNatClampNeg)) (
  m_bnd (A 14 (v1).toNatClampNeg) (fun v2 =>
  m_if (v2 ≤ 0) (
  f_write_238  I A
  ) (
  m_bnd ((301 : Int32) * (I 5)) (fun v3 =>
  m_cl (f_sayRemark v3 I A) (fun r4 Ic4 Ac4 =>
  m_cl (f_ink (32 : Int32) Ic4 Ac4) (fun r5 Ic5 Ac5 =>
  f_write_238  Ic5 Ac5)))
  ))))
def f_write_151 (self12 : Int32 → (Nat → Int32) → (Nat → Nat → Int32) → Option (Int32 × MS)) (self94 : Int32 → Int32 → (Nat → Int32) → (Nat → Nat → Int32) → Option (Int32 × MS)) (x1 : Int32) (x2 : Int32) (x3 : Int32) (I : Nat → Int32) (A : Nat → Nat → Int32) : Option (Int32 × MS) :=
  m_cl (f_ink x3 I A) (fun r1 Ic1 Ac1 =>
  m_bnd (x2 + (1 : Int32)) (fun v2 =>
  self94 x1 v2 Ic1 Ac1))
def f_write_145 (self12 : Int32 → (Nat → Int32) → (Nat → Nat → Int32) → Option (Int32 × MS)) (self94 : Int32 → Int32 → (Nat → Int32) → (Nat → Nat → Int32) → Option (Int32 × MS)) (x1 : Int32) (x2 : Int32) (x3 : Int32) (I : Nat → Int32) (A : Nat → Nat → Int32) : Option (Int32 × MS) :=
  m_cl (f_ink (92 : Int32) I A) (fun r1 Ic1 Ac1 =>
  f_write_151 self12 self94 x1 x2 x3 Ic1 Ac1)
def f_write_94s (self12 : Int32 → (Nat → Int32) → (Nat → Nat → Int32) → Option (Int32 × MS)) (self94 : Int32 → Int32 → (Nat → Int32) → (Nat → Nat → Int32) → Option (Int32 × MS)) (x1 : Int32) (x2 : Int32) (I : Nat → Int32) (A : Nat → Nat → Int32) : Option (Int32 × MS) :=
  m_bnd ((8 : Int32) * (I 5)) (fun v1 =>
  m_bnd (v1 + x1) (fun v2 =>
  m_chk (¬ (v2 < 0 ∨ 16 ≤ (v2).toNatClampNeg)) (
  m_bnd (A 21 (v2).toNatClampNeg) (fun v3 =>
  m_if (v3 ≤ x2) (
  m_cl (f_ink (34 : Int32) I A) (fun r4 Ic4 Ac4 =>
  m_cl (f_ink (93 : Int32) Ic4 Ac4) (fun r5 Ic5 Ac5 =>
  m_cl (f_ink (10 : Int32) Ic5 Ac5) (fun r6 Ic6 Ac6 =>
  m_bnd (x1 + (1 : Int32)) (fun v7 =>
  self12 v7 Ic6 Ac6))))
  ) (
  m_bnd ((768 : Int32) * (I 5)) (fun v8 =>
  m_bnd ((96 : Int32) * x1) (fun v9 =>
  m_bnd (v8 + v9) (fun v10 =>
  m_bnd (v10 + x2) (fun v11 =>
  m_chk (¬ (v11 < 0 ∨ 1536 ≤ (v11).toNatClampNeg)) (
  m_bnd (A 22 (v11).toNatClampNeg) (fun v12 =>
  m_if (v12 = (34 : Int32)) (
  f_write_145 self12 self94 x1 x2 v12 I A
  ) (
  m_if (v12 = (92 : Int32)) (
  f_write_145 self12 self94 x1 x2 v12 I A
  ) (
  f_write_151 self12 self94 x1 x2 v12 I A
  )
  )))))))
  )))))
def f_write_94 (self12 : Int32 → (Nat → Int32) → (Nat → Nat → Int32) → Option (Int32 × MS)) : Nat → Int32 → Int32 → (Nat → Int32) → (Nat → Nat → Int32) → Option (Int32 × MS)
  | 0 => fun _ _ _ _ => none
  | n + 1 => f_write_94s self12 (f_write_94 self12 n)
def f_write_33s (self12 : Int32 → (Nat → Int32) → (Nat → Nat → Int32) → Option (Int32 × MS)) (self33 : Int32 → Int32 → (Nat → Int32) → (Nat → Nat → Int32) → Option (Int32 × MS)) (x1 : Int32) (x2 : Int32) (I : Nat → Int32) (A : Nat → Nat → Int32) : Option (Int32 × MS) :=
  m_bnd ((8 : Int32) * (I 5)) (fun v1 =>
  m_bnd (v1 + x1) (fun v2 =>
  m_chk (¬ (v2 < 0 ∨ 16 ≤ (v2).toNatClampNeg)) (
  m_bnd (A 19 (v2).toNatClampNeg) (fun v3 =>
  m_if (v3 ≤ x2) (
  m_cl (f_ink (32 : Int32) I A) (fun r4 Ic4 Ac4 =>
  m_cl (f_ink (34 : Int32) Ic4 Ac4) (fun r5 Ic5 Ac5 =>
  f_write_94 self12 mFuel x1 (0 : Int32) Ic5 Ac5))
  ) (
  m_bnd ((96 : Int32) * (I 5)) (fun v6 =>
  m_bnd ((12 : Int32) * x1) (fun v7 =>
  m_bnd (v6 + v7) (fun v8 =>
  m_bnd (v8 + x2) (fun v9 =>
  m_chk (¬ (v9 < 0 ∨ 192 ≤ (v9).toNatClampNeg)) (
  m_bnd (A 20 (v9).toNatClampNeg) (fun v10 =>
  m_cl (f_ink v10 I A) (fun r11 Ic11 Ac11 =>
  m_bnd (x2 + (1 : Int32)) (fun v12 =>
  self33 x1 v12 Ic11 Ac11))))))))
  )))))
def f_write_33 (self12 : Int32 → (Nat → Int32) → (Nat → Nat → Int32) → Option (Int32 × MS)) : Nat → Int32 → Int32 → (Nat → Int32) → (Nat → Nat → Int32) → Option (Int32 × MS)
  | 0 => fun _ _ _ _ => none
  | n + 1 => f_write_33s self12 (f_write_33 self12 n)
def f_write_12s (self12 : Int32 → (Nat → Int32) → (Nat → Nat → Int32) → Option (Int32 × MS)) (x1 : Int32) (I : Nat → Int32) (A : Nat → Nat → Int32) : Option (Int32 × MS) :=
  m_chk (¬ ((I 5) < 0 ∨ 2 ≤ ((I 5)).toNatClampNeg)) (
  m_bnd (A 18 ((I 5)).toNatClampNeg) (fun v1 =>
  m_if (v1 ≤ x1) (
  m_chk (¬ ((I 5) < 0 ∨ 2 ≤ ((I 5)).toNatClampNeg)) (
  m_bnd (A 18 ((I 5)).toNatClampNeg) (fun v2 =>
  m_if (v2 ≤ 0) (
  f_write_204  I A
  ) (
  m_cl (f_ink (10 : Int32) I A) (fun r3 Ic3 Ac3 =>
  f_write_204  Ic3 Ac3)
  )))
  ) (
  m_cl (f_ink (91 : Int32) I A) (fun r4 Ic4 Ac4 =>
  f_write_33 self12 mFuel x1 (0 : Int32) Ic4 Ac4)
  )))
def f_write_12 : Nat → Int32 → (Nat → Int32) → (Nat → Nat → Int32) → Option (Int32 × MS)
  | 0 => fun _ _ _ => none
  | n + 1 => f_write_12s (f_write_12 n)
def f_write_0 (I : Nat → Int32) (A : Nat → Nat → Int32) : Option (Int32 × MS) :=
  m_bnd (upd I 0 (0 : Int32)) (fun I1 =>
  m_bnd (upd I1 3 (0 : Int32)) (fun I2 =>
  f_write_12 mFuel (0 : Int32) I2 A))
def f_write (I : Nat → Int32) (A : Nat → Nat → Int32) : Option (Int32 × MS) := f_write_0  I A
def f_isLegal_31 (self4 : Int32 → Int32 → Int32 → (Nat → Int32) → (Nat → Nat → Int32) → Option (Int32 × MS)) (x1 : Int32) (x3 : Int32) (t0 : Int32) (I : Nat → Int32) (A : Nat → Nat → Int32) : Option (Int32 × MS) :=
  m_bnd (x3 + (1 : Int32)) (fun v1 =>
  self4 x1 t0 v1 I A)
def f_isLegal_26 (self4 : Int32 → Int32 → Int32 → (Nat → Int32) → (Nat → Nat → Int32) → Option (Int32 × MS)) (x1 : Int32) (x3 : Int32) (I : Nat → Int32) (A : Nat → Nat → Int32) : Option (Int32 × MS) :=
  f_isLegal_31 self4 x1 x3 (1 : Int32) I A
def f_isLegal_4s (self4 : Int32 → Int32 → Int32 → (Nat → Int32) → (Nat → Nat → Int32) → Option (Int32 × MS)) (x1 : Int32) (x2 : Int32) (x3 : Int32) (I : Nat → Int32) (A : Nat → Nat → Int32) : Option (Int32 × MS) :=
  m_if ((I 33) ≤ x3) (
  m_chk (vp_nar .boolean x2 = x2) (some (x2, (I, A)))
  ) (
  m_if (x2 = 0) (
  m_chk (¬ (x3 < 0 ∨ 2048 ≤ (x3).toNatClampNeg)) (
  m_bnd (A 32 (x3).toNatClampNeg) (fun v1 =>
  m_if (v1 = x1) (
  f_isLegal_26 self4 x1 x3 I A
  ) (
  f_isLegal_31 self4 x1 x3 (0 : Int32) I A
  )))
  ) (
  f_isLegal_26 self4 x1 x3 I A
  )
  )
def f_isLegal_4 : Nat → Int32 → Int32 → Int32 → (Nat → Int32) → (Nat → Nat → Int32) → Option (Int32 × MS)
  | 0 => fun _ _ _ _ _ => none
  | n + 1 => f_isLegal_4s (f_isLegal_4 n)
def f_isLegal_0 (x1 : Int32) (I : Nat → Int32) (A : Nat → Nat → Int32) : Option (Int32 × MS) :=
  f_isLegal_4 mFuel x1 (0 : Int32) (0 : Int32) I A
def f_isLegal (x1 : Int32) (I : Nat → Int32) (A : Nat → Nat → Int32) : Option (Int32 × MS) := f_isLegal_0 x1 I A
def f_signs_33s (self33 : Int32 → (Nat → Int32) → (Nat → Nat → Int32) → Option (Int32 × MS)) (x2 : Int32) (I : Nat → Int32) (A : Nat → Nat → Int32) : Option (Int32 × MS) :=
  m_if ((I 36) ≤ x2) (
  m_bnd (upd I 3 (I 36)) (fun I1 =>
  some ((I1 3), (I1, A)))
  ) (
  m_chk (¬ (x2 < 0 ∨ 16 ≤ (x2).toNatClampNeg)) (
  m_bnd (A 35 (x2).toNatClampNeg) (fun v2 =>
  m_chk (¬ (x2 < 0 ∨ 80000 ≤ (x2).toNatClampNeg)) (
  m_bnd (va_up A 4 (upd (A 4) (x2).toNatClampNeg (vp_nar .char v2))) (fun A3 =>
  m_bnd (x2 + (1 : Int32)) (fun v4 =>
  self33 v4 I A3)))))
  )
def f_signs_33 : Nat → Int32 → (Nat → Int32) → (Nat → Nat → Int32) → Option (Int32 × MS)
  | 0 => fun _ _ _ => none
  | n + 1 => f_signs_33s (f_signs_33 n)
def f_signs_14 (x1 : Int32) (t0 : Int32) (I : Nat → Int32) (A : Nat → Nat → Int32) : Option (Int32 × MS) :=
  m_bnd (upd I 0 t0) (fun I1 =>
  m_if ((I1 0) ≤ 0) (
  m_cl (f_spellWhole x1 I1 A) (fun r2 Ic2 Ac2 =>
  f_signs_33 mFuel (0 : Int32) Ic2 Ac2)
  ) (
  some ((0 : Int32), (I1, A))
  ))
def f_signs_0 (x1 : Int32) (I : Nat → Int32) (A : Nat → Nat → Int32) : Option (Int32 × MS) :=
  m_cl (f_isLegal x1 I A) (fun r1 Ic1 Ac1 =>
  m_if (r1 = 0) (
  f_signs_14 x1 (1 : Int32) Ic1 Ac1
  ) (
  f_signs_14 x1 (0 : Int32) Ic1 Ac1
  ))
def f_signs (x1 : Int32) (I : Nat → Int32) (A : Nat → Nat → Int32) : Option (Int32 × MS) := f_signs_0 x1 I A
def f_out_27 (t0 : Int32) (I : Nat → Int32) (A : Nat → Nat → Int32) : Option (Int32 × MS) :=
  some (t0, (I, A))
def f_out_17 (I : Nat → Int32) (A : Nat → Nat → Int32) : Option (Int32 × MS) :=
  f_out_27 (0 : Int32) I A
def f_out_0 (x1 : Int32) (I : Nat → Int32) (A : Nat → Nat → Int32) : Option (Int32 × MS) :=
  m_bnd (upd I 0 (0 : Int32)) (fun I1 =>
  m_if (x1 < 0) (
  f_out_17  I1 A
  ) (
  m_if (x1 < (I1 3)) (
  m_chk (¬ (x1 < 0 ∨ 80000 ≤ (x1).toNatClampNeg)) (
  m_bnd (A 4 (x1).toNatClampNeg) (fun v2 =>
  f_out_27 v2 I1 A))
  ) (
  f_out_17  I1 A
  )
  ))
def f_out (x1 : Int32) (I : Nat → Int32) (A : Nat → Nat → Int32) : Option (Int32 × MS) := f_out_0 x1 I A
def f_isNode_22 (t0 : Int32) (I : Nat → Int32) (A : Nat → Nat → Int32) : Option (Int32 × MS) :=
  m_chk (vp_nar .boolean t0 = t0) (some (t0, (I, A)))
def f_isNode_21 (I : Nat → Int32) (A : Nat → Nat → Int32) : Option (Int32 × MS) :=
  f_isNode_22 (0 : Int32) I A
def f_isNode_0 (x1 : Int32) (I : Nat → Int32) (A : Nat → Nat → Int32) : Option (Int32 × MS) :=
  m_if (x1 < 0) (
  f_isNode_21  I A
  ) (
  m_chk (¬ ((I 5) < 0 ∨ 2 ≤ ((I 5)).toNatClampNeg)) (
  m_bnd (A 7 ((I 5)).toNatClampNeg) (fun v1 =>
  m_if (v1 < x1) (
  f_isNode_21  I A
  ) (
  f_isNode_22 (1 : Int32) I A
  )))
  )
def f_isNode (x1 : Int32) (I : Nat → Int32) (A : Nat → Nat → Int32) : Option (Int32 × MS) := f_isNode_0 x1 I A
def f_nodes_0 (I : Nat → Int32) (A : Nat → Nat → Int32) : Option (Int32 × MS) :=
  m_bnd (upd I 0 (0 : Int32)) (fun I1 =>
  m_chk (¬ ((I1 5) < 0 ∨ 2 ≤ ((I1 5)).toNatClampNeg)) (
  m_bnd (A 7 ((I1 5)).toNatClampNeg) (fun v2 =>
  some (v2, (I1, A)))))
def f_nodes (I : Nat → Int32) (A : Nat → Nat → Int32) : Option (Int32 × MS) := f_nodes_0  I A
def f_node_23 (x1 : Int32) (x2 : Int32) (t0 : Int32) (I : Nat → Int32) (A : Nat → Nat → Int32) : Option (Int32 × MS) :=
  m_bnd (upd I 0 t0) (fun I1 =>
  m_if ((I1 0) ≤ 0) (
  m_bnd ((301 : Int32) * (I1 5)) (fun v2 =>
  m_bnd (v2 + x1) (fun v3 =>
  m_if (x2 = (0 : Int32)) (
  m_chk (¬ (v3 < 0 ∨ 602 ≤ (v3).toNatClampNeg)) (
  m_bnd (A 8 (v3).toNatClampNeg) (fun v4 =>
  some (v4, (I1, A))))
  ) (
  m_if (x2 = (1 : Int32)) (
  m_chk (¬ (v3 < 0 ∨ 602 ≤ (v3).toNatClampNeg)) (
  m_bnd (A 9 (v3).toNatClampNeg) (fun v5 =>
  some (v5, (I1, A))))
  ) (
  m_if (x2 = (2 : Int32)) (
  m_chk (¬ (v3 < 0 ∨ 602 ≤ (v3).toNatClampNeg)) (
  m_bnd (A 10 (v3).toNatClampNeg) (fun v6 =>
  some (v6, (I1, A))))
  ) (
  m_if (x2 = (3 : Int32)) (
  m_chk (¬ (v3 < 0 ∨ 602 ≤ (v3).toNatClampNeg)) (
  m_bnd (A 11 (v3).toNatClampNeg) (fun v7 =>
  some (v7, (I1, A))))
  ) (
  m_if (x2 = (4 : Int32)) (
  m_chk (¬ (v3 < 0 ∨ 602 ≤ (v3).toNatClampNeg)) (
  m_bnd (A 12 (v3).toNatClampNeg) (fun v8 =>
  some (v8, (I1, A))))
  ) (
  m_chk (¬ (v3 < 0 ∨ 602 ≤ (v3).toNatClampNeg)) (
  m_bnd (A 14 (v3).toNatClampNeg) (fun v9 =>
  some (v9, (I1, A))))
  )))))))
  ) (
  some ((0 : Int32), (I1, A))
  ))
def f_node_18 (x1 : Int32) (x2 : Int32) (I : Nat → Int32) (A : Nat → Nat → Int32) : Option (Int32 × MS) :=
  f_node_23 x1 x2 (1 : Int32) I A
def f_node_0 (x1 : Int32) (x2 : Int32) (I : Nat → Int32) (A : Nat → Nat → Int32) : Option (Int32 × MS) :=
  m_cl (f_isNode x1 I A) (fun r1 Ic1 Ac1 =>
  m_if (r1 = 0) (
  f_node_18 x1 x2 Ic1 Ac1
  ) (
  m_if (x2 < 0) (
  f_node_18 x1 x2 Ic1 Ac1
  ) (
  m_if (x2 ≤ (5 : Int32)) (
  f_node_23 x1 x2 (0 : Int32) Ic1 Ac1
  ) (
  f_node_18 x1 x2 Ic1 Ac1
  )
  )
  ))
def f_node (x1 : Int32) (x2 : Int32) (I : Nat → Int32) (A : Nat → Nat → Int32) : Option (Int32 × MS) := f_node_0 x1 x2 I A
def f_mark_70 (t0 : Int32) (I : Nat → Int32) (A : Nat → Nat → Int32) : Option (Int32 × MS) :=
  some (t0, (I, A))
def f_mark_37 (x1 : Int32) (x2 : Int32) (t0 : Int32) (I : Nat → Int32) (A : Nat → Nat → Int32) : Option (Int32 × MS) :=
  m_bnd (upd I 0 t0) (fun I1 =>
  m_if ((I1 0) ≤ 0) (
  m_bnd ((301 : Int32) * (I1 5)) (fun v2 =>
  m_bnd (v2 + x1) (fun v3 =>
  m_bnd ((4 : Int32) * v3) (fun v4 =>
  m_bnd (v4 + x2) (fun v5 =>
  m_chk (¬ (v5 < 0 ∨ 2408 ≤ (v5).toNatClampNeg)) (
  m_bnd (A 13 (v5).toNatClampNeg) (fun v6 =>
  f_mark_70 v6 I1 A))))))
  ) (
  f_mark_70 (0 : Int32) I1 A
  ))
def f_mark_32 (x1 : Int32) (x2 : Int32) (I : Nat → Int32) (A : Nat → Nat → Int32) : Option (Int32 × MS) :=
  f_mark_37 x1 x2 (1 : Int32) I A
def f_mark_0 (x1 : Int32) (x2 : Int32) (I : Nat → Int32) (A : Nat → Nat → Int32) : Option (Int32 × MS) :=
  m_cl (f_isNode x1 I A) (fun r1 Ic1 Ac1 =>
  m_if (r1 = 0) (
  f_mark_32 x1 x2 Ic1 Ac1
  ) (
  m_if (x2 < 0) (
  f_mark_32 x1 x2 Ic1 Ac1
  ) (
  m_bnd ((301 : Int32) * (Ic1 5)) (fun v2 =>
  m_bnd (v2 + x1) (fun v3 =>
  m_chk (¬ (v3 < 0 ∨ 602 ≤ (v3).toNatClampNeg)) (
  m_bnd (Ac1 12 (v3).toNatClampNeg) (fun v4 =>
  m_if (x2 < v4) (
  f_mark_37 x1 x2 (0 : Int32) Ic1 Ac1
  ) (
  f_mark_32 x1 x2 Ic1 Ac1
  )))))
  )
  ))
def f_mark (x1 : Int32) (x2 : Int32) (I : Nat → Int32) (A : Nat → Nat → Int32) : Option (Int32 × MS) := f_mark_0 x1 x2 I A
def f_remark_72 (t0 : Int32) (I : Nat → Int32) (A : Nat → Nat → Int32) : Option (Int32 × MS) :=
  some (t0, (I, A))
def f_remark_37 (x1 : Int32) (x2 : Int32) (t0 : Int32) (I : Nat → Int32) (A : Nat → Nat → Int32) : Option (Int32 × MS) :=
  m_bnd (upd I 0 t0) (fun I1 =>
  m_if ((I1 0) ≤ 0) (
  m_bnd ((301 : Int32) * (I1 5)) (fun v2 =>
  m_bnd (v2 + x1) (fun v3 =>
  m_bnd ((200 : Int32) * v3) (fun v4 =>
  m_bnd (v4 + x2) (fun v5 =>
  m_chk (¬ (v5 < 0 ∨ 120400 ≤ (v5).toNatClampNeg)) (
  m_bnd (A 15 (v5).toNatClampNeg) (fun v6 =>
  f_remark_72 v6 I1 A))))))
  ) (
  f_remark_72 (0 : Int32) I1 A
  ))
def f_remark_32 (x1 : Int32) (x2 : Int32) (I : Nat → Int32) (A : Nat → Nat → Int32) : Option (Int32 × MS) :=
  f_remark_37 x1 x2 (1 : Int32) I A
def f_remark_0 (x1 : Int32) (x2 : Int32) (I : Nat → Int32) (A : Nat → Nat → Int32) : Option (Int32 × MS) :=
  m_cl (f_isNode x1 I A) (fun r1 Ic1 Ac1 =>
  m_if (r1 = 0) (
  f_remark_32 x1 x2 Ic1 Ac1
  ) (
  m_if (x2 < 0) (
  f_remark_32 x1 x2 Ic1 Ac1
  ) (
  m_bnd ((301 : Int32) * (Ic1 5)) (fun v2 =>
  m_bnd (v2 + x1) (fun v3 =>
  m_chk (¬ (v3 < 0 ∨ 602 ≤ (v3).toNatClampNeg)) (
  m_bnd (Ac1 14 (v3).toNatClampNeg) (fun v4 =>
  m_if (x2 < v4) (
  f_remark_37 x1 x2 (0 : Int32) Ic1 Ac1
  ) (
  f_remark_32 x1 x2 Ic1 Ac1
  )))))
  )
  ))
def f_remark (x1 : Int32) (x2 : Int32) (I : Nat → Int32) (A : Nat → Nat → Int32) : Option (Int32 × MS) := f_remark_0 x1 x2 I A
def f_here_0 (I : Nat → Int32) (A : Nat → Nat → Int32) : Option (Int32 × MS) :=
  m_bnd (upd I 0 (0 : Int32)) (fun I1 =>
  some ((I1 6), (I1, A)))
def f_here (I : Nat → Int32) (A : Nat → Nat → Int32) : Option (Int32 × MS) := f_here_0  I A
def f_go_41 (I : Nat → Int32) (A : Nat → Nat → Int32) : Option (Int32 × MS) :=
  some (0, (I, A))
def f_go_14 (x1 : Int32) (t0 : Int32) (I : Nat → Int32) (A : Nat → Nat → Int32) : Option (Int32 × MS) :=
  m_bnd (upd I 0 t0) (fun I1 =>
  m_if ((I1 0) = 0) (
  m_bnd (upd I1 6 x1) (fun I2 =>
  m_cl (f_place (I2 5) (I2 6) I2 A) (fun r3 Ic3 Ac3 =>
  f_go_41  Ic3 Ac3))
  ) (
  f_go_41  I1 A
  ))
def f_go_0 (x1 : Int32) (I : Nat → Int32) (A : Nat → Nat → Int32) : Option (Int32 × MS) :=
  m_cl (f_isNode x1 I A) (fun r1 Ic1 Ac1 =>
  m_if (r1 = 0) (
  f_go_14 x1 (1 : Int32) Ic1 Ac1
  ) (
  f_go_14 x1 (0 : Int32) Ic1 Ac1
  ))
def f_go (x1 : Int32) (I : Nat → Int32) (A : Nat → Nat → Int32) : Option (Int32 × MS) := f_go_0 x1 I A
def f_man_36 (t0 : Int32) (I : Nat → Int32) (A : Nat → Nat → Int32) : Option (Int32 × MS) :=
  some (t0, (I, A))
def f_man_16 (x1 : Int32) (t0 : Int32) (I : Nat → Int32) (A : Nat → Nat → Int32) : Option (Int32 × MS) :=
  m_bnd (upd I 0 t0) (fun I1 =>
  m_if ((I1 0) ≤ 0) (
  m_chk (¬ (x1 < 0 ∨ 64 ≤ (x1).toNatClampNeg)) (
  m_bnd (A 24 (x1).toNatClampNeg) (fun v2 =>
  f_man_36 v2 I1 A))
  ) (
  f_man_36 (0 : Int32) I1 A
  ))
def f_man_11 (x1 : Int32) (I : Nat → Int32) (A : Nat → Nat → Int32) : Option (Int32 × MS) :=
  f_man_16 x1 (1 : Int32) I A
def f_man_0 (x1 : Int32) (I : Nat → Int32) (A : Nat → Nat → Int32) : Option (Int32 × MS) :=
  m_if (x1 < 0) (
  f_man_11 x1 I A
  ) (
  m_if (x1 ≤ (63 : Int32)) (
  f_man_16 x1 (0 : Int32) I A
  ) (
  f_man_11 x1 I A
  )
  )
def f_man (x1 : Int32) (I : Nat → Int32) (A : Nat → Nat → Int32) : Option (Int32 × MS) := f_man_0 x1 I A
def f_move_27 (t0 : Int32) (I : Nat → Int32) (A : Nat → Nat → Int32) : Option (Int32 × MS) :=
  some (t0, (I, A))
def f_move_17 (I : Nat → Int32) (A : Nat → Nat → Int32) : Option (Int32 × MS) :=
  f_move_27 (-1 : Int32) I A
def f_move_0 (x1 : Int32) (I : Nat → Int32) (A : Nat → Nat → Int32) : Option (Int32 × MS) :=
  m_bnd (upd I 0 (0 : Int32)) (fun I1 =>
  m_if (x1 < 0) (
  f_move_17  I1 A
  ) (
  m_if (x1 < (I1 33)) (
  m_chk (¬ (x1 < 0 ∨ 2048 ≤ (x1).toNatClampNeg)) (
  m_bnd (A 32 (x1).toNatClampNeg) (fun v2 =>
  f_move_27 v2 I1 A))
  ) (
  f_move_17  I1 A
  )
  ))
def f_move (x1 : Int32) (I : Nat → Int32) (A : Nat → Nat → Int32) : Option (Int32 × MS) := f_move_0 x1 I A
def f_add_137 (x2 : Int32) (I : Nat → Int32) (A : Nat → Nat → Int32) : Option (Int32 × MS) :=
  m_bnd (upd I 6 x2) (fun I1 =>
  m_cl (f_place (I1 5) (I1 6) I1 A) (fun r2 Ic2 Ac2 =>
  some (x2, (Ic2, Ac2))))
def f_add_111 (x1 : Int32) (t0 : Int32) (I : Nat → Int32) (A : Nat → Nat → Int32) : Option (Int32 × MS) :=
  m_bnd (upd I 0 t0) (fun I1 =>
  m_if ((I1 0) ≤ 0) (
  m_cl (f_append (I1 5) (I1 6) x1 I1 A) (fun r2 Ic2 Ac2 =>
  f_add_137 r2 Ic2 Ac2)
  ) (
  some ((0 : Int32), (I1, A))
  ))
def f_add_106 (x1 : Int32) (I : Nat → Int32) (A : Nat → Nat → Int32) : Option (Int32 × MS) :=
  f_add_111 x1 (2 : Int32) I A
def f_add_82 (x1 : Int32) (t0 : Int32) (t1 : Int32) (I : Nat → Int32) (A : Nat → Nat → Int32) : Option (Int32 × MS) :=
  m_bnd (t1 + t0) (fun v1 =>
  m_chk (¬ ((I 5) < 0 ∨ 2 ≤ ((I 5)).toNatClampNeg)) (
  m_bnd (A 7 ((I 5)).toNatClampNeg) (fun v2 =>
  m_if (v2 = (300 : Int32)) (
  f_add_106 x1 I A
  ) (
  m_if (v1 ≤ (6 : Int32)) (
  f_add_111 x1 (0 : Int32) I A
  ) (
  f_add_106 x1 I A
  )
  ))))
def f_add_14 (x1 : Int32) (t0 : Int32) (I : Nat → Int32) (A : Nat → Nat → Int32) : Option (Int32 × MS) :=
  m_bnd (upd I 0 t0) (fun I1 =>
  m_if ((I1 0) ≤ 0) (
  m_cl (f_childWith (I1 5) (I1 6) x1 I1 A) (fun r2 Ic2 Ac2 =>
  m_if (0 ≤ r2) (
  f_add_137 r2 Ic2 Ac2
  ) (
  m_cl (f_deepOf (Ic2 5) (Ic2 6) Ic2 Ac2) (fun r3 Ic3 Ac3 =>
  m_bnd ((301 : Int32) * (Ic3 5)) (fun v4 =>
  m_bnd (v4 + (Ic3 6)) (fun v5 =>
  m_chk (¬ (v5 < 0 ∨ 602 ≤ (v5).toNatClampNeg)) (
  m_bnd (Ac3 10 (v5).toNatClampNeg) (fun v6 =>
  m_if (v6 < 0) (
  f_add_82 x1 (0 : Int32) r3 Ic3 Ac3
  ) (
  f_add_82 x1 (1 : Int32) r3 Ic3 Ac3
  ))))))
  ))
  ) (
  some ((0 : Int32), (I1, A))
  ))
def f_add_0 (x1 : Int32) (I : Nat → Int32) (A : Nat → Nat → Int32) : Option (Int32 × MS) :=
  m_cl (f_isLegal x1 I A) (fun r1 Ic1 Ac1 =>
  m_if (r1 = 0) (
  f_add_14 x1 (1 : Int32) Ic1 Ac1
  ) (
  f_add_14 x1 (0 : Int32) Ic1 Ac1
  ))
def f_add (x1 : Int32) (I : Nat → Int32) (A : Nat → Nat → Int32) : Option (Int32 × MS) := f_add_0 x1 I A
def f_addMark_50 (x1 : Int32) (t0 : Int32) (I : Nat → Int32) (A : Nat → Nat → Int32) : Option (Int32 × MS) :=
  m_bnd (upd I 0 t0) (fun I1 =>
  m_if ((I1 0) ≤ 0) (
  m_cl (f_addMarkTo (I1 5) (I1 6) x1 I1 A) (fun r2 Ic2 Ac2 =>
  m_bnd ((301 : Int32) * (Ic2 5)) (fun v3 =>
  m_bnd (v3 + (Ic2 6)) (fun v4 =>
  m_chk (¬ (v4 < 0 ∨ 602 ≤ (v4).toNatClampNeg)) (
  m_bnd (Ac2 12 (v4).toNatClampNeg) (fun v5 =>
  some (v5, (Ic2, Ac2)))))))
  ) (
  some ((0 : Int32), (I1, A))
  ))
def f_addMark_12 (x1 : Int32) (I : Nat → Int32) (A : Nat → Nat → Int32) : Option (Int32 × MS) :=
  f_addMark_50 x1 (1 : Int32) I A
def f_addMark_45 (x1 : Int32) (I : Nat → Int32) (A : Nat → Nat → Int32) : Option (Int32 × MS) :=
  f_addMark_50 x1 (2 : Int32) I A
def f_addMark_0 (x1 : Int32) (I : Nat → Int32) (A : Nat → Nat → Int32) : Option (Int32 × MS) :=
  m_if (x1 < 0) (
  f_addMark_12 x1 I A
  ) (
  m_if (x1 ≤ (255 : Int32)) (
  m_if ((I 6) = 0) (
  f_addMark_45 x1 I A
  ) (
  m_bnd ((301 : Int32) * (I 5)) (fun v1 =>
  m_bnd (v1 + (I 6)) (fun v2 =>
  m_chk (¬ (v2 < 0 ∨ 602 ≤ (v2).toNatClampNeg)) (
  m_bnd (A 12 (v2).toNatClampNeg) (fun v3 =>
  m_if (v3 = (4 : Int32)) (
  f_addMark_45 x1 I A
  ) (
  f_addMark_50 x1 (0 : Int32) I A
  )))))
  )
  ) (
  f_addMark_12 x1 I A
  )
  )
def f_addMark (x1 : Int32) (I : Nat → Int32) (A : Nat → Nat → Int32) : Option (Int32 × MS) := f_addMark_0 x1 I A
def f_say_102s (self102 : Int32 → Int32 → (Nat → Int32) → (Nat → Nat → Int32) → Option (Int32 × MS)) (x2 : Int32) (x3 : Int32) (I : Nat → Int32) (A : Nat → Nat → Int32) : Option (Int32 × MS) :=
  m_if ((I 1) ≤ x3) (
  m_chk (¬ (x2 < 0 ∨ 602 ≤ (x2).toNatClampNeg)) (
  m_bnd (va_up A 14 (upd (A 14) (x2).toNatClampNeg (I 1))) (fun A1 =>
  m_bnd (upd I 1 (0 : Int32)) (fun I2 =>
  m_chk (¬ (x2 < 0 ∨ 602 ≤ (x2).toNatClampNeg)) (
  m_bnd (A1 14 (x2).toNatClampNeg) (fun v3 =>
  some (v3, (I2, A1)))))))
  ) (
  m_bnd ((200 : Int32) * x2) (fun v4 =>
  m_bnd (v4 + x3) (fun v5 =>
  m_chk (¬ (x3 < 0 ∨ 2000 ≤ (x3).toNatClampNeg)) (
  m_bnd (A 2 (x3).toNatClampNeg) (fun v6 =>
  m_chk (¬ (v5 < 0 ∨ 120400 ≤ (v5).toNatClampNeg)) (
  m_bnd (va_up A 15 (upd (A 15) (v5).toNatClampNeg (vp_nar .char v6))) (fun A7 =>
  m_bnd (x3 + (1 : Int32)) (fun v8 =>
  self102 x2 v8 I A7)))))))
  )
def f_say_102 : Nat → Int32 → Int32 → (Nat → Int32) → (Nat → Nat → Int32) → Option (Int32 × MS)
  | 0 => fun _ _ _ _ => none
  | n + 1 => f_say_102s (f_say_102 n)
def f_say_74 (t0 : Int32) (I : Nat → Int32) (A : Nat → Nat → Int32) : Option (Int32 × MS) :=
  m_bnd (upd I 0 t0) (fun I1 =>
  m_if ((I1 0) ≤ 0) (
  m_bnd ((301 : Int32) * (I1 5)) (fun v2 =>
  m_bnd (v2 + (I1 6)) (fun v3 =>
  f_say_102 mFuel v3 (0 : Int32) I1 A))
  ) (
  some ((0 : Int32), (I1, A))
  ))
def f_say_57 (self18 : Int32 → Int32 → (Nat → Int32) → (Nat → Nat → Int32) → Option (Int32 × MS)) (x2 : Int32) (t0 : Int32) (I : Nat → Int32) (A : Nat → Nat → Int32) : Option (Int32 × MS) :=
  m_bnd (x2 + (1 : Int32)) (fun v1 =>
  self18 t0 v1 I A)
def f_say_56 (self18 : Int32 → Int32 → (Nat → Int32) → (Nat → Nat → Int32) → Option (Int32 × MS)) (x2 : Int32) (I : Nat → Int32) (A : Nat → Nat → Int32) : Option (Int32 × MS) :=
  f_say_57 self18 x2 (0 : Int32) I A
def f_say_18s (self18 : Int32 → Int32 → (Nat → Int32) → (Nat → Nat → Int32) → Option (Int32 × MS)) (x1 : Int32) (x2 : Int32) (I : Nat → Int32) (A : Nat → Nat → Int32) : Option (Int32 × MS) :=
  m_if ((I 1) ≤ x2) (
  m_if (x1 = 0) (
  f_say_74 (1 : Int32) I A
  ) (
  f_say_74 (0 : Int32) I A
  )
  ) (
  m_if (x1 = 0) (
  f_say_56 self18 x2 I A
  ) (
  m_chk (¬ (x2 < 0 ∨ 2000 ≤ (x2).toNatClampNeg)) (
  m_bnd (A 2 (x2).toNatClampNeg) (fun v1 =>
  m_if (v1 = (125 : Int32)) (
  f_say_56 self18 x2 I A
  ) (
  m_chk (¬ (x2 < 0 ∨ 2000 ≤ (x2).toNatClampNeg)) (
  m_bnd (A 2 (x2).toNatClampNeg) (fun v2 =>
  m_if (v2 = (10 : Int32)) (
  f_say_56 self18 x2 I A
  ) (
  f_say_57 self18 x2 (1 : Int32) I A
  )))
  )))
  )
  )
def f_say_18 : Nat → Int32 → Int32 → (Nat → Int32) → (Nat → Nat → Int32) → Option (Int32 × MS)
  | 0 => fun _ _ _ _ => none
  | n + 1 => f_say_18s (f_say_18 n)
def f_say_15 (t0 : Int32) (I : Nat → Int32) (A : Nat → Nat → Int32) : Option (Int32 × MS) :=
  f_say_18 mFuel t0 (0 : Int32) I A
def f_say_0 (I : Nat → Int32) (A : Nat → Nat → Int32) : Option (Int32 × MS) :=
  m_if ((200 : Int32) < (I 1)) (
  f_say_15 (0 : Int32) I A
  ) (
  f_say_15 (1 : Int32) I A
  )
def f_say (I : Nat → Int32) (A : Nat → Nat → Int32) : Option (Int32 × MS) := f_say_0  I A
def f_isBehind_36 (t0 : Int32) (I : Nat → Int32) (A : Nat → Nat → Int32) : Option (Int32 × MS) :=
  m_chk (vp_nar .boolean t0 = t0) (some (t0, (I, A)))
def f_isBehind_2s (self2 : Int32 → Int32 → (Nat → Int32) → (Nat → Nat → Int32) → Option (Int32 × MS)) (x2 : Int32) (x3 : Int32) (I : Nat → Int32) (A : Nat → Nat → Int32) : Option (Int32 × MS) :=
  m_if (x3 ≤ x2) (
  m_if (x3 = x2) (
  f_isBehind_36 (1 : Int32) I A
  ) (
  f_isBehind_36 (0 : Int32) I A
  )
  ) (
  m_bnd ((301 : Int32) * (I 5)) (fun v1 =>
  m_bnd (v1 + x3) (fun v2 =>
  m_chk (¬ (v2 < 0 ∨ 602 ≤ (v2).toNatClampNeg)) (
  m_bnd (A 8 (v2).toNatClampNeg) (fun v3 =>
  self2 x2 v3 I A))))
  )
def f_isBehind_2 : Nat → Int32 → Int32 → (Nat → Int32) → (Nat → Nat → Int32) → Option (Int32 × MS)
  | 0 => fun _ _ _ _ => none
  | n + 1 => f_isBehind_2s (f_isBehind_2 n)
def f_isBehind_0 (x1 : Int32) (x2 : Int32) (I : Nat → Int32) (A : Nat → Nat → Int32) : Option (Int32 × MS) :=
  f_isBehind_2 mFuel x2 x1 I A
def f_isBehind (x1 : Int32) (x2 : Int32) (I : Nat → Int32) (A : Nat → Nat → Int32) : Option (Int32 × MS) := f_isBehind_0 x1 x2 I A
def f_lead_123s (self123 : Int32 → Int32 → Int32 → (Nat → Int32) → (Nat → Nat → Int32) → Option (Int32 × MS)) (x1 : Int32) (x2 : Int32) (x3 : Int32) (I : Nat → Int32) (A : Nat → Nat → Int32) : Option (Int32 × MS) :=
  m_bnd ((301 : Int32) * (I 5)) (fun v1 =>
  m_bnd (v1 + x3) (fun v2 =>
  m_chk (¬ (v2 < 0 ∨ 602 ≤ (v2).toNatClampNeg)) (
  m_bnd (A 11 (v2).toNatClampNeg) (fun v3 =>
  m_if (v3 = (I 6)) (
  m_bnd ((301 : Int32) * (I 5)) (fun v4 =>
  m_bnd (v4 + x3) (fun v5 =>
  m_bnd ((301 : Int32) * (I 5)) (fun v6 =>
  m_bnd (v6 + (I 6)) (fun v7 =>
  m_chk (¬ (v7 < 0 ∨ 602 ≤ (v7).toNatClampNeg)) (
  m_bnd (A 11 (v7).toNatClampNeg) (fun v8 =>
  m_chk (¬ (v5 < 0 ∨ 602 ≤ (v5).toNatClampNeg)) (
  m_bnd (va_up A 11 (upd (A 11) (v5).toNatClampNeg v8)) (fun A9 =>
  m_bnd ((301 : Int32) * (I 5)) (fun v10 =>
  m_bnd (v10 + (I 6)) (fun v11 =>
  m_chk (¬ (v11 < 0 ∨ 602 ≤ (v11).toNatClampNeg)) (
  m_bnd (va_up A9 11 (upd (A9 11) (v11).toNatClampNeg x2)) (fun A12 =>
  m_bnd ((301 : Int32) * (I 5)) (fun v13 =>
  m_bnd (v13 + x1) (fun v14 =>
  m_chk (¬ (v14 < 0 ∨ 602 ≤ (v14).toNatClampNeg)) (
  m_bnd (va_up A12 10 (upd (A12 10) (v14).toNatClampNeg (I 6))) (fun A15 =>
  m_chk (vp_nar .boolean (1 : Int32) = (1 : Int32)) (some ((1 : Int32), (I, A15)))))))))))))))))))
  ) (
  m_bnd ((301 : Int32) * (I 5)) (fun v16 =>
  m_bnd (v16 + x3) (fun v17 =>
  m_chk (¬ (v17 < 0 ∨ 602 ≤ (v17).toNatClampNeg)) (
  m_bnd (A 11 (v17).toNatClampNeg) (fun v18 =>
  self123 x1 x2 v18 I A))))
  )))))
def f_lead_123 : Nat → Int32 → Int32 → Int32 → (Nat → Int32) → (Nat → Nat → Int32) → Option (Int32 × MS)
  | 0 => fun _ _ _ _ _ => none
  | n + 1 => f_lead_123s (f_lead_123 n)
def f_lead_115 (self72 : Int32 → Int32 → Int32 → (Nat → Int32) → (Nat → Nat → Int32) → Option (Int32 × MS)) (x1 : Int32) (x2 : Int32) (x3 : Int32) (I : Nat → Int32) (A : Nat → Nat → Int32) : Option (Int32 × MS) :=
  m_bnd (x3 + (1 : Int32)) (fun v1 =>
  self72 x1 x2 v1 I A)
def f_lead_72s (self72 : Int32 → Int32 → Int32 → (Nat → Int32) → (Nat → Nat → Int32) → Option (Int32 × MS)) (x1 : Int32) (x2 : Int32) (x3 : Int32) (I : Nat → Int32) (A : Nat → Nat → Int32) : Option (Int32 × MS) :=
  m_chk (¬ ((I 5) < 0 ∨ 2 ≤ ((I 5)).toNatClampNeg)) (
  m_bnd (A 7 ((I 5)).toNatClampNeg) (fun v1 =>
  m_if (v1 < x3) (
  f_lead_123 mFuel x1 x2 x2 I A
  ) (
  m_cl (f_isBehind x3 x2 I A) (fun r2 Ic2 Ac2 =>
  m_if (r2 = 0) (
  f_lead_115 self72 x1 x2 x3 Ic2 Ac2
  ) (
  m_cl (f_deepOf (Ic2 5) x3 Ic2 Ac2) (fun r3 Ic3 Ac3 =>
  m_if (r3 = (6 : Int32)) (
  m_bnd (upd Ic3 0 (1 : Int32)) (fun I4 =>
  m_chk (vp_nar .boolean (0 : Int32) = (0 : Int32)) (some ((0 : Int32), (I4, Ac3))))
  ) (
  f_lead_115 self72 x1 x2 x3 Ic3 Ac3
  ))
  ))
  )))
def f_lead_72 : Nat → Int32 → Int32 → Int32 → (Nat → Int32) → (Nat → Nat → Int32) → Option (Int32 × MS)
  | 0 => fun _ _ _ _ _ => none
  | n + 1 => f_lead_72s (f_lead_72 n)
def f_lead_13 (t0 : Int32) (I : Nat → Int32) (A : Nat → Nat → Int32) : Option (Int32 × MS) :=
  m_bnd (upd I 0 t0) (fun I1 =>
  m_if ((I1 0) ≤ 0) (
  m_bnd ((301 : Int32) * (I1 5)) (fun v2 =>
  m_bnd (v2 + (I1 6)) (fun v3 =>
  m_chk (¬ (v3 < 0 ∨ 602 ≤ (v3).toNatClampNeg)) (
  m_bnd (A 8 (v3).toNatClampNeg) (fun v4 =>
  m_bnd ((301 : Int32) * (I1 5)) (fun v5 =>
  m_bnd (v5 + v4) (fun v6 =>
  m_chk (¬ (v6 < 0 ∨ 602 ≤ (v6).toNatClampNeg)) (
  m_bnd (A 10 (v6).toNatClampNeg) (fun v7 =>
  m_if (v7 = (I1 6)) (
  m_chk (vp_nar .boolean (0 : Int32) = (0 : Int32)) (some ((0 : Int32), (I1, A)))
  ) (
  f_lead_72 mFuel v4 v7 (1 : Int32) I1 A
  )))))))))
  ) (
  m_chk (vp_nar .boolean (0 : Int32) = (0 : Int32)) (some ((0 : Int32), (I1, A)))
  ))
def f_lead_0 (I : Nat → Int32) (A : Nat → Nat → Int32) : Option (Int32 × MS) :=
  m_if ((I 6) = 0) (
  f_lead_13 (1 : Int32) I A
  ) (
  f_lead_13 (0 : Int32) I A
  )
def f_lead (I : Nat → Int32) (A : Nat → Nat → Int32) : Option (Int32 × MS) := f_lead_0  I A
def f_end_46 (t0 : Int32) (t1 : Int32) (I : Nat → Int32) (A : Nat → Nat → Int32) : Option (Int32 × MS) :=
  m_chk (¬ (t1 < 0 ∨ 2 ≤ (t1).toNatClampNeg)) (
  m_bnd (va_up A 23 (upd (A 23) (t1).toNatClampNeg t0)) (fun A1 =>
  some (0, (I, A1))))
def f_end_15 (x1 : Int32) (t0 : Int32) (I : Nat → Int32) (A : Nat → Nat → Int32) : Option (Int32 × MS) :=
  m_bnd (upd I 0 t0) (fun I1 =>
  m_if ((I1 0) ≤ 0) (
  f_end_46 x1 (I1 5) I1 A
  ) (
  m_chk (¬ ((I1 5) < 0 ∨ 2 ≤ ((I1 5)).toNatClampNeg)) (
  m_bnd (A 23 ((I1 5)).toNatClampNeg) (fun v2 =>
  f_end_46 v2 (I1 5) I1 A))
  ))
def f_end_10 (x1 : Int32) (I : Nat → Int32) (A : Nat → Nat → Int32) : Option (Int32 × MS) :=
  f_end_15 x1 (1 : Int32) I A
def f_end_0 (x1 : Int32) (I : Nat → Int32) (A : Nat → Nat → Int32) : Option (Int32 × MS) :=
  m_if (x1 < 0) (
  f_end_10 x1 I A
  ) (
  m_if (x1 ≤ (3 : Int32)) (
  f_end_15 x1 (0 : Int32) I A
  ) (
  f_end_10 x1 I A
  )
  )
def f_end (x1 : Int32) (I : Nat → Int32) (A : Nat → Nat → Int32) : Option (Int32 × MS) := f_end_0 x1 I A
def f_result_0 (I : Nat → Int32) (A : Nat → Nat → Int32) : Option (Int32 × MS) :=
  m_bnd (upd I 0 (0 : Int32)) (fun I1 =>
  m_chk (¬ ((I1 5) < 0 ∨ 2 ≤ ((I1 5)).toNatClampNeg)) (
  m_bnd (A 23 ((I1 5)).toNatClampNeg) (fun v2 =>
  some (v2, (I1, A)))))
def f_result (I : Nat → Int32) (A : Nat → Nat → Int32) : Option (Int32 × MS) := f_result_0  I A
def f_tags_0 (I : Nat → Int32) (A : Nat → Nat → Int32) : Option (Int32 × MS) :=
  m_bnd (upd I 0 (0 : Int32)) (fun I1 =>
  m_chk (¬ ((I1 5) < 0 ∨ 2 ≤ ((I1 5)).toNatClampNeg)) (
  m_bnd (A 18 ((I1 5)).toNatClampNeg) (fun v2 =>
  some (v2, (I1, A)))))
def f_tags (I : Nat → Int32) (A : Nat → Nat → Int32) : Option (Int32 × MS) := f_tags_0  I A
def f_tag_132 (t0 : Int32) (I : Nat → Int32) (A : Nat → Nat → Int32) : Option (Int32 × MS) :=
  some (t0, (I, A))
def f_tag_74 (x1 : Int32) (x2 : Int32) (x3 : Int32) (t0 : Int32) (I : Nat → Int32) (A : Nat → Nat → Int32) : Option (Int32 × MS) :=
  m_if (x3 < t0) (
  m_if (x2 = 0) (
  m_bnd ((96 : Int32) * (I 5)) (fun v1 =>
  m_bnd ((12 : Int32) * x1) (fun v2 =>
  m_bnd (v1 + v2) (fun v3 =>
  m_bnd (v3 + x3) (fun v4 =>
  m_chk (¬ (v4 < 0 ∨ 192 ≤ (v4).toNatClampNeg)) (
  m_bnd (A 20 (v4).toNatClampNeg) (fun v5 =>
  f_tag_132 v5 I A))))))
  ) (
  m_bnd ((768 : Int32) * (I 5)) (fun v6 =>
  m_bnd ((96 : Int32) * x1) (fun v7 =>
  m_bnd (v6 + v7) (fun v8 =>
  m_bnd (v8 + x3) (fun v9 =>
  m_chk (¬ (v9 < 0 ∨ 1536 ≤ (v9).toNatClampNeg)) (
  m_bnd (A 22 (v9).toNatClampNeg) (fun v10 =>
  f_tag_132 v10 I A))))))
  )
  ) (
  f_tag_132 (0 : Int32) I A
  )
def f_tag_27 (x1 : Int32) (x2 : Int32) (x3 : Int32) (t0 : Int32) (I : Nat → Int32) (A : Nat → Nat → Int32) : Option (Int32 × MS) :=
  m_bnd (upd I 0 t0) (fun I1 =>
  m_if ((I1 0) ≤ 0) (
  m_if (x2 = 0) (
  m_bnd ((8 : Int32) * (I1 5)) (fun v2 =>
  m_bnd (v2 + x1) (fun v3 =>
  m_chk (¬ (v3 < 0 ∨ 16 ≤ (v3).toNatClampNeg)) (
  m_bnd (A 19 (v3).toNatClampNeg) (fun v4 =>
  f_tag_74 x1 x2 x3 v4 I1 A))))
  ) (
  m_bnd ((8 : Int32) * (I1 5)) (fun v5 =>
  m_bnd (v5 + x1) (fun v6 =>
  m_chk (¬ (v6 < 0 ∨ 16 ≤ (v6).toNatClampNeg)) (
  m_bnd (A 21 (v6).toNatClampNeg) (fun v7 =>
  f_tag_74 x1 x2 x3 v7 I1 A))))
  )
  ) (
  some ((0 : Int32), (I1, A))
  ))
def f_tag_22 (x1 : Int32) (x2 : Int32) (x3 : Int32) (I : Nat → Int32) (A : Nat → Nat → Int32) : Option (Int32 × MS) :=
  f_tag_27 x1 x2 x3 (1 : Int32) I A
def f_tag_0 (x1 : Int32) (x2 : Int32) (x3 : Int32) (I : Nat → Int32) (A : Nat → Nat → Int32) : Option (Int32 × MS) :=
  m_if (x1 < 0) (
  f_tag_22 x1 x2 x3 I A
  ) (
  m_chk (¬ ((I 5) < 0 ∨ 2 ≤ ((I 5)).toNatClampNeg)) (
  m_bnd (A 18 ((I 5)).toNatClampNeg) (fun v1 =>
  m_if (v1 ≤ x1) (
  f_tag_22 x1 x2 x3 I A
  ) (
  m_if (0 ≤ x3) (
  f_tag_27 x1 x2 x3 (0 : Int32) I A
  ) (
  f_tag_22 x1 x2 x3 I A
  )
  )))
  )
def f_tag (x1 : Int32) (x2 : Int32) (x3 : Int32) (I : Nat → Int32) (A : Nat → Nat → Int32) : Option (Int32 × MS) := f_tag_0 x1 x2 x3 I A
