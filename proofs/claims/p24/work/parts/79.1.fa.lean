/-- which kinds of arrays of numbers may have changed -/
noncomputable def FrA (B : List Nat) (S S' : ZS) : Prop := Fh S → Fh S' ∧ ∀ a, zK S a < 18 → zK S' a = zK S a ∧ (zK S a ∉ B → zA S' a = zA S a)
section FA
variable {B : List Nat} {S S1 S2 : ZS}
theorem fra_0 : FrA B S S := fun h => ⟨h, fun _ _ => ⟨rfl, fun _ => rfl⟩⟩
theorem fra_t {B' : List Nat} (h : FrA B S S1) (h2 : FrA B' S1 S2) (hB : ∀ x ∈ B', x ∈ B) : FrA B S S2 := fun hF => by
  obtain ⟨a1, a3⟩ := h hF
  obtain ⟨b1, b3⟩ := h2 a1
  refine ⟨b1, fun a ha => ?_⟩
  obtain ⟨c1, c2⟩ := a3 a ha
  obtain ⟨d1, d2⟩ := b3 a (by rw [c1]; exact ha)
  rw [c1] at d1 d2
  exact ⟨d1, fun hj => (d2 (fun h => hj (hB _ h))).trans (c2 hj)⟩
theorem fra_e (h : FrA B S S1) (hk : zK S2 = zK S1) (ha : zA S2 = zA S1) (ht : zt S2 = zt S1) : FrA B S S2 := fra_t h (B' := B) (fun hF => ⟨fun a h9 => by rw [hk]; exact hF a (by rw [← ht]; exact h9), fun a _ => ⟨by rw [hk], fun _ => by rw [ha]⟩⟩) (fun _ h => h)
theorem fra_I {j a : Nat} {v : Int32} (h : FrA B S S1) (e : S2 = zsI S1 j a v) : FrA B S S2 := fra_e h (by rw [e]; rfl) (by rw [e]; rfl) (by rw [e]; rfl)
theorem fra_P {j a : Nat} {v : Option Nat} (h : FrA B S S1) (e : S2 = zsP S1 j a v) : FrA B S S2 := fra_e h (by rw [e]; rfl) (by rw [e]; rfl) (by rw [e]; rfl)
theorem fra_B {a i : Nat} {v : Option Nat} (h : FrA B S S1) (e : S2 = zsB S1 a i v) : FrA B S S2 := fra_e h (by rw [e]; rfl) (by rw [e]; rfl) (by rw [e]; rfl)
theorem fra_u {a k : Nat} (h : FrA B S S1) (hk : zK S1 a = k) (h1 : zK S2 = zK S1) (h2 : ∀ b, b ≠ a → zA S2 b = zA S1 b) (ht : zt S2 = zt S1) (hm : k ∈ B) : FrA B S S2 := fra_t h (B' := B) (fun hF => ⟨fun a h9 => by rw [h1]; exact hF a (by rw [← ht]; exact h9), fun b _ => ⟨by rw [h1], fun hj => h2 b (fun e => hj (by rw [e, hk]; exact hm))⟩⟩) (fun _ h => h)
theorem fra_A {a i k : Nat} {v : Int32} (h : FrA B S S1) (hk : zK S1 a = k) (e : S2 = zsA S1 a i v) (hm : k ∈ B) : FrA B S S2 := fra_u h hk (by rw [e]; rfl) (fun b hb => by rw [e]; exact va_up_ne _ _ hb) (by rw [e]; rfl) hm
theorem fra_C {b a sp dp n k : Nat} (h : FrA B S S1) (hk : zK S1 a = k) (e : S2 = zsC S1 b a sp dp n) (hm : k ∈ B) : FrA B S S2 := fra_u h hk (by rw [e]; rfl) (fun b hb => by rw [e]; exact va_up_ne _ _ hb) (by rw [e]; rfl) hm
theorem fra_D {b a sp dp n k : Nat} (h : FrA B S S1) (hk : zK S1 a = k) (e : S2 = zsD S1 b a sp dp n) (hm : k ∈ B) : FrA B S S2 := fra_u h hk (by rw [e]; rfl) (fun b hb => by rw [e]; exact va_up_ne _ _ hb) (by rw [e]; rfl) hm
theorem fra_nA {q k n : Nat} (h : FrA B S S1) (eq : q = zt S1) (e : S2 = zsNewA S1 q k n) : FrA B S S2 := fra_t h (B' := B) (fun hF => by
  subst eq
  subst e
  refine ⟨fun a ha => ?_, fun b hb => ?_⟩
  · have ha' : zt S1 + 1 ≤ a := ha
    show 18 ≤ va_up (zK S1) (zt S1) k a
    rw [va_up_ne _ _ (by omega)]; exact hF a (by omega)
  · have hne : b ≠ zt S1 := fun e1 => by have := hF b (by omega); omega
    exact ⟨va_up_ne _ _ hne, fun _ => va_up_ne _ _ hne⟩) (fun _ h => h)
theorem fra_nO {q k n : Nat} (h : FrA B S S1) (eq : q = zt S1) (e : S2 = zsNewO S1 q k n) : FrA B S S2 := fra_t h (B' := B) (fun hF => by
  subst eq
  subst e
  refine ⟨fun a ha => ?_, fun b hb => ?_⟩
  · have ha' : zt S1 + 1 ≤ a := ha
    show 18 ≤ va_up (zK S1) (zt S1) k a
    rw [va_up_ne _ _ (by omega)]; exact hF a (by omega)
  · have hne : b ≠ zt S1 := fun e1 => by have := hF b (by omega); omega
    exact ⟨va_up_ne _ _ hne, fun _ => rfl⟩) (fun _ h => h)
theorem fra_Q (h : FrA B S S1) (e : S2 = zsQ S1) : FrA B S S2 := fra_t h (B' := B) (fun hF => by
  subst e
  exact ⟨fun a ha => hF a (Nat.le_trans (Nat.le_succ _) ha), fun b hb => ⟨rfl, fun _ => rfl⟩⟩) (fun _ h => h)
end FA

theorem fa_X0_wipe_2s {o : Int32 × ZS} {self2 : Nat → Int32 → ZS → Option (Int32 × ZS)} {x0 : Nat} {x1 : Int32} {S : ZS} (hself2 : ∀ (z0 : Nat) (z1 : Int32) (S : ZS) (o : Int32 × ZS), self2 z0 z1 S = some o → FrA [14] S o.2) (hf : f_X0_wipe_2s self2 x0 x1 S = some o) : FrA [14] S o.2 := by
  have h_S : FrA [14] S S := fra_0
  unfold f_X0_wipe_2s at hf
  rcases m_ifE hf with ⟨-, hf⟩ | ⟨-, hf⟩
  ·
    obtain ⟨-, hf⟩ := m_chkE hf
    obtain ⟨S1, e1, hf⟩ := m_bndE hf
    have h_S1 := fra_I h_S e1
    obtain ⟨-, hf⟩ := m_chkE hf
    obtain ⟨S2, e2, hf⟩ := m_bndE hf
    have h_S2 := fra_I h_S1 e2
    obtain ⟨-, hf⟩ := m_chkE hf
    obtain ⟨S3, e3, hf⟩ := m_bndE hf
    have h_S3 := fra_I h_S2 e3
    obtain ⟨-, hf⟩ := m_chkE hf
    obtain ⟨S4, e4, hf⟩ := m_bndE hf
    have h_S4 := fra_I h_S3 e4
    cases hf
    exact h_S4
  ·
    obtain ⟨-, hf⟩ := m_chkE hf
    obtain ⟨b5, -, hf⟩ := m_calE hf
    obtain ⟨q5, hf⟩ := m_chkE hf
    obtain ⟨-, hf⟩ := m_chkE hf
    obtain ⟨S6, e6, hf⟩ := m_bndE hf
    have h_S6 := fra_A h_S q5 e6 (by decide)
    obtain ⟨v7, e7, hf⟩ := m_bndE hf
    exact fra_t h_S6 (hself2 _ _ _ _ hf) (fun _ h => h)
theorem fa_X0_wipe_2   (n : Nat) : ∀ (y0 : Nat) (y1 : Int32) (S : ZS) (o : Int32 × ZS), f_X0_wipe_2  n y0 y1 S = some o → FrA [14] S o.2 := by
  induction n with
  | zero => intro y0 y1 S o hf; cases hf
  | succ n ih => intro y0 y1 S o hf; exact fa_X0_wipe_2s  ih hf
theorem fa_X0_wipe_0 {o : Int32 × ZS} {x0 : Nat} {S : ZS}  (hf : f_X0_wipe_0 x0 S = some o) : FrA [14] S o.2 := by
  have h_S : FrA [14] S S := fra_0
  unfold f_X0_wipe_0 at hf
  exact fra_t h_S (fa_X0_wipe_2  _ _ _ _ _ hf) (fun _ h => h)
theorem fa_X0_wipe {o : Int32 × ZS} {x0 : Nat} {S : ZS}  (hf : f_X0_wipe x0 S = some o) : FrA [14] S o.2 := by
  have h_S : FrA [14] S S := fra_0
  unfold f_X0_wipe at hf
  exact fra_t h_S (fa_X0_wipe_0  hf) (fun _ h => h)
theorem fa_X0_put_32 {o : Int32 × ZS} {S : ZS}  (hf : f_X0_put_32 S = some o) : FrA [14] S o.2 := by
  have h_S : FrA [14] S S := fra_0
  unfold f_X0_put_32 at hf
  cases hf
  exact h_S
theorem fa_X0_put_0 {o : Int32 × ZS} {x0 : Nat} {x1 : Int32} {x2 : Int32} {S : ZS}  (hf : f_X0_put_0 x0 x1 x2 S = some o) : FrA [14] S o.2 := by
  have h_S : FrA [14] S S := fra_0
  unfold f_X0_put_0 at hf
  obtain ⟨-, hf⟩ := m_chkE hf
  obtain ⟨b1, -, hf⟩ := m_calE hf
  obtain ⟨q1, hf⟩ := m_chkE hf
  obtain ⟨-, hf⟩ := m_chkE hf
  obtain ⟨S2, e2, hf⟩ := m_bndE hf
  have h_S2 := fra_A h_S q1 e2 (by decide)
  rcases m_ifE hf with ⟨-, hf⟩ | ⟨-, hf⟩
  ·
    obtain ⟨-, hf⟩ := m_chkE hf
    obtain ⟨S4, e3, hf⟩ := m_bndE hf
    have h_S4 := fra_I h_S2 e3
    exact fra_t h_S4 (fa_X0_put_32  hf) (fun _ h => h)
  ·
    rcases m_ifE hf with ⟨-, hf⟩ | ⟨-, hf⟩
    ·
      obtain ⟨-, hf⟩ := m_chkE hf
      obtain ⟨S3, e4, hf⟩ := m_bndE hf
      have h_S3 := fra_I h_S2 e4
      exact fra_t h_S3 (fa_X0_put_32  hf) (fun _ h => h)
    ·
      exact fra_t h_S2 (fa_X0_put_32  hf) (fun _ h => h)
theorem fa_X0_put {o : Int32 × ZS} {x0 : Nat} {x1 : Int32} {x2 : Int32} {S : ZS}  (hf : f_X0_put x0 x1 x2 S = some o) : FrA [14] S o.2 := by
  have h_S : FrA [14] S S := fra_0
  unfold f_X0_put at hf
  exact fra_t h_S (fa_X0_put_0  hf) (fun _ h => h)
theorem fa_X0_setUp_6s {o : Int32 × ZS} {self6 : Nat → Int32 → ZS → Option (Int32 × ZS)} {x0 : Nat} {x1 : Int32} {S : ZS} (hself6 : ∀ (z0 : Nat) (z1 : Int32) (S : ZS) (o : Int32 × ZS), self6 z0 z1 S = some o → FrA [14] S o.2) (hf : f_X0_setUp_6s self6 x0 x1 S = some o) : FrA [14] S o.2 := by
  have h_S : FrA [14] S S := fra_0
  unfold f_X0_setUp_6s at hf
  rcases m_ifE hf with ⟨-, hf⟩ | ⟨-, hf⟩
  ·
    obtain ⟨-, hf⟩ := m_chkE hf
    obtain ⟨S1, e1, hf⟩ := m_bndE hf
    have h_S1 := fra_I h_S e1
    cases hf
    exact h_S1
  ·
    obtain ⟨-, hf⟩ := m_chkE hf
    obtain ⟨v2, e2, hf⟩ := m_bndE hf
    obtain ⟨-, hf⟩ := m_chkE hf
    obtain ⟨o3, ho, hf⟩ := m_calE hf
    have h_o3 := fra_t h_S (fa_X0_put ho) (by decide)
    clear ho
    obtain ⟨v4, e3, hf⟩ := m_bndE hf
    obtain ⟨-, hf⟩ := m_chkE hf
    obtain ⟨o5, ho, hf⟩ := m_calE hf
    have h_o5 := fra_t h_o3 (fa_X0_put ho) (by decide)
    clear ho
    obtain ⟨v6, e4, hf⟩ := m_bndE hf
    obtain ⟨-, hf⟩ := m_chkE hf
    obtain ⟨o7, ho, hf⟩ := m_calE hf
    have h_o7 := fra_t h_o5 (fa_X0_put ho) (by decide)
    clear ho
    obtain ⟨v8, e5, hf⟩ := m_bndE hf
    obtain ⟨-, hf⟩ := m_chkE hf
    obtain ⟨v9, e6, hf⟩ := m_bndE hf
    obtain ⟨v10, e7, hf⟩ := m_bndE hf
    obtain ⟨-, hf⟩ := m_chkE hf
    obtain ⟨o11, ho, hf⟩ := m_calE hf
    have h_o11 := fra_t h_o7 (fa_X0_put ho) (by decide)
    clear ho
    obtain ⟨v12, e8, hf⟩ := m_bndE hf
    exact fra_t h_o11 (hself6 _ _ _ _ hf) (fun _ h => h)
theorem fa_X0_setUp_6   (n : Nat) : ∀ (y0 : Nat) (y1 : Int32) (S : ZS) (o : Int32 × ZS), f_X0_setUp_6  n y0 y1 S = some o → FrA [14] S o.2 := by
  induction n with
  | zero => intro y0 y1 S o hf; cases hf
  | succ n ih => intro y0 y1 S o hf; exact fa_X0_setUp_6s  ih hf
theorem fa_X0_setUp_0 {o : Int32 × ZS} {x0 : Nat} {S : ZS}  (hf : f_X0_setUp_0 x0 S = some o) : FrA [14] S o.2 := by
  have h_S : FrA [14] S S := fra_0
  unfold f_X0_setUp_0 at hf
  obtain ⟨-, hf⟩ := m_chkE hf
  obtain ⟨o1, ho, hf⟩ := m_calE hf
  have h_o1 := fra_t h_S (fa_X0_wipe ho) (by decide)
  clear ho
  exact fra_t h_o1 (fa_X0_setUp_6  _ _ _ _ _ hf) (fun _ h => h)
theorem fa_X0_setUp {o : Int32 × ZS} {x0 : Nat} {S : ZS}  (hf : f_X0_setUp x0 S = some o) : FrA [14] S o.2 := by
  have h_S : FrA [14] S S := fra_0
  unfold f_X0_setUp at hf
  exact fra_t h_S (fa_X0_setUp_0  hf) (fun _ h => h)
theorem fa_X0_copyFrom_0 {o : Int32 × ZS} {x0 : Nat} {x1 : Nat} {S : ZS}  (hf : f_X0_copyFrom_0 x0 x1 S = some o) : FrA [14] S o.2 := by
  have h_S : FrA [14] S S := fra_0
  unfold f_X0_copyFrom_0 at hf
  obtain ⟨-, hf⟩ := m_chkE hf
  obtain ⟨b1, -, hf⟩ := m_calE hf
  obtain ⟨-, hf⟩ := m_chkE hf
  obtain ⟨b2, -, hf⟩ := m_calE hf
  obtain ⟨q1, hf⟩ := m_chkE hf
  obtain ⟨q2, hf⟩ := m_chkE hf
  obtain ⟨-, hf⟩ := m_chkE hf
  obtain ⟨S3, e3, hf⟩ := m_bndE hf
  have h_S3 := fra_C h_S q2 e3 (by decide)
  obtain ⟨-, hf⟩ := m_chkE hf
  obtain ⟨-, hf⟩ := m_chkE hf
  obtain ⟨S4, e4, hf⟩ := m_bndE hf
  have h_S4 := fra_I h_S3 e4
  obtain ⟨-, hf⟩ := m_chkE hf
  obtain ⟨-, hf⟩ := m_chkE hf
  obtain ⟨S5, e5, hf⟩ := m_bndE hf
  have h_S5 := fra_I h_S4 e5
  obtain ⟨-, hf⟩ := m_chkE hf
  obtain ⟨-, hf⟩ := m_chkE hf
  obtain ⟨S6, e6, hf⟩ := m_bndE hf
  have h_S6 := fra_I h_S5 e6
  obtain ⟨-, hf⟩ := m_chkE hf
  obtain ⟨-, hf⟩ := m_chkE hf
  obtain ⟨S7, e7, hf⟩ := m_bndE hf
  have h_S7 := fra_I h_S6 e7
  obtain ⟨-, hf⟩ := m_chkE hf
  obtain ⟨-, hf⟩ := m_chkE hf
  obtain ⟨S8, e8, hf⟩ := m_bndE hf
  have h_S8 := fra_I h_S7 e8
  obtain ⟨-, hf⟩ := m_chkE hf
  obtain ⟨-, hf⟩ := m_chkE hf
  obtain ⟨S9, e9, hf⟩ := m_bndE hf
  have h_S9 := fra_I h_S8 e9
  cases hf
  exact h_S9
theorem fa_X0_copyFrom {o : Int32 × ZS} {x0 : Nat} {x1 : Nat} {S : ZS}  (hf : f_X0_copyFrom x0 x1 S = some o) : FrA [14] S o.2 := by
  have h_S : FrA [14] S S := fra_0
  unfold f_X0_copyFrom at hf
  exact fra_t h_S (fa_X0_copyFrom_0  hf) (fun _ h => h)
theorem fa_X0_kindAt_0 {o : Int32 × ZS} {x0 : Nat} {x1 : Int32} {S : ZS}  (hf : f_X0_kindAt_0 x0 x1 S = some o) : FrA [] S o.2 := by
  have h_S : FrA [] S S := fra_0
  unfold f_X0_kindAt_0 at hf
  obtain ⟨-, hf⟩ := m_chkE hf
  obtain ⟨b1, -, hf⟩ := m_calE hf
  obtain ⟨q1, hf⟩ := m_chkE hf
  obtain ⟨-, hf⟩ := m_chkE hf
  obtain ⟨v2, e2, hf⟩ := m_bndE hf
  obtain ⟨v3, e3, hf⟩ := m_bndE hf
  cases hf
  exact h_S
theorem fa_X0_kindAt {o : Int32 × ZS} {x0 : Nat} {x1 : Int32} {S : ZS}  (hf : f_X0_kindAt x0 x1 S = some o) : FrA [] S o.2 := by
  have h_S : FrA [] S S := fra_0
  unfold f_X0_kindAt at hf
  exact fra_t h_S (fa_X0_kindAt_0  hf) (fun _ h => h)
theorem fa_X0_kingOf_15 {o : Int32 × ZS} {t0 : Int32} {S : ZS}  (hf : f_X0_kingOf_15 t0 S = some o) : FrA [] S o.2 := by
  have h_S : FrA [] S S := fra_0
  unfold f_X0_kingOf_15 at hf
  cases hf
  exact h_S
theorem fa_X0_kingOf_0 {o : Int32 × ZS} {x0 : Nat} {x1 : Int32} {S : ZS}  (hf : f_X0_kingOf_0 x0 x1 S = some o) : FrA [] S o.2 := by
  have h_S : FrA [] S S := fra_0
  unfold f_X0_kingOf_0 at hf
  rcases m_ifE hf with ⟨-, hf⟩ | ⟨-, hf⟩
  ·
    obtain ⟨-, hf⟩ := m_chkE hf
    exact fra_t h_S (fa_X0_kingOf_15  hf) (fun _ h => h)
  ·
    obtain ⟨-, hf⟩ := m_chkE hf
    exact fra_t h_S (fa_X0_kingOf_15  hf) (fun _ h => h)
theorem fa_X0_kingOf {o : Int32 × ZS} {x0 : Nat} {x1 : Int32} {S : ZS}  (hf : f_X0_kingOf x0 x1 S = some o) : FrA [] S o.2 := by
  have h_S : FrA [] S S := fra_0
  unfold f_X0_kingOf at hf
  exact fra_t h_S (fa_X0_kingOf_0  hf) (fun _ h => h)
theorem fa_X0_attacks_235 {o : Int32 × ZS} {S : ZS}  (hf : f_X0_attacks_235 S = some o) : FrA [] S o.2 := by
  have h_S : FrA [] S S := fra_0
  unfold f_X0_attacks_235 at hf
  obtain ⟨-, hf⟩ := m_chkE hf
  cases hf
  exact h_S
theorem fa_X0_attacks_281s {o : Int32 × ZS} {self281 : Nat → Int32 → Int32 → Int32 → Int32 → ZS → Option (Int32 × ZS)} {x0 : Nat} {x1 : Int32} {x8 : Int32} {x11 : Int32} {x12 : Int32} {S : ZS} (hself281 : ∀ (z0 : Nat) (z1 : Int32) (z2 : Int32) (z3 : Int32) (z4 : Int32) (S : ZS) (o : Int32 × ZS), self281 z0 z1 z2 z3 z4 S = some o → FrA [] S o.2) (hf : f_X0_attacks_281s self281 x0 x1 x8 x11 x12 S = some o) : FrA [] S o.2 := by
  have h_S : FrA [] S S := fra_0
  unfold f_X0_attacks_281s at hf
  rcases m_ifE hf with ⟨-, hf⟩ | ⟨-, hf⟩
  ·
    obtain ⟨-, hf⟩ := m_chkE hf
    cases hf
    exact h_S
  ·
    obtain ⟨-, hf⟩ := m_chkE hf
    obtain ⟨b1, -, hf⟩ := m_calE hf
    obtain ⟨v2, e1, hf⟩ := m_bndE hf
    obtain ⟨v3, e2, hf⟩ := m_bndE hf
    obtain ⟨q3, hf⟩ := m_chkE hf
    obtain ⟨-, hf⟩ := m_chkE hf
    obtain ⟨v4, e4, hf⟩ := m_bndE hf
    rcases m_ifE hf with ⟨-, hf⟩ | ⟨-, hf⟩
    ·
      obtain ⟨v5, e5, hf⟩ := m_bndE hf
      exact fra_t h_S (hself281 _ _ _ _ _ _ _ hf) (fun _ h => h)
    ·
      obtain ⟨-, hf⟩ := m_chkE hf
      cases hf
      exact h_S
theorem fa_X0_attacks_281   (n : Nat) : ∀ (y0 : Nat) (y1 : Int32) (y2 : Int32) (y3 : Int32) (y4 : Int32) (S : ZS) (o : Int32 × ZS), f_X0_attacks_281  n y0 y1 y2 y3 y4 S = some o → FrA [] S o.2 := by
  induction n with
  | zero => intro y0 y1 y2 y3 y4 S o hf; cases hf
  | succ n ih => intro y0 y1 y2 y3 y4 S o hf; exact fa_X0_attacks_281s  ih hf
theorem fa_X0_attacks_275 {o : Int32 × ZS} {x0 : Nat} {x1 : Int32} {x8 : Int32} {t0 : Int32} {t1 : Int32} {S : ZS}  (hf : f_X0_attacks_275 x0 x1 x8 t0 t1 S = some o) : FrA [] S o.2 := by
  have h_S : FrA [] S S := fra_0
  unfold f_X0_attacks_275 at hf
  obtain ⟨v1, e1, hf⟩ := m_bndE hf
  exact fra_t h_S (fa_X0_attacks_281  _ _ _ _ _ _ _ _ hf) (fun _ h => h)
theorem fa_X0_attacks_254 {o : Int32 × ZS} {x0 : Nat} {x1 : Int32} {x4 : Int32} {x8 : Int32} {t0 : Int32} {S : ZS}  (hf : f_X0_attacks_254 x0 x1 x4 x8 t0 S = some o) : FrA [] S o.2 := by
  have h_S : FrA [] S S := fra_0
  unfold f_X0_attacks_254 at hf
  rcases m_ifE hf with ⟨-, hf⟩ | ⟨-, hf⟩
  ·
    rcases m_ifE hf with ⟨-, hf⟩ | ⟨-, hf⟩
    ·
      exact fra_t h_S (fa_X0_attacks_275  hf) (fun _ h => h)
    ·
      exact fra_t h_S (fa_X0_attacks_275  hf) (fun _ h => h)
  ·
    exact fra_t h_S (fa_X0_attacks_275  hf) (fun _ h => h)
theorem fa_X0_attacks_223 {o : Int32 × ZS} {x0 : Nat} {x1 : Int32} {x3 : Int32} {x4 : Int32} {x8 : Int32} {t0 : Int32} {S : ZS}  (hf : f_X0_attacks_223 x0 x1 x3 x4 x8 t0 S = some o) : FrA [] S o.2 := by
  have h_S : FrA [] S S := fra_0
  unfold f_X0_attacks_223 at hf
  rcases m_ifE hf with ⟨-, hf⟩ | ⟨-, hf⟩
  ·
    exact fra_t h_S (fa_X0_attacks_235  hf) (fun _ h => h)
  ·
    rcases m_ifE hf with ⟨-, hf⟩ | ⟨-, hf⟩
    ·
      exact fra_t h_S (fa_X0_attacks_235  hf) (fun _ h => h)
    ·
      rcases m_ifE hf with ⟨-, hf⟩ | ⟨-, hf⟩
      ·
        rcases m_ifE hf with ⟨-, hf⟩ | ⟨-, hf⟩
        ·
          exact fra_t h_S (fa_X0_attacks_254  hf) (fun _ h => h)
        ·
          exact fra_t h_S (fa_X0_attacks_254  hf) (fun _ h => h)
      ·
        exact fra_t h_S (fa_X0_attacks_254  hf) (fun _ h => h)
theorem fa_X0_attacks_222 {o : Int32 × ZS} {x0 : Nat} {x1 : Int32} {x3 : Int32} {x4 : Int32} {x8 : Int32} {S : ZS}  (hf : f_X0_attacks_222 x0 x1 x3 x4 x8 S = some o) : FrA [] S o.2 := by
  have h_S : FrA [] S S := fra_0
  unfold f_X0_attacks_222 at hf
  exact fra_t h_S (fa_X0_attacks_223  hf) (fun _ h => h)
theorem fa_X0_attacks_218 {o : Int32 × ZS} {x0 : Nat} {x1 : Int32} {x3 : Int32} {x4 : Int32} {x8 : Int32} {S : ZS}  (hf : f_X0_attacks_218 x0 x1 x3 x4 x8 S = some o) : FrA [] S o.2 := by
  have h_S : FrA [] S S := fra_0
  unfold f_X0_attacks_218 at hf
  exact fra_t h_S (fa_X0_attacks_223  hf) (fun _ h => h)
theorem fa_X0_attacks_191 {o : Int32 × ZS} {x0 : Nat} {x1 : Int32} {x3 : Int32} {x4 : Int32} {x8 : Int32} {S : ZS}  (hf : f_X0_attacks_191 x0 x1 x3 x4 x8 S = some o) : FrA [] S o.2 := by
  have h_S : FrA [] S S := fra_0
  unfold f_X0_attacks_191 at hf
  exact fra_t h_S (fa_X0_attacks_223  hf) (fun _ h => h)
theorem fa_X0_attacks_172 {o : Int32 × ZS} {x0 : Nat} {x1 : Int32} {x3 : Int32} {x4 : Int32} {x5 : Int32} {x6 : Int32} {x7 : Int32} {x8 : Int32} {t0 : Int32} {S : ZS}  (hf : f_X0_attacks_172 x0 x1 x3 x4 x5 x6 x7 x8 t0 S = some o) : FrA [] S o.2 := by
  have h_S : FrA [] S S := fra_0
  unfold f_X0_attacks_172 at hf
  rcases m_ifE hf with ⟨-, hf⟩ | ⟨-, hf⟩
  ·
    rcases m_ifE hf with ⟨-, hf⟩ | ⟨-, hf⟩
    ·
      rcases m_ifE hf with ⟨-, hf⟩ | ⟨-, hf⟩
      ·
        exact fra_t h_S (fa_X0_attacks_218  hf) (fun _ h => h)
      ·
        rcases m_ifE hf with ⟨-, hf⟩ | ⟨-, hf⟩
        ·
          exact fra_t h_S (fa_X0_attacks_218  hf) (fun _ h => h)
        ·
          exact fra_t h_S (fa_X0_attacks_222  hf) (fun _ h => h)
    ·
      exact fra_t h_S (fa_X0_attacks_222  hf) (fun _ h => h)
  ·
    rcases m_ifE hf with ⟨-, hf⟩ | ⟨-, hf⟩
    ·
      exact fra_t h_S (fa_X0_attacks_191  hf) (fun _ h => h)
    ·
      rcases m_ifE hf with ⟨-, hf⟩ | ⟨-, hf⟩
      ·
        exact fra_t h_S (fa_X0_attacks_191  hf) (fun _ h => h)
      ·
        exact fra_t h_S (fa_X0_attacks_223  hf) (fun _ h => h)
theorem fa_X0_attacks_167 {o : Int32 × ZS} {x0 : Nat} {x1 : Int32} {x3 : Int32} {x4 : Int32} {x5 : Int32} {x6 : Int32} {x7 : Int32} {x8 : Int32} {S : ZS}  (hf : f_X0_attacks_167 x0 x1 x3 x4 x5 x6 x7 x8 S = some o) : FrA [] S o.2 := by
  have h_S : FrA [] S S := fra_0
  unfold f_X0_attacks_167 at hf
  exact fra_t h_S (fa_X0_attacks_172  hf) (fun _ h => h)
theorem fa_X0_attacks_156 {o : Int32 × ZS} {t0 : Int32} {S : ZS}  (hf : f_X0_attacks_156 t0 S = some o) : FrA [] S o.2 := by
  have h_S : FrA [] S S := fra_0
  unfold f_X0_attacks_156 at hf
  obtain ⟨-, hf⟩ := m_chkE hf
  cases hf
  exact h_S
theorem fa_X0_attacks_136 {o : Int32 × ZS} {x0 : Nat} {x1 : Int32} {x3 : Int32} {x4 : Int32} {x5 : Int32} {x6 : Int32} {x7 : Int32} {t0 : Int32} {S : ZS}  (hf : f_X0_attacks_136 x0 x1 x3 x4 x5 x6 x7 t0 S = some o) : FrA [] S o.2 := by
  have h_S : FrA [] S S := fra_0
  unfold f_X0_attacks_136 at hf
  rcases m_ifE hf with ⟨-, hf⟩ | ⟨-, hf⟩
  ·
    rcases m_ifE hf with ⟨-, hf⟩ | ⟨-, hf⟩
    ·
      exact fra_t h_S (fa_X0_attacks_156  hf) (fun _ h => h)
    ·
      exact fra_t h_S (fa_X0_attacks_156  hf) (fun _ h => h)
  ·
    rcases m_ifE hf with ⟨-, hf⟩ | ⟨-, hf⟩
    ·
      exact fra_t h_S (fa_X0_attacks_167  hf) (fun _ h => h)
    ·
      rcases m_ifE hf with ⟨-, hf⟩ | ⟨-, hf⟩
      ·
        exact fra_t h_S (fa_X0_attacks_167  hf) (fun _ h => h)
      ·
        exact fra_t h_S (fa_X0_attacks_172  hf) (fun _ h => h)
theorem fa_X0_attacks_120 {o : Int32 × ZS} {x0 : Nat} {x1 : Int32} {x3 : Int32} {x4 : Int32} {x5 : Int32} {x6 : Int32} {t0 : Int32} {S : ZS}  (hf : f_X0_attacks_120 x0 x1 x3 x4 x5 x6 t0 S = some o) : FrA [] S o.2 := by
  have h_S : FrA [] S S := fra_0
  unfold f_X0_attacks_120 at hf
  rcases m_ifE hf with ⟨-, hf⟩ | ⟨-, hf⟩
  ·
    exact fra_t h_S (fa_X0_attacks_136  hf) (fun _ h => h)
  ·
    exact fra_t h_S (fa_X0_attacks_136  hf) (fun _ h => h)
theorem fa_X0_attacks_105 {o : Int32 × ZS} {x0 : Nat} {x1 : Int32} {x3 : Int32} {x4 : Int32} {x5 : Int32} {t0 : Int32} {S : ZS}  (hf : f_X0_attacks_105 x0 x1 x3 x4 x5 t0 S = some o) : FrA [] S o.2 := by
  have h_S : FrA [] S S := fra_0
  unfold f_X0_attacks_105 at hf
  rcases m_ifE hf with ⟨-, hf⟩ | ⟨-, hf⟩
  ·
    exact fra_t h_S (fa_X0_attacks_120  hf) (fun _ h => h)
  ·
    obtain ⟨v1, e1, hf⟩ := m_bndE hf
    exact fra_t h_S (fa_X0_attacks_120  hf) (fun _ h => h)
theorem fa_X0_attacks_94 {o : Int32 × ZS} {t0 : Int32} {S : ZS}  (hf : f_X0_attacks_94 t0 S = some o) : FrA [] S o.2 := by
  have h_S : FrA [] S S := fra_0
  unfold f_X0_attacks_94 at hf
  obtain ⟨-, hf⟩ := m_chkE hf
  cases hf
  exact h_S
theorem fa_X0_attacks_69 {o : Int32 × ZS} {t0 : Int32} {S : ZS}  (hf : f_X0_attacks_69 t0 S = some o) : FrA [] S o.2 := by
  have h_S : FrA [] S S := fra_0
  unfold f_X0_attacks_69 at hf
  obtain ⟨-, hf⟩ := m_chkE hf
  cases hf
  exact h_S
theorem fa_X0_attacks_68 {o : Int32 × ZS} {S : ZS}  (hf : f_X0_attacks_68 S = some o) : FrA [] S o.2 := by
  have h_S : FrA [] S S := fra_0
  unfold f_X0_attacks_68 at hf
  exact fra_t h_S (fa_X0_attacks_69  hf) (fun _ h => h)
theorem fa_X0_attacks_54 {o : Int32 × ZS} {x3 : Int32} {t0 : Int32} {t1 : Int32} {S : ZS}  (hf : f_X0_attacks_54 x3 t0 t1 S = some o) : FrA [] S o.2 := by
  have h_S : FrA [] S S := fra_0
  unfold f_X0_attacks_54 at hf
  rcases m_ifE hf with ⟨-, hf⟩ | ⟨-, hf⟩
  ·
    obtain ⟨v1, e1, hf⟩ := m_bndE hf
    rcases m_ifE hf with ⟨-, hf⟩ | ⟨-, hf⟩
    ·
      exact fra_t h_S (fa_X0_attacks_69  hf) (fun _ h => h)
    ·
      exact fra_t h_S (fa_X0_attacks_68  hf) (fun _ h => h)
  ·
    exact fra_t h_S (fa_X0_attacks_68  hf) (fun _ h => h)
theorem fa_X0_attacks_0 {o : Int32 × ZS} {x0 : Nat} {x1 : Int32} {x2 : Int32} {S : ZS}  (hf : f_X0_attacks_0 x0 x1 x2 S = some o) : FrA [] S o.2 := by
  have h_S : FrA [] S S := fra_0
  unfold f_X0_attacks_0 at hf
  obtain ⟨v1, e1, hf⟩ := m_bndE hf
  obtain ⟨v2, e2, hf⟩ := m_bndE hf
  obtain ⟨v3, e3, hf⟩ := m_bndE hf
  obtain ⟨v4, e4, hf⟩ := m_bndE hf
  obtain ⟨v5, e5, hf⟩ := m_bndE hf
  obtain ⟨v6, e6, hf⟩ := m_bndE hf
  obtain ⟨-, hf⟩ := m_chkE hf
  obtain ⟨b7, -, hf⟩ := m_calE hf
  obtain ⟨q7, hf⟩ := m_chkE hf
  obtain ⟨-, hf⟩ := m_chkE hf
  obtain ⟨v8, e8, hf⟩ := m_bndE hf
  obtain ⟨v9, e9, hf⟩ := m_bndE hf
  rcases m_ifE hf with ⟨-, hf⟩ | ⟨-, hf⟩
  ·
    obtain ⟨-, hf⟩ := m_chkE hf
    obtain ⟨b14, -, hf⟩ := m_calE hf
    obtain ⟨q10, hf⟩ := m_chkE hf
    obtain ⟨-, hf⟩ := m_chkE hf
    obtain ⟨v15, e11, hf⟩ := m_bndE hf
    rcases m_ifE hf with ⟨-, hf⟩ | ⟨-, hf⟩
    ·
      exact fra_t h_S (fa_X0_attacks_54  hf) (fun _ h => h)
    ·
      exact fra_t h_S (fa_X0_attacks_54  hf) (fun _ h => h)
  ·
    rcases m_ifE hf with ⟨-, hf⟩ | ⟨-, hf⟩
    ·
      obtain ⟨v11, e12, hf⟩ := m_bndE hf
      obtain ⟨v12, e13, hf⟩ := m_bndE hf
      obtain ⟨v13, e14, hf⟩ := m_bndE hf
      rcases m_ifE hf with ⟨-, hf⟩ | ⟨-, hf⟩
      ·
        exact fra_t h_S (fa_X0_attacks_94  hf) (fun _ h => h)
      ·
        exact fra_t h_S (fa_X0_attacks_94  hf) (fun _ h => h)
    ·
      rcases m_ifE hf with ⟨-, hf⟩ | ⟨-, hf⟩
      ·
        exact fra_t h_S (fa_X0_attacks_105  hf) (fun _ h => h)
      ·
        obtain ⟨v10, e15, hf⟩ := m_bndE hf
        exact fra_t h_S (fa_X0_attacks_105  hf) (fun _ h => h)
theorem fa_X0_attacks {o : Int32 × ZS} {x0 : Nat} {x1 : Int32} {x2 : Int32} {S : ZS}  (hf : f_X0_attacks x0 x1 x2 S = some o) : FrA [] S o.2 := by
  have h_S : FrA [] S S := fra_0
  unfold f_X0_attacks at hf
  exact fra_t h_S (fa_X0_attacks_0  hf) (fun _ h => h)
theorem fa_X0_attacked_40 {o : Int32 × ZS} {self2 : Nat → Int32 → Int32 → Int32 → ZS → Option (Int32 × ZS)} {x0 : Nat} {x1 : Int32} {x2 : Int32} {x3 : Int32} {S : ZS} (hself2 : ∀ (z0 : Nat) (z1 : Int32) (z2 : Int32) (z3 : Int32) (S : ZS) (o : Int32 × ZS), self2 z0 z1 z2 z3 S = some o → FrA [] S o.2) (hf : f_X0_attacked_40 self2 x0 x1 x2 x3 S = some o) : FrA [] S o.2 := by
  have h_S : FrA [] S S := fra_0
  unfold f_X0_attacked_40 at hf
  obtain ⟨v1, e1, hf⟩ := m_bndE hf
  exact fra_t h_S (hself2 _ _ _ _ _ _ hf) (fun _ h => h)
theorem fa_X0_attacked_2s {o : Int32 × ZS} {self2 : Nat → Int32 → Int32 → Int32 → ZS → Option (Int32 × ZS)} {x0 : Nat} {x1 : Int32} {x2 : Int32} {x3 : Int32} {S : ZS} (hself2 : ∀ (z0 : Nat) (z1 : Int32) (z2 : Int32) (z3 : Int32) (S : ZS) (o : Int32 × ZS), self2 z0 z1 z2 z3 S = some o → FrA [] S o.2) (hf : f_X0_attacked_2s self2 x0 x1 x2 x3 S = some o) : FrA [] S o.2 := by
  have h_S : FrA [] S S := fra_0
  unfold f_X0_attacked_2s at hf
  rcases m_ifE hf with ⟨-, hf⟩ | ⟨-, hf⟩
  ·
    obtain ⟨-, hf⟩ := m_chkE hf
    cases hf
    exact h_S
  ·
    obtain ⟨-, hf⟩ := m_chkE hf
    obtain ⟨b1, -, hf⟩ := m_calE hf
    obtain ⟨q1, hf⟩ := m_chkE hf
    obtain ⟨-, hf⟩ := m_chkE hf
    obtain ⟨v2, e2, hf⟩ := m_bndE hf
    rcases m_ifE hf with ⟨-, hf⟩ | ⟨-, hf⟩
    ·
      exact fra_t h_S (fa_X0_attacked_40 hself2 hf) (fun _ h => h)
    ·
      obtain ⟨-, hf⟩ := m_chkE hf
      obtain ⟨b3, -, hf⟩ := m_calE hf
      obtain ⟨q3, hf⟩ := m_chkE hf
      obtain ⟨-, hf⟩ := m_chkE hf
      obtain ⟨v4, e4, hf⟩ := m_bndE hf
      obtain ⟨v5, e5, hf⟩ := m_bndE hf
      rcases m_ifE hf with ⟨-, hf⟩ | ⟨-, hf⟩
      ·
        obtain ⟨-, hf⟩ := m_chkE hf
        obtain ⟨o6, ho, hf⟩ := m_calE hf
        have h_o6 := fra_t h_S (fa_X0_attacks ho) (by decide)
        clear ho
        rcases m_ifE hf with ⟨-, hf⟩ | ⟨-, hf⟩
        ·
          exact fra_t h_o6 (fa_X0_attacked_40 hself2 hf) (fun _ h => h)
        ·
          obtain ⟨-, hf⟩ := m_chkE hf
          cases hf
          exact h_o6
      ·
        exact fra_t h_S (fa_X0_attacked_40 hself2 hf) (fun _ h => h)
theorem fa_X0_attacked_2   (n : Nat) : ∀ (y0 : Nat) (y1 : Int32) (y2 : Int32) (y3 : Int32) (S : ZS) (o : Int32 × ZS), f_X0_attacked_2  n y0 y1 y2 y3 S = some o → FrA [] S o.2 := by
  induction n with
  | zero => intro y0 y1 y2 y3 S o hf; cases hf
  | succ n ih => intro y0 y1 y2 y3 S o hf; exact fa_X0_attacked_2s  ih hf
theorem fa_X0_attacked_0 {o : Int32 × ZS} {x0 : Nat} {x1 : Int32} {x2 : Int32} {S : ZS}  (hf : f_X0_attacked_0 x0 x1 x2 S = some o) : FrA [] S o.2 := by
  have h_S : FrA [] S S := fra_0
  unfold f_X0_attacked_0 at hf
  exact fra_t h_S (fa_X0_attacked_2  _ _ _ _ _ _ _ hf) (fun _ h => h)
theorem fa_X0_attacked {o : Int32 × ZS} {x0 : Nat} {x1 : Int32} {x2 : Int32} {S : ZS}  (hf : f_X0_attacked x0 x1 x2 S = some o) : FrA [] S o.2 := by
  have h_S : FrA [] S S := fra_0
  unfold f_X0_attacked at hf
  exact fra_t h_S (fa_X0_attacked_0  hf) (fun _ h => h)
theorem fa_X0_pawnReaches_122 {o : Int32 × ZS} {t0 : Int32} {S : ZS}  (hf : f_X0_pawnReaches_122 t0 S = some o) : FrA [] S o.2 := by
  have h_S : FrA [] S S := fra_0
  unfold f_X0_pawnReaches_122 at hf
  obtain ⟨-, hf⟩ := m_chkE hf
  cases hf
  exact h_S
theorem fa_X0_pawnReaches_121 {o : Int32 × ZS} {S : ZS}  (hf : f_X0_pawnReaches_121 S = some o) : FrA [] S o.2 := by
  have h_S : FrA [] S S := fra_0
  unfold f_X0_pawnReaches_121 at hf
  exact fra_t h_S (fa_X0_pawnReaches_122  hf) (fun _ h => h)
theorem fa_X0_pawnReaches_117 {o : Int32 × ZS} {S : ZS}  (hf : f_X0_pawnReaches_117 S = some o) : FrA [] S o.2 := by
  have h_S : FrA [] S S := fra_0
  unfold f_X0_pawnReaches_117 at hf
  exact fra_t h_S (fa_X0_pawnReaches_122  hf) (fun _ h => h)
theorem fa_X0_pawnReaches_90 {o : Int32 × ZS} {t0 : Int32} {S : ZS}  (hf : f_X0_pawnReaches_90 t0 S = some o) : FrA [] S o.2 := by
  have h_S : FrA [] S S := fra_0
  unfold f_X0_pawnReaches_90 at hf
  obtain ⟨-, hf⟩ := m_chkE hf
  cases hf
  exact h_S
theorem fa_X0_pawnReaches_89 {o : Int32 × ZS} {S : ZS}  (hf : f_X0_pawnReaches_89 S = some o) : FrA [] S o.2 := by
  have h_S : FrA [] S S := fra_0
  unfold f_X0_pawnReaches_89 at hf
  exact fra_t h_S (fa_X0_pawnReaches_90  hf) (fun _ h => h)
theorem fa_X0_pawnReaches_62 {o : Int32 × ZS} {x0 : Nat} {x1 : Int32} {x2 : Int32} {x3 : Int32} {t0 : Int32} {t1 : Int32} {S : ZS}  (hf : f_X0_pawnReaches_62 x0 x1 x2 x3 t0 t1 S = some o) : FrA [] S o.2 := by
  have h_S : FrA [] S S := fra_0
  unfold f_X0_pawnReaches_62 at hf
  rcases m_ifE hf with ⟨-, hf⟩ | ⟨-, hf⟩
  ·
    obtain ⟨-, hf⟩ := m_chkE hf
    obtain ⟨b1, -, hf⟩ := m_calE hf
    obtain ⟨v2, e1, hf⟩ := m_bndE hf
    obtain ⟨q2, hf⟩ := m_chkE hf
    obtain ⟨-, hf⟩ := m_chkE hf
    obtain ⟨v3, e3, hf⟩ := m_bndE hf
    rcases m_ifE hf with ⟨-, hf⟩ | ⟨-, hf⟩
    ·
      obtain ⟨-, hf⟩ := m_chkE hf
      obtain ⟨b4, -, hf⟩ := m_calE hf
      obtain ⟨q4, hf⟩ := m_chkE hf
      obtain ⟨-, hf⟩ := m_chkE hf
      obtain ⟨v5, e5, hf⟩ := m_bndE hf
      rcases m_ifE hf with ⟨-, hf⟩ | ⟨-, hf⟩
      ·
        exact fra_t h_S (fa_X0_pawnReaches_90  hf) (fun _ h => h)
      ·
        exact fra_t h_S (fa_X0_pawnReaches_89  hf) (fun _ h => h)
    ·
      exact fra_t h_S (fa_X0_pawnReaches_89  hf) (fun _ h => h)
  ·
    exact fra_t h_S (fa_X0_pawnReaches_89  hf) (fun _ h => h)
theorem fa_X0_pawnReaches_36 {o : Int32 × ZS} {t0 : Int32} {S : ZS}  (hf : f_X0_pawnReaches_36 t0 S = some o) : FrA [] S o.2 := by
  have h_S : FrA [] S S := fra_0
  unfold f_X0_pawnReaches_36 at hf
  obtain ⟨-, hf⟩ := m_chkE hf
  cases hf
  exact h_S
theorem fa_X0_pawnReaches_14 {o : Int32 × ZS} {x0 : Nat} {x1 : Int32} {x2 : Int32} {t0 : Int32} {S : ZS}  (hf : f_X0_pawnReaches_14 x0 x1 x2 t0 S = some o) : FrA [] S o.2 := by
  have h_S : FrA [] S S := fra_0
  unfold f_X0_pawnReaches_14 at hf
  obtain ⟨v1, e1, hf⟩ := m_bndE hf
  rcases m_ifE hf with ⟨-, hf⟩ | ⟨-, hf⟩
  ·
    obtain ⟨-, hf⟩ := m_chkE hf
    obtain ⟨b8, -, hf⟩ := m_calE hf
    obtain ⟨q2, hf⟩ := m_chkE hf
    obtain ⟨-, hf⟩ := m_chkE hf
    obtain ⟨v9, e3, hf⟩ := m_bndE hf
    rcases m_ifE hf with ⟨-, hf⟩ | ⟨-, hf⟩
    ·
      exact fra_t h_S (fa_X0_pawnReaches_36  hf) (fun _ h => h)
    ·
      exact fra_t h_S (fa_X0_pawnReaches_36  hf) (fun _ h => h)
  ·
    obtain ⟨v2, e4, hf⟩ := m_bndE hf
    obtain ⟨v3, e5, hf⟩ := m_bndE hf
    rcases m_ifE hf with ⟨-, hf⟩ | ⟨-, hf⟩
    ·
      obtain ⟨v7, e6, hf⟩ := m_bndE hf
      obtain ⟨-, hf⟩ := m_chkE hf
      rcases m_ifE hf with ⟨-, hf⟩ | ⟨-, hf⟩
      ·
        exact fra_t h_S (fa_X0_pawnReaches_62  hf) (fun _ h => h)
      ·
        exact fra_t h_S (fa_X0_pawnReaches_62  hf) (fun _ h => h)
    ·
      obtain ⟨-, hf⟩ := m_chkE hf
      obtain ⟨o4, ho, hf⟩ := m_calE hf
      have h_o4 := fra_t h_S (fa_X0_attacks ho) (by decide)
      clear ho
      rcases m_ifE hf with ⟨-, hf⟩ | ⟨-, hf⟩
      ·
        exact fra_t h_o4 (fa_X0_pawnReaches_121  hf) (fun _ h => h)
      ·
        obtain ⟨-, hf⟩ := m_chkE hf
        obtain ⟨b5, -, hf⟩ := m_calE hf
        obtain ⟨q7, hf⟩ := m_chkE hf
        obtain ⟨-, hf⟩ := m_chkE hf
        obtain ⟨v6, e8, hf⟩ := m_bndE hf
        rcases m_ifE hf with ⟨-, hf⟩ | ⟨-, hf⟩
        ·
          obtain ⟨-, hf⟩ := m_chkE hf
          rcases m_ifE hf with ⟨-, hf⟩ | ⟨-, hf⟩
          ·
            exact fra_t h_o4 (fa_X0_pawnReaches_117  hf) (fun _ h => h)
          ·
            exact fra_t h_o4 (fa_X0_pawnReaches_121  hf) (fun _ h => h)
        ·
          exact fra_t h_o4 (fa_X0_pawnReaches_117  hf) (fun _ h => h)
theorem fa_X0_pawnReaches_0 {o : Int32 × ZS} {x0 : Nat} {x1 : Int32} {x2 : Int32} {S : ZS}  (hf : f_X0_pawnReaches_0 x0 x1 x2 S = some o) : FrA [] S o.2 := by
  have h_S : FrA [] S S := fra_0
  unfold f_X0_pawnReaches_0 at hf
  obtain ⟨-, hf⟩ := m_chkE hf
  rcases m_ifE hf with ⟨-, hf⟩ | ⟨-, hf⟩
  ·
    exact fra_t h_S (fa_X0_pawnReaches_14  hf) (fun _ h => h)
  ·
    exact fra_t h_S (fa_X0_pawnReaches_14  hf) (fun _ h => h)
theorem fa_X0_pawnReaches {o : Int32 × ZS} {x0 : Nat} {x1 : Int32} {x2 : Int32} {S : ZS}  (hf : f_X0_pawnReaches x0 x1 x2 S = some o) : FrA [] S o.2 := by
  have h_S : FrA [] S S := fra_0
  unfold f_X0_pawnReaches at hf
  exact fra_t h_S (fa_X0_pawnReaches_0  hf) (fun _ h => h)
theorem fa_X0_castles_42 {o : Int32 × ZS} {t0 : Int32} {S : ZS}  (hf : f_X0_castles_42 t0 S = some o) : FrA [] S o.2 := by
  have h_S : FrA [] S S := fra_0
  unfold f_X0_castles_42 at hf
  obtain ⟨-, hf⟩ := m_chkE hf
  cases hf
  exact h_S
theorem fa_X0_castles_41 {o : Int32 × ZS} {S : ZS}  (hf : f_X0_castles_41 S = some o) : FrA [] S o.2 := by
  have h_S : FrA [] S S := fra_0
  unfold f_X0_castles_41 at hf
  exact fra_t h_S (fa_X0_castles_42  hf) (fun _ h => h)
theorem fa_X0_castles_37 {o : Int32 × ZS} {S : ZS}  (hf : f_X0_castles_37 S = some o) : FrA [] S o.2 := by
  have h_S : FrA [] S S := fra_0
  unfold f_X0_castles_37 at hf
  exact fra_t h_S (fa_X0_castles_42  hf) (fun _ h => h)
theorem fa_X0_castles_0 {o : Int32 × ZS} {x0 : Nat} {x1 : Int32} {x2 : Int32} {S : ZS}  (hf : f_X0_castles_0 x0 x1 x2 S = some o) : FrA [] S o.2 := by
  have h_S : FrA [] S S := fra_0
  unfold f_X0_castles_0 at hf
  obtain ⟨-, hf⟩ := m_chkE hf
  obtain ⟨b1, -, hf⟩ := m_calE hf
  obtain ⟨q1, hf⟩ := m_chkE hf
  obtain ⟨-, hf⟩ := m_chkE hf
  obtain ⟨v2, e2, hf⟩ := m_bndE hf
  obtain ⟨v3, e3, hf⟩ := m_bndE hf
  rcases m_ifE hf with ⟨-, hf⟩ | ⟨-, hf⟩
  ·
    obtain ⟨v4, e4, hf⟩ := m_bndE hf
    obtain ⟨v5, e5, hf⟩ := m_bndE hf
    rcases m_ifE hf with ⟨-, hf⟩ | ⟨-, hf⟩
    ·
      obtain ⟨v6, e6, hf⟩ := m_bndE hf
      rcases m_ifE hf with ⟨-, hf⟩ | ⟨-, hf⟩
      ·
        exact fra_t h_S (fa_X0_castles_37  hf) (fun _ h => h)
      ·
        obtain ⟨v7, e7, hf⟩ := m_bndE hf
        rcases m_ifE hf with ⟨-, hf⟩ | ⟨-, hf⟩
        ·
          exact fra_t h_S (fa_X0_castles_37  hf) (fun _ h => h)
        ·
          exact fra_t h_S (fa_X0_castles_41  hf) (fun _ h => h)
    ·
      exact fra_t h_S (fa_X0_castles_41  hf) (fun _ h => h)
  ·
    exact fra_t h_S (fa_X0_castles_41  hf) (fun _ h => h)
theorem fa_X0_castles {o : Int32 × ZS} {x0 : Nat} {x1 : Int32} {x2 : Int32} {S : ZS}  (hf : f_X0_castles x0 x1 x2 S = some o) : FrA [] S o.2 := by
  have h_S : FrA [] S S := fra_0
  unfold f_X0_castles at hf
  exact fra_t h_S (fa_X0_castles_0  hf) (fun _ h => h)
theorem fa_X0_castlingIsOpen_50 {o : Int32 × ZS} {S : ZS}  (hf : f_X0_castlingIsOpen_50 S = some o) : FrA [] S o.2 := by
  have h_S : FrA [] S S := fra_0
  unfold f_X0_castlingIsOpen_50 at hf
  obtain ⟨-, hf⟩ := m_chkE hf
  cases hf
  exact h_S
theorem fa_X0_castlingIsOpen_123 {o : Int32 × ZS} {t0 : Int32} {S : ZS}  (hf : f_X0_castlingIsOpen_123 t0 S = some o) : FrA [] S o.2 := by
  have h_S : FrA [] S S := fra_0
  unfold f_X0_castlingIsOpen_123 at hf
  obtain ⟨-, hf⟩ := m_chkE hf
  cases hf
  exact h_S
theorem fa_X0_castlingIsOpen_122 {o : Int32 × ZS} {S : ZS}  (hf : f_X0_castlingIsOpen_122 S = some o) : FrA [] S o.2 := by
  have h_S : FrA [] S S := fra_0
  unfold f_X0_castlingIsOpen_122 at hf
  exact fra_t h_S (fa_X0_castlingIsOpen_123  hf) (fun _ h => h)
theorem fa_X0_castlingIsOpen_84 {o : Int32 × ZS} {t0 : Int32} {S : ZS}  (hf : f_X0_castlingIsOpen_84 t0 S = some o) : FrA [] S o.2 := by
  have h_S : FrA [] S S := fra_0
  unfold f_X0_castlingIsOpen_84 at hf
  obtain ⟨-, hf⟩ := m_chkE hf
  cases hf
  exact h_S
theorem fa_X0_castlingIsOpen_83 {o : Int32 × ZS} {S : ZS}  (hf : f_X0_castlingIsOpen_83 S = some o) : FrA [] S o.2 := by
  have h_S : FrA [] S S := fra_0
  unfold f_X0_castlingIsOpen_83 at hf
  exact fra_t h_S (fa_X0_castlingIsOpen_84  hf) (fun _ h => h)
theorem fa_X0_castlingIsOpen_38 {o : Int32 × ZS} {x0 : Nat} {x1 : Int32} {x2 : Int32} {x3 : Int32} {t0 : Int32} {t1 : Int32} {S : ZS}  (hf : f_X0_castlingIsOpen_38 x0 x1 x2 x3 t0 t1 S = some o) : FrA [] S o.2 := by
  have h_S : FrA [] S S := fra_0
  unfold f_X0_castlingIsOpen_38 at hf
  rcases m_ifE hf with ⟨-, hf⟩ | ⟨-, hf⟩
  ·
    obtain ⟨-, hf⟩ := m_chkE hf
    obtain ⟨v1, e1, hf⟩ := m_bndE hf
    rcases m_ifE hf with ⟨-, hf⟩ | ⟨-, hf⟩
    ·
      exact fra_t h_S (fa_X0_castlingIsOpen_50  hf) (fun _ h => h)
    ·
      rcases m_ifE hf with ⟨-, hf⟩ | ⟨-, hf⟩
      ·
        obtain ⟨-, hf⟩ := m_chkE hf
        obtain ⟨b2, -, hf⟩ := m_calE hf
        obtain ⟨v3, e2, hf⟩ := m_bndE hf
        obtain ⟨q3, hf⟩ := m_chkE hf
        obtain ⟨-, hf⟩ := m_chkE hf
        obtain ⟨v4, e4, hf⟩ := m_bndE hf
        rcases m_ifE hf with ⟨-, hf⟩ | ⟨-, hf⟩
        ·
          obtain ⟨-, hf⟩ := m_chkE hf
          obtain ⟨b5, -, hf⟩ := m_calE hf
          obtain ⟨v6, e5, hf⟩ := m_bndE hf
          obtain ⟨q6, hf⟩ := m_chkE hf
          obtain ⟨-, hf⟩ := m_chkE hf
          obtain ⟨v7, e7, hf⟩ := m_bndE hf
          rcases m_ifE hf with ⟨-, hf⟩ | ⟨-, hf⟩
          ·
            obtain ⟨-, hf⟩ := m_chkE hf
            obtain ⟨b8, -, hf⟩ := m_calE hf
            obtain ⟨v9, e8, hf⟩ := m_bndE hf
            obtain ⟨q9, hf⟩ := m_chkE hf
            obtain ⟨-, hf⟩ := m_chkE hf
            obtain ⟨v10, e10, hf⟩ := m_bndE hf
            rcases m_ifE hf with ⟨-, hf⟩ | ⟨-, hf⟩
            ·
              exact fra_t h_S (fa_X0_castlingIsOpen_123  hf) (fun _ h => h)
            ·
              exact fra_t h_S (fa_X0_castlingIsOpen_122  hf) (fun _ h => h)
          ·
            exact fra_t h_S (fa_X0_castlingIsOpen_122  hf) (fun _ h => h)
        ·
          exact fra_t h_S (fa_X0_castlingIsOpen_122  hf) (fun _ h => h)
      ·
        obtain ⟨-, hf⟩ := m_chkE hf
        obtain ⟨b11, -, hf⟩ := m_calE hf
        obtain ⟨v12, e11, hf⟩ := m_bndE hf
        obtain ⟨q12, hf⟩ := m_chkE hf
        obtain ⟨-, hf⟩ := m_chkE hf
        obtain ⟨v13, e13, hf⟩ := m_bndE hf
        rcases m_ifE hf with ⟨-, hf⟩ | ⟨-, hf⟩
        ·
          obtain ⟨-, hf⟩ := m_chkE hf
          obtain ⟨b14, -, hf⟩ := m_calE hf
          obtain ⟨v15, e14, hf⟩ := m_bndE hf
          obtain ⟨q15, hf⟩ := m_chkE hf
          obtain ⟨-, hf⟩ := m_chkE hf
          obtain ⟨v16, e16, hf⟩ := m_bndE hf
          rcases m_ifE hf with ⟨-, hf⟩ | ⟨-, hf⟩
          ·
            exact fra_t h_S (fa_X0_castlingIsOpen_84  hf) (fun _ h => h)
          ·
            exact fra_t h_S (fa_X0_castlingIsOpen_83  hf) (fun _ h => h)
        ·
          exact fra_t h_S (fa_X0_castlingIsOpen_83  hf) (fun _ h => h)
  ·
    exact fra_t h_S (fa_X0_castlingIsOpen_50  hf) (fun _ h => h)
theorem fa_X0_castlingIsOpen_22 {o : Int32 × ZS} {x0 : Nat} {x1 : Int32} {x2 : Int32} {t0 : Int32} {t1 : Int32} {S : ZS}  (hf : f_X0_castlingIsOpen_22 x0 x1 x2 t0 t1 S = some o) : FrA [] S o.2 := by
  have h_S : FrA [] S S := fra_0
  unfold f_X0_castlingIsOpen_22 at hf
  obtain ⟨v1, e1, hf⟩ := m_bndE hf
  obtain ⟨-, hf⟩ := m_chkE hf
  rcases m_ifE hf with ⟨-, hf⟩ | ⟨-, hf⟩
  ·
    exact fra_t h_S (fa_X0_castlingIsOpen_38  hf) (fun _ h => h)
  ·
    exact fra_t h_S (fa_X0_castlingIsOpen_38  hf) (fun _ h => h)
theorem fa_X0_castlingIsOpen_10 {o : Int32 × ZS} {x0 : Nat} {x1 : Int32} {x2 : Int32} {t0 : Int32} {S : ZS}  (hf : f_X0_castlingIsOpen_10 x0 x1 x2 t0 S = some o) : FrA [] S o.2 := by
  have h_S : FrA [] S S := fra_0
  unfold f_X0_castlingIsOpen_10 at hf
  obtain ⟨-, hf⟩ := m_chkE hf
  rcases m_ifE hf with ⟨-, hf⟩ | ⟨-, hf⟩
  ·
    exact fra_t h_S (fa_X0_castlingIsOpen_22  hf) (fun _ h => h)
  ·
    exact fra_t h_S (fa_X0_castlingIsOpen_22  hf) (fun _ h => h)
theorem fa_X0_castlingIsOpen_0 {o : Int32 × ZS} {x0 : Nat} {x1 : Int32} {x2 : Int32} {S : ZS}  (hf : f_X0_castlingIsOpen_0 x0 x1 x2 S = some o) : FrA [] S o.2 := by
  have h_S : FrA [] S S := fra_0
  unfold f_X0_castlingIsOpen_0 at hf
  rcases m_ifE hf with ⟨-, hf⟩ | ⟨-, hf⟩
  ·
    exact fra_t h_S (fa_X0_castlingIsOpen_10  hf) (fun _ h => h)
  ·
    exact fra_t h_S (fa_X0_castlingIsOpen_10  hf) (fun _ h => h)
theorem fa_X0_castlingIsOpen {o : Int32 × ZS} {x0 : Nat} {x1 : Int32} {x2 : Int32} {S : ZS}  (hf : f_X0_castlingIsOpen x0 x1 x2 S = some o) : FrA [] S o.2 := by
  have h_S : FrA [] S S := fra_0
  unfold f_X0_castlingIsOpen at hf
  exact fra_t h_S (fa_X0_castlingIsOpen_0  hf) (fun _ h => h)
theorem fa_X0_reaches_45 {o : Int32 × ZS} {S : ZS}  (hf : f_X0_reaches_45 S = some o) : FrA [] S o.2 := by
  have h_S : FrA [] S S := fra_0
  unfold f_X0_reaches_45 at hf
  obtain ⟨-, hf⟩ := m_chkE hf
  cases hf
  exact h_S
theorem fa_X0_reaches_95 {o : Int32 × ZS} {t0 : Int32} {S : ZS}  (hf : f_X0_reaches_95 t0 S = some o) : FrA [] S o.2 := by
  have h_S : FrA [] S S := fra_0
  unfold f_X0_reaches_95 at hf
  obtain ⟨-, hf⟩ := m_chkE hf
  cases hf
  exact h_S
theorem fa_X0_reaches_90 {o : Int32 × ZS} {S : ZS}  (hf : f_X0_reaches_90 S = some o) : FrA [] S o.2 := by
  have h_S : FrA [] S S := fra_0
  unfold f_X0_reaches_90 at hf
  exact fra_t h_S (fa_X0_reaches_95  hf) (fun _ h => h)
theorem fa_X0_reaches_94 {o : Int32 × ZS} {S : ZS}  (hf : f_X0_reaches_94 S = some o) : FrA [] S o.2 := by
  have h_S : FrA [] S S := fra_0
  unfold f_X0_reaches_94 at hf
  exact fra_t h_S (fa_X0_reaches_95  hf) (fun _ h => h)
theorem fa_X0_reaches_47 {o : Int32 × ZS} {x0 : Nat} {x1 : Int32} {x2 : Int32} {S : ZS}  (hf : f_X0_reaches_47 x0 x1 x2 S = some o) : FrA [] S o.2 := by
  have h_S : FrA [] S S := fra_0
  unfold f_X0_reaches_47 at hf
  obtain ⟨-, hf⟩ := m_chkE hf
  obtain ⟨o1, ho, hf⟩ := m_calE hf
  have h_o1 := fra_t h_S (fa_X0_kindAt ho) (by decide)
  clear ho
  rcases m_ifE hf with ⟨-, hf⟩ | ⟨-, hf⟩
  ·
    obtain ⟨-, hf⟩ := m_chkE hf
    obtain ⟨o5, ho, hf⟩ := m_calE hf
    have h_o5 := fra_t h_o1 (fa_X0_pawnReaches ho) (by decide)
    clear ho
    obtain ⟨-, hf⟩ := m_chkE hf
    cases hf
    exact h_o5
  ·
    obtain ⟨-, hf⟩ := m_chkE hf
    obtain ⟨o2, ho, hf⟩ := m_calE hf
    have h_o2 := fra_t h_o1 (fa_X0_attacks ho) (by decide)
    clear ho
    rcases m_ifE hf with ⟨-, hf⟩ | ⟨-, hf⟩
    ·
      obtain ⟨-, hf⟩ := m_chkE hf
      obtain ⟨o3, ho, hf⟩ := m_calE hf
      have h_o3 := fra_t h_o2 (fa_X0_castles ho) (by decide)
      clear ho
      rcases m_ifE hf with ⟨-, hf⟩ | ⟨-, hf⟩
      ·
        exact fra_t h_o3 (fa_X0_reaches_94  hf) (fun _ h => h)
      ·
        obtain ⟨-, hf⟩ := m_chkE hf
        obtain ⟨o4, ho, hf⟩ := m_calE hf
        have h_o4 := fra_t h_o3 (fa_X0_castlingIsOpen ho) (by decide)
        clear ho
        rcases m_ifE hf with ⟨-, hf⟩ | ⟨-, hf⟩
        ·
          exact fra_t h_o4 (fa_X0_reaches_94  hf) (fun _ h => h)
        ·
          exact fra_t h_o4 (fa_X0_reaches_90  hf) (fun _ h => h)
    ·
      exact fra_t h_o2 (fa_X0_reaches_90  hf) (fun _ h => h)
theorem fa_X0_reaches_0 {o : Int32 × ZS} {x0 : Nat} {x1 : Int32} {x2 : Int32} {S : ZS}  (hf : f_X0_reaches_0 x0 x1 x2 S = some o) : FrA [] S o.2 := by
  have h_S : FrA [] S S := fra_0
  unfold f_X0_reaches_0 at hf
  obtain ⟨-, hf⟩ := m_chkE hf
  obtain ⟨b1, -, hf⟩ := m_calE hf
  obtain ⟨q1, hf⟩ := m_chkE hf
  obtain ⟨-, hf⟩ := m_chkE hf
  obtain ⟨v2, e2, hf⟩ := m_bndE hf
  rcases m_ifE hf with ⟨-, hf⟩ | ⟨-, hf⟩
  ·
    exact fra_t h_S (fa_X0_reaches_45  hf) (fun _ h => h)
  ·
    obtain ⟨v3, e3, hf⟩ := m_bndE hf
    obtain ⟨-, hf⟩ := m_chkE hf
    rcases m_ifE hf with ⟨-, hf⟩ | ⟨-, hf⟩
    ·
      obtain ⟨-, hf⟩ := m_chkE hf
      obtain ⟨b4, -, hf⟩ := m_calE hf
      obtain ⟨q4, hf⟩ := m_chkE hf
      obtain ⟨-, hf⟩ := m_chkE hf
      obtain ⟨v5, e5, hf⟩ := m_bndE hf
      rcases m_ifE hf with ⟨-, hf⟩ | ⟨-, hf⟩
      ·
        exact fra_t h_S (fa_X0_reaches_47  hf) (fun _ h => h)
      ·
        obtain ⟨-, hf⟩ := m_chkE hf
        obtain ⟨b6, -, hf⟩ := m_calE hf
        obtain ⟨q6, hf⟩ := m_chkE hf
        obtain ⟨-, hf⟩ := m_chkE hf
        obtain ⟨v7, e7, hf⟩ := m_bndE hf
        obtain ⟨v8, e8, hf⟩ := m_bndE hf
        obtain ⟨-, hf⟩ := m_chkE hf
        rcases m_ifE hf with ⟨-, hf⟩ | ⟨-, hf⟩
        ·
          exact fra_t h_S (fa_X0_reaches_45  hf) (fun _ h => h)
        ·
          exact fra_t h_S (fa_X0_reaches_47  hf) (fun _ h => h)
    ·
      exact fra_t h_S (fa_X0_reaches_45  hf) (fun _ h => h)
theorem fa_X0_reaches {o : Int32 × ZS} {x0 : Nat} {x1 : Int32} {x2 : Int32} {S : ZS}  (hf : f_X0_reaches x0 x1 x2 S = some o) : FrA [] S o.2 := by
  have h_S : FrA [] S S := fra_0
  unfold f_X0_reaches at hf
  exact fra_t h_S (fa_X0_reaches_0  hf) (fun _ h => h)
theorem fa_X0_takes_34 {o : Int32 × ZS} {t0 : Int32} {S : ZS}  (hf : f_X0_takes_34 t0 S = some o) : FrA [] S o.2 := by
  have h_S : FrA [] S S := fra_0
  unfold f_X0_takes_34 at hf
  obtain ⟨-, hf⟩ := m_chkE hf
  cases hf
  exact h_S
theorem fa_X0_takes_29 {o : Int32 × ZS} {S : ZS}  (hf : f_X0_takes_29 S = some o) : FrA [] S o.2 := by
  have h_S : FrA [] S S := fra_0
  unfold f_X0_takes_29 at hf
  exact fra_t h_S (fa_X0_takes_34  hf) (fun _ h => h)
theorem fa_X0_takes_33 {o : Int32 × ZS} {S : ZS}  (hf : f_X0_takes_33 S = some o) : FrA [] S o.2 := by
  have h_S : FrA [] S S := fra_0
  unfold f_X0_takes_33 at hf
  exact fra_t h_S (fa_X0_takes_34  hf) (fun _ h => h)
theorem fa_X0_takes_0 {o : Int32 × ZS} {x0 : Nat} {x1 : Int32} {x2 : Int32} {S : ZS}  (hf : f_X0_takes_0 x0 x1 x2 S = some o) : FrA [] S o.2 := by
  have h_S : FrA [] S S := fra_0
  unfold f_X0_takes_0 at hf
  obtain ⟨-, hf⟩ := m_chkE hf
  obtain ⟨b1, -, hf⟩ := m_calE hf
  obtain ⟨q1, hf⟩ := m_chkE hf
  obtain ⟨-, hf⟩ := m_chkE hf
  obtain ⟨v2, e2, hf⟩ := m_bndE hf
  rcases m_ifE hf with ⟨-, hf⟩ | ⟨-, hf⟩
  ·
    obtain ⟨-, hf⟩ := m_chkE hf
    obtain ⟨o3, ho, hf⟩ := m_calE hf
    have h_o3 := fra_t h_S (fa_X0_kindAt ho) (by decide)
    clear ho
    rcases m_ifE hf with ⟨-, hf⟩ | ⟨-, hf⟩
    ·
      obtain ⟨v4, e3, hf⟩ := m_bndE hf
      obtain ⟨v5, e4, hf⟩ := m_bndE hf
      rcases m_ifE hf with ⟨-, hf⟩ | ⟨-, hf⟩
      ·
        exact fra_t h_o3 (fa_X0_takes_33  hf) (fun _ h => h)
      ·
        exact fra_t h_o3 (fa_X0_takes_29  hf) (fun _ h => h)
    ·
      exact fra_t h_o3 (fa_X0_takes_33  hf) (fun _ h => h)
  ·
    exact fra_t h_S (fa_X0_takes_29  hf) (fun _ h => h)
theorem fa_X0_takes {o : Int32 × ZS} {x0 : Nat} {x1 : Int32} {x2 : Int32} {S : ZS}  (hf : f_X0_takes x0 x1 x2 S = some o) : FrA [] S o.2 := by
  have h_S : FrA [] S S := fra_0
  unfold f_X0_takes at hf
  exact fra_t h_S (fa_X0_takes_0  hf) (fun _ h => h)
theorem fa_X0_becomesAnother_26 {o : Int32 × ZS} {t0 : Int32} {S : ZS}  (hf : f_X0_becomesAnother_26 t0 S = some o) : FrA [] S o.2 := by
  have h_S : FrA [] S S := fra_0
  unfold f_X0_becomesAnother_26 at hf
  obtain ⟨-, hf⟩ := m_chkE hf
  cases hf
  exact h_S
theorem fa_X0_becomesAnother_25 {o : Int32 × ZS} {S : ZS}  (hf : f_X0_becomesAnother_25 S = some o) : FrA [] S o.2 := by
  have h_S : FrA [] S S := fra_0
  unfold f_X0_becomesAnother_25 at hf
  exact fra_t h_S (fa_X0_becomesAnother_26  hf) (fun _ h => h)
theorem fa_X0_becomesAnother_21 {o : Int32 × ZS} {S : ZS}  (hf : f_X0_becomesAnother_21 S = some o) : FrA [] S o.2 := by
  have h_S : FrA [] S S := fra_0
  unfold f_X0_becomesAnother_21 at hf
  exact fra_t h_S (fa_X0_becomesAnother_26  hf) (fun _ h => h)
theorem fa_X0_becomesAnother_0 {o : Int32 × ZS} {x0 : Nat} {x1 : Int32} {x2 : Int32} {S : ZS}  (hf : f_X0_becomesAnother_0 x0 x1 x2 S = some o) : FrA [] S o.2 := by
  have h_S : FrA [] S S := fra_0
  unfold f_X0_becomesAnother_0 at hf
  obtain ⟨-, hf⟩ := m_chkE hf
  obtain ⟨o1, ho, hf⟩ := m_calE hf
  have h_o1 := fra_t h_S (fa_X0_kindAt ho) (by decide)
  clear ho
  rcases m_ifE hf with ⟨-, hf⟩ | ⟨-, hf⟩
  ·
    rcases m_ifE hf with ⟨-, hf⟩ | ⟨-, hf⟩
    ·
      exact fra_t h_o1 (fa_X0_becomesAnother_21  hf) (fun _ h => h)
    ·
      rcases m_ifE hf with ⟨-, hf⟩ | ⟨-, hf⟩
      ·
        exact fra_t h_o1 (fa_X0_becomesAnother_25  hf) (fun _ h => h)
      ·
        exact fra_t h_o1 (fa_X0_becomesAnother_21  hf) (fun _ h => h)
  ·
    exact fra_t h_o1 (fa_X0_becomesAnother_25  hf) (fun _ h => h)
theorem fa_X0_becomesAnother {o : Int32 × ZS} {x0 : Nat} {x1 : Int32} {x2 : Int32} {S : ZS}  (hf : f_X0_becomesAnother x0 x1 x2 S = some o) : FrA [] S o.2 := by
  have h_S : FrA [] S S := fra_0
  unfold f_X0_becomesAnother at hf
  exact fra_t h_S (fa_X0_becomesAnother_0  hf) (fun _ h => h)
theorem fa_X0_pawnAttacks_34 {o : Int32 × ZS} {S : ZS}  (hf : f_X0_pawnAttacks_34 S = some o) : FrA [] S o.2 := by
  have h_S : FrA [] S S := fra_0
  unfold f_X0_pawnAttacks_34 at hf
  obtain ⟨-, hf⟩ := m_chkE hf
  cases hf
  exact h_S
theorem fa_X0_pawnAttacks_85 {o : Int32 × ZS} {t0 : Int32} {S : ZS}  (hf : f_X0_pawnAttacks_85 t0 S = some o) : FrA [] S o.2 := by
  have h_S : FrA [] S S := fra_0
  unfold f_X0_pawnAttacks_85 at hf
  obtain ⟨-, hf⟩ := m_chkE hf
  cases hf
  exact h_S
theorem fa_X0_pawnAttacks_84 {o : Int32 × ZS} {S : ZS}  (hf : f_X0_pawnAttacks_84 S = some o) : FrA [] S o.2 := by
  have h_S : FrA [] S S := fra_0
  unfold f_X0_pawnAttacks_84 at hf
  exact fra_t h_S (fa_X0_pawnAttacks_85  hf) (fun _ h => h)
theorem fa_X0_pawnAttacks_80 {o : Int32 × ZS} {S : ZS}  (hf : f_X0_pawnAttacks_80 S = some o) : FrA [] S o.2 := by
  have h_S : FrA [] S S := fra_0
  unfold f_X0_pawnAttacks_80 at hf
  exact fra_t h_S (fa_X0_pawnAttacks_85  hf) (fun _ h => h)
theorem fa_X0_pawnAttacks_57 {o : Int32 × ZS} {x0 : Nat} {x3 : Int32} {x4 : Int32} {S : ZS}  (hf : f_X0_pawnAttacks_57 x0 x3 x4 S = some o) : FrA [] S o.2 := by
  have h_S : FrA [] S S := fra_0
  unfold f_X0_pawnAttacks_57 at hf
  obtain ⟨v1, e1, hf⟩ := m_bndE hf
  rcases m_ifE hf with ⟨-, hf⟩ | ⟨-, hf⟩
  ·
    exact fra_t h_S (fa_X0_pawnAttacks_84  hf) (fun _ h => h)
  ·
    obtain ⟨-, hf⟩ := m_chkE hf
    obtain ⟨b2, -, hf⟩ := m_calE hf
    obtain ⟨v3, e2, hf⟩ := m_bndE hf
    obtain ⟨q3, hf⟩ := m_chkE hf
    obtain ⟨-, hf⟩ := m_chkE hf
    obtain ⟨v4, e4, hf⟩ := m_bndE hf
    rcases m_ifE hf with ⟨-, hf⟩ | ⟨-, hf⟩
    ·
      exact fra_t h_S (fa_X0_pawnAttacks_80  hf) (fun _ h => h)
    ·
      exact fra_t h_S (fa_X0_pawnAttacks_84  hf) (fun _ h => h)
theorem fa_X0_pawnAttacks_19 {o : Int32 × ZS} {x0 : Nat} {x3 : Int32} {t0 : Int32} {t1 : Int32} {S : ZS}  (hf : f_X0_pawnAttacks_19 x0 x3 t0 t1 S = some o) : FrA [] S o.2 := by
  have h_S : FrA [] S S := fra_0
  unfold f_X0_pawnAttacks_19 at hf
  obtain ⟨v1, e1, hf⟩ := m_bndE hf
  rcases m_ifE hf with ⟨-, hf⟩ | ⟨-, hf⟩
  ·
    exact fra_t h_S (fa_X0_pawnAttacks_34  hf) (fun _ h => h)
  ·
    rcases m_ifE hf with ⟨-, hf⟩ | ⟨-, hf⟩
    ·
      obtain ⟨v2, e2, hf⟩ := m_bndE hf
      rcases m_ifE hf with ⟨-, hf⟩ | ⟨-, hf⟩
      ·
        exact fra_t h_S (fa_X0_pawnAttacks_57  hf) (fun _ h => h)
      ·
        obtain ⟨-, hf⟩ := m_chkE hf
        obtain ⟨b3, -, hf⟩ := m_calE hf
        obtain ⟨v4, e3, hf⟩ := m_bndE hf
        obtain ⟨q4, hf⟩ := m_chkE hf
        obtain ⟨-, hf⟩ := m_chkE hf
        obtain ⟨v5, e5, hf⟩ := m_bndE hf
        rcases m_ifE hf with ⟨-, hf⟩ | ⟨-, hf⟩
        ·
          exact fra_t h_S (fa_X0_pawnAttacks_80  hf) (fun _ h => h)
        ·
          exact fra_t h_S (fa_X0_pawnAttacks_57  hf) (fun _ h => h)
    ·
      exact fra_t h_S (fa_X0_pawnAttacks_34  hf) (fun _ h => h)
theorem fa_X0_pawnAttacks_0 {o : Int32 × ZS} {x0 : Nat} {x1 : Int32} {x2 : Int32} {S : ZS}  (hf : f_X0_pawnAttacks_0 x0 x1 x2 S = some o) : FrA [] S o.2 := by
  have h_S : FrA [] S S := fra_0
  unfold f_X0_pawnAttacks_0 at hf
  obtain ⟨v1, e1, hf⟩ := m_bndE hf
  obtain ⟨v2, e2, hf⟩ := m_bndE hf
  rcases m_ifE hf with ⟨-, hf⟩ | ⟨-, hf⟩
  ·
    exact fra_t h_S (fa_X0_pawnAttacks_19  hf) (fun _ h => h)
  ·
    exact fra_t h_S (fa_X0_pawnAttacks_19  hf) (fun _ h => h)
theorem fa_X0_pawnAttacks {o : Int32 × ZS} {x0 : Nat} {x1 : Int32} {x2 : Int32} {S : ZS}  (hf : f_X0_pawnAttacks x0 x1 x2 S = some o) : FrA [] S o.2 := by
  have h_S : FrA [] S S := fra_0
  unfold f_X0_pawnAttacks at hf
  exact fra_t h_S (fa_X0_pawnAttacks_0  hf) (fun _ h => h)
theorem fa_X0_rightsOf_0 {o : Int32 × ZS} {x0 : Int32} {S : ZS}  (hf : f_X0_rightsOf_0 x0 S = some o) : FrA [] S o.2 := by
  have h_S : FrA [] S S := fra_0
  unfold f_X0_rightsOf_0 at hf
  rcases m_ifE hf with ⟨-, hf⟩ | ⟨-, hf⟩
  ·
    cases hf
    exact h_S
  ·
    rcases m_ifE hf with ⟨-, hf⟩ | ⟨-, hf⟩
    ·
      cases hf
      exact h_S
    ·
      rcases m_ifE hf with ⟨-, hf⟩ | ⟨-, hf⟩
      ·
        cases hf
        exact h_S
      ·
        rcases m_ifE hf with ⟨-, hf⟩ | ⟨-, hf⟩
        ·
          cases hf
          exact h_S
        ·
          rcases m_ifE hf with ⟨-, hf⟩ | ⟨-, hf⟩
          ·
            cases hf
            exact h_S
          ·
            rcases m_ifE hf with ⟨-, hf⟩ | ⟨-, hf⟩
            ·
              cases hf
              exact h_S
            ·
              cases hf
              exact h_S
theorem fa_X0_rightsOf {o : Int32 × ZS} {x0 : Int32} {S : ZS}  (hf : f_X0_rightsOf x0 S = some o) : FrA [] S o.2 := by
  have h_S : FrA [] S S := fra_0
  unfold f_X0_rightsOf at hf
  exact fra_t h_S (fa_X0_rightsOf_0  hf) (fun _ h => h)
theorem fa_X0_play_227 {o : Int32 × ZS} {x0 : Nat} {S : ZS}  (hf : f_X0_play_227 x0 S = some o) : FrA [14] S o.2 := by
  have h_S : FrA [14] S S := fra_0
  unfold f_X0_play_227 at hf
  obtain ⟨-, hf⟩ := m_chkE hf
  obtain ⟨-, hf⟩ := m_chkE hf
  obtain ⟨v1, e1, hf⟩ := m_bndE hf
  obtain ⟨-, hf⟩ := m_chkE hf
  obtain ⟨S2, e2, hf⟩ := m_bndE hf
  have h_S2 := fra_I h_S e2
  obtain ⟨-, hf⟩ := m_chkE hf
  obtain ⟨v3, e3, hf⟩ := m_bndE hf
  obtain ⟨-, hf⟩ := m_chkE hf
  obtain ⟨S4, e4, hf⟩ := m_bndE hf
  have h_S4 := fra_I h_S2 e4
  cases hf
  exact h_S4
theorem fa_X0_play_200 {o : Int32 × ZS} {x0 : Nat} {x2 : Int32} {x3 : Int32} {S : ZS}  (hf : f_X0_play_200 x0 x2 x3 S = some o) : FrA [14] S o.2 := by
  have h_S : FrA [14] S S := fra_0
  unfold f_X0_play_200 at hf
  obtain ⟨v1, e1, hf⟩ := m_bndE hf
  obtain ⟨v2, e2, hf⟩ := m_bndE hf
  obtain ⟨-, hf⟩ := m_chkE hf
  obtain ⟨v3, e3, hf⟩ := m_bndE hf
  obtain ⟨-, hf⟩ := m_chkE hf
  obtain ⟨o4, ho, hf⟩ := m_calE hf
  have h_o4 := fra_t h_S (fa_X0_pawnAttacks ho) (by decide)
  clear ho
  rcases m_ifE hf with ⟨-, hf⟩ | ⟨-, hf⟩
  ·
    exact fra_t h_o4 (fa_X0_play_227  hf) (fun _ h => h)
  ·
    obtain ⟨v5, e4, hf⟩ := m_bndE hf
    obtain ⟨v6, e5, hf⟩ := m_bndE hf
    obtain ⟨-, hf⟩ := m_chkE hf
    obtain ⟨S7, e6, hf⟩ := m_bndE hf
    have h_S7 := fra_I h_o4 e6
    exact fra_t h_S7 (fa_X0_play_227  hf) (fun _ h => h)
theorem fa_X0_play_144 {o : Int32 × ZS} {x0 : Nat} {x2 : Int32} {x3 : Int32} {x5 : Int32} {t0 : Int32} {t1 : Int32} {t2 : Nat} {S : ZS}  (hf : f_X0_play_144 x0 x2 x3 x5 t0 t1 t2 S = some o) : FrA [14] S o.2 := by
  have h_S : FrA [14] S S := fra_0
  unfold f_X0_play_144 at hf
  obtain ⟨-, hf⟩ := m_chkE hf
  obtain ⟨o1, ho, hf⟩ := m_calE hf
  have h_o1 := fra_t h_S (fa_X0_put ho) (by decide)
  clear ho
  obtain ⟨-, hf⟩ := m_chkE hf
  obtain ⟨b2, -, hf⟩ := m_calE hf
  obtain ⟨q1, hf⟩ := m_chkE hf
  obtain ⟨-, hf⟩ := m_chkE hf
  obtain ⟨S3, e2, hf⟩ := m_bndE hf
  have h_S3 := fra_A h_o1 q1 e2 (by decide)
  obtain ⟨-, hf⟩ := m_chkE hf
  obtain ⟨o4, ho, hf⟩ := m_calE hf
  have h_o4 := fra_t h_S3 (fa_X0_rightsOf ho) (by decide)
  clear ho
  obtain ⟨o5, ho, hf⟩ := m_calE hf
  have h_o5 := fra_t h_o4 (fa_X0_rightsOf ho) (by decide)
  clear ho
  obtain ⟨v6, e3, hf⟩ := m_bndE hf
  obtain ⟨v7, e4, hf⟩ := m_bndE hf
  obtain ⟨v8, e5, hf⟩ := m_bndE hf
  obtain ⟨-, hf⟩ := m_chkE hf
  obtain ⟨S9, e6, hf⟩ := m_bndE hf
  have h_S9 := fra_I h_o5 e6
  obtain ⟨-, hf⟩ := m_chkE hf
  obtain ⟨S10, e7, hf⟩ := m_bndE hf
  have h_S10 := fra_I h_S9 e7
  rcases m_ifE hf with ⟨-, hf⟩ | ⟨-, hf⟩
  ·
    exact fra_t h_S10 (fa_X0_play_227  hf) (fun _ h => h)
  ·
    obtain ⟨v11, e8, hf⟩ := m_bndE hf
    rcases m_ifE hf with ⟨-, hf⟩ | ⟨-, hf⟩
    ·
      exact fra_t h_S10 (fa_X0_play_200  hf) (fun _ h => h)
    ·
      obtain ⟨v12, e9, hf⟩ := m_bndE hf
      rcases m_ifE hf with ⟨-, hf⟩ | ⟨-, hf⟩
      ·
        exact fra_t h_S10 (fa_X0_play_200  hf) (fun _ h => h)
      ·
        exact fra_t h_S10 (fa_X0_play_227  hf) (fun _ h => h)
theorem fa_X0_play_118 {o : Int32 × ZS} {x0 : Nat} {x2 : Int32} {x3 : Int32} {x4 : Int32} {x5 : Int32} {S : ZS}  (hf : f_X0_play_118 x0 x2 x3 x4 x5 S = some o) : FrA [14] S o.2 := by
  have h_S : FrA [14] S S := fra_0
  unfold f_X0_play_118 at hf
  rcases m_ifE hf with ⟨-, hf⟩ | ⟨-, hf⟩
  ·
    obtain ⟨-, hf⟩ := m_chkE hf
    obtain ⟨b3, -, hf⟩ := m_calE hf
    obtain ⟨q1, hf⟩ := m_chkE hf
    obtain ⟨-, hf⟩ := m_chkE hf
    obtain ⟨v4, e2, hf⟩ := m_bndE hf
    exact fra_t h_S (fa_X0_play_144  hf) (fun _ h => h)
  ·
    obtain ⟨-, hf⟩ := m_chkE hf
    obtain ⟨v1, e3, hf⟩ := m_bndE hf
    obtain ⟨v2, e4, hf⟩ := m_bndE hf
    exact fra_t h_S (fa_X0_play_144  hf) (fun _ h => h)
theorem fa_X0_play_91 {o : Int32 × ZS} {x0 : Nat} {x2 : Int32} {x3 : Int32} {x4 : Int32} {x5 : Int32} {t0 : Int32} {S : ZS}  (hf : f_X0_play_91 x0 x2 x3 x4 x5 t0 S = some o) : FrA [14] S o.2 := by
  have h_S : FrA [14] S S := fra_0
  unfold f_X0_play_91 at hf
  obtain ⟨-, hf⟩ := m_chkE hf
  obtain ⟨b1, -, hf⟩ := m_calE hf
  obtain ⟨v2, e1, hf⟩ := m_bndE hf
  obtain ⟨v3, e2, hf⟩ := m_bndE hf
  obtain ⟨-, hf⟩ := m_chkE hf
  obtain ⟨b4, -, hf⟩ := m_calE hf
  obtain ⟨q3, hf⟩ := m_chkE hf
  obtain ⟨-, hf⟩ := m_chkE hf
  obtain ⟨v5, e4, hf⟩ := m_bndE hf
  obtain ⟨q5, hf⟩ := m_chkE hf
  obtain ⟨-, hf⟩ := m_chkE hf
  obtain ⟨S6, e6, hf⟩ := m_bndE hf
  have h_S6 := fra_A h_S q5 e6 (by decide)
  obtain ⟨-, hf⟩ := m_chkE hf
  obtain ⟨b7, -, hf⟩ := m_calE hf
  obtain ⟨q7, hf⟩ := m_chkE hf
  obtain ⟨-, hf⟩ := m_chkE hf
  obtain ⟨S8, e8, hf⟩ := m_bndE hf
  have h_S8 := fra_A h_S6 q7 e8 (by decide)
  exact fra_t h_S8 (fa_X0_play_118  hf) (fun _ h => h)
theorem fa_X0_play_66 {o : Int32 × ZS} {x0 : Nat} {x2 : Int32} {x3 : Int32} {x4 : Int32} {x5 : Int32} {S : ZS}  (hf : f_X0_play_66 x0 x2 x3 x4 x5 S = some o) : FrA [14] S o.2 := by
  have h_S : FrA [14] S S := fra_0
  unfold f_X0_play_66 at hf
  obtain ⟨-, hf⟩ := m_chkE hf
  obtain ⟨o1, ho, hf⟩ := m_calE hf
  have h_o1 := fra_t h_S (fa_X0_castles ho) (by decide)
  clear ho
  rcases m_ifE hf with ⟨-, hf⟩ | ⟨-, hf⟩
  ·
    exact fra_t h_o1 (fa_X0_play_118  hf) (fun _ h => h)
  ·
    rcases m_ifE hf with ⟨-, hf⟩ | ⟨-, hf⟩
    ·
      obtain ⟨v2, e1, hf⟩ := m_bndE hf
      exact fra_t h_o1 (fa_X0_play_91  hf) (fun _ h => h)
    ·
      obtain ⟨v3, e2, hf⟩ := m_bndE hf
      exact fra_t h_o1 (fa_X0_play_91  hf) (fun _ h => h)
theorem fa_X0_play_36 {o : Int32 × ZS} {x0 : Nat} {x2 : Int32} {x3 : Int32} {x4 : Int32} {t0 : Int32} {S : ZS}  (hf : f_X0_play_36 x0 x2 x3 x4 t0 S = some o) : FrA [14] S o.2 := by
  have h_S : FrA [14] S S := fra_0
  unfold f_X0_play_36 at hf
  rcases m_ifE hf with ⟨-, hf⟩ | ⟨-, hf⟩
  ·
    exact fra_t h_S (fa_X0_play_66  hf) (fun _ h => h)
  ·
    obtain ⟨-, hf⟩ := m_chkE hf
    rcases m_ifE hf with ⟨-, hf⟩ | ⟨-, hf⟩
    ·
      obtain ⟨-, hf⟩ := m_chkE hf
      obtain ⟨b1, -, hf⟩ := m_calE hf
      obtain ⟨v2, e1, hf⟩ := m_bndE hf
      obtain ⟨v3, e2, hf⟩ := m_bndE hf
      obtain ⟨v4, e3, hf⟩ := m_bndE hf
      obtain ⟨q4, hf⟩ := m_chkE hf
      obtain ⟨-, hf⟩ := m_chkE hf
      obtain ⟨S5, e5, hf⟩ := m_bndE hf
      have h_S5 := fra_A h_S q4 e5 (by decide)
      exact fra_t h_S5 (fa_X0_play_66  hf) (fun _ h => h)
    ·
      exact fra_t h_S (fa_X0_play_66  hf) (fun _ h => h)
theorem fa_X0_play_0 {o : Int32 × ZS} {x0 : Nat} {x1 : Int32} {S : ZS}  (hf : f_X0_play_0 x0 x1 S = some o) : FrA [14] S o.2 := by
  have h_S : FrA [14] S S := fra_0
  unfold f_X0_play_0 at hf
  obtain ⟨v1, e1, hf⟩ := m_bndE hf
  obtain ⟨v2, e2, hf⟩ := m_bndE hf
  obtain ⟨v3, e3, hf⟩ := m_bndE hf
  obtain ⟨v4, e4, hf⟩ := m_bndE hf
  obtain ⟨v5, e5, hf⟩ := m_bndE hf
  obtain ⟨-, hf⟩ := m_chkE hf
  obtain ⟨o6, ho, hf⟩ := m_calE hf
  have h_o6 := fra_t h_S (fa_X0_kindAt ho) (by decide)
  clear ho
  rcases m_ifE hf with ⟨-, hf⟩ | ⟨-, hf⟩
  ·
    exact fra_t h_o6 (fa_X0_play_36  hf) (fun _ h => h)
  ·
    exact fra_t h_o6 (fa_X0_play_36  hf) (fun _ h => h)
theorem fa_X0_play {o : Int32 × ZS} {x0 : Nat} {x1 : Int32} {S : ZS}  (hf : f_X0_play x0 x1 S = some o) : FrA [14] S o.2 := by
  have h_S : FrA [14] S S := fra_0
  unfold f_X0_play at hf
  exact fra_t h_S (fa_X0_play_0  hf) (fun _ h => h)
theorem fa_X6_init_0 {o : Int32 × ZS} {x0 : Nat} {S : ZS}  (hf : f_X6_init_0 x0 S = some o) : FrA [] S o.2 := by
  have h_S : FrA [] S S := fra_0
  unfold f_X6_init_0 at hf
  obtain ⟨-, hf⟩ := m_chkE hf
  obtain ⟨S1, e1, hf⟩ := m_bndE hf
  have h_S1 := fra_P h_S e1
  obtain ⟨-, hf⟩ := m_chkE hf
  obtain ⟨S2, e2, hf⟩ := m_bndE hf
  have h_S2 := fra_I h_S1 e2
  cases hf
  exact h_S2
theorem fa_X6_init {o : Int32 × ZS} {x0 : Nat} {S : ZS}  (hf : f_X6_init x0 S = some o) : FrA [] S o.2 := by
  have h_S : FrA [] S S := fra_0
  unfold f_X6_init at hf
  exact fra_t h_S (fa_X6_init_0  hf) (fun _ h => h)
theorem fa_X6_keep_17 {o : Int32 × ZS} {S : ZS}  (hf : f_X6_keep_17 S = some o) : FrA [] S o.2 := by
  have h_S : FrA [] S S := fra_0
  unfold f_X6_keep_17 at hf
  cases hf
  exact h_S
theorem fa_X6_keep_0 {o : Int32 × ZS} {x0 : Nat} {x1 : Int32} {S : ZS}  (hf : f_X6_keep_0 x0 x1 S = some o) : FrA [] S o.2 := by
  have h_S : FrA [] S S := fra_0
  unfold f_X6_keep_0 at hf
  rcases m_ifE hf with ⟨-, hf⟩ | ⟨-, hf⟩
  ·
    exact fra_t h_S (fa_X6_keep_17  hf) (fun _ h => h)
  ·
    obtain ⟨-, hf⟩ := m_chkE hf
    rcases m_ifE hf with ⟨-, hf⟩ | ⟨-, hf⟩
    ·
      exact fra_t h_S (fa_X6_keep_17  hf) (fun _ h => h)
    ·
      obtain ⟨-, hf⟩ := m_chkE hf
      obtain ⟨S1, e1, hf⟩ := m_bndE hf
      have h_S1 := fra_I h_S e1
      exact fra_t h_S1 (fa_X6_keep_17  hf) (fun _ h => h)
theorem fa_X6_keep {o : Int32 × ZS} {x0 : Nat} {x1 : Int32} {S : ZS}  (hf : f_X6_keep x0 x1 S = some o) : FrA [] S o.2 := by
  have h_S : FrA [] S S := fra_0
  unfold f_X6_keep at hf
  exact fra_t h_S (fa_X6_keep_0  hf) (fun _ h => h)
theorem fa_X4_become_0 {o : Int32 × ZS} {x0 : Nat} {x1 : Int32} {x2 : Int32} {S : ZS}  (hf : f_X4_become_0 x0 x1 x2 S = some o) : FrA [] S o.2 := by
  have h_S : FrA [] S S := fra_0
  unfold f_X4_become_0 at hf
  obtain ⟨-, hf⟩ := m_chkE hf
  obtain ⟨S1, e1, hf⟩ := m_bndE hf
  have h_S1 := fra_I h_S e1
  obtain ⟨-, hf⟩ := m_chkE hf
  obtain ⟨S2, e2, hf⟩ := m_bndE hf
  have h_S2 := fra_I h_S1 e2
  obtain ⟨-, hf⟩ := m_chkE hf
  obtain ⟨S3, e3, hf⟩ := m_bndE hf
  have h_S3 := fra_I h_S2 e3
  obtain ⟨-, hf⟩ := m_chkE hf
  obtain ⟨S4, e4, hf⟩ := m_bndE hf
  have h_S4 := fra_I h_S3 e4
  obtain ⟨-, hf⟩ := m_chkE hf
  obtain ⟨S5, e5, hf⟩ := m_bndE hf
  have h_S5 := fra_I h_S4 e5
  obtain ⟨-, hf⟩ := m_chkE hf
  obtain ⟨S6, e6, hf⟩ := m_bndE hf
  have h_S6 := fra_I h_S5 e6
  obtain ⟨-, hf⟩ := m_chkE hf
  obtain ⟨b7, -, hf⟩ := m_calE hf
  obtain ⟨-, hf⟩ := m_chkE hf
  obtain ⟨o8, ho, hf⟩ := m_calE hf
  have h_o8 := fra_t h_S6 (fa_X6_keep ho) (by decide)
  clear ho
  cases hf
  exact h_o8
theorem fa_X4_become {o : Int32 × ZS} {x0 : Nat} {x1 : Int32} {x2 : Int32} {S : ZS}  (hf : f_X4_become x0 x1 x2 S = some o) : FrA [] S o.2 := by
  have h_S : FrA [] S S := fra_0
  unfold f_X4_become at hf
  exact fra_t h_S (fa_X4_become_0  hf) (fun _ h => h)
theorem fa_X1_wipe_0 {o : Int32 × ZS} {x0 : Nat} {S : ZS}  (hf : f_X1_wipe_0 x0 S = some o) : FrA [14] S o.2 := by
  have h_S : FrA [14] S S := fra_0
  unfold f_X1_wipe_0 at hf
  obtain ⟨-, hf⟩ := m_chkE hf
  obtain ⟨b1, -, hf⟩ := m_calE hf
  obtain ⟨-, hf⟩ := m_chkE hf
  obtain ⟨o2, ho, hf⟩ := m_calE hf
  have h_o2 := fra_t h_S (fa_X0_setUp ho) (by decide)
  clear ho
  obtain ⟨-, hf⟩ := m_chkE hf
  obtain ⟨b3, -, hf⟩ := m_calE hf
  obtain ⟨-, hf⟩ := m_chkE hf
  obtain ⟨o4, ho, hf⟩ := m_calE hf
  have h_o4 := fra_t h_o2 (fa_X4_become ho) (by decide)
  clear ho
  obtain ⟨-, hf⟩ := m_chkE hf
  obtain ⟨S5, e1, hf⟩ := m_bndE hf
  have h_S5 := fra_I h_o4 e1
  obtain ⟨-, hf⟩ := m_chkE hf
  obtain ⟨S6, e2, hf⟩ := m_bndE hf
  have h_S6 := fra_I h_S5 e2
  obtain ⟨-, hf⟩ := m_chkE hf
  obtain ⟨S7, e3, hf⟩ := m_bndE hf
  have h_S7 := fra_I h_S6 e3
  cases hf
  exact h_S7
theorem fa_X1_wipe {o : Int32 × ZS} {x0 : Nat} {S : ZS}  (hf : f_X1_wipe x0 S = some o) : FrA [14] S o.2 := by
  have h_S : FrA [14] S S := fra_0
  unfold f_X1_wipe at hf
  exact fra_t h_S (fa_X1_wipe_0  hf) (fun _ h => h)
theorem fa_X1_has_17 {o : Int32 × ZS} {t0 : Int32} {S : ZS}  (hf : f_X1_has_17 t0 S = some o) : FrA [] S o.2 := by
  have h_S : FrA [] S S := fra_0
  unfold f_X1_has_17 at hf
  obtain ⟨-, hf⟩ := m_chkE hf
  cases hf
  exact h_S
theorem fa_X1_has_16 {o : Int32 × ZS} {S : ZS}  (hf : f_X1_has_16 S = some o) : FrA [] S o.2 := by
  have h_S : FrA [] S S := fra_0
  unfold f_X1_has_16 at hf
  exact fra_t h_S (fa_X1_has_17  hf) (fun _ h => h)
theorem fa_X1_has_0 {o : Int32 × ZS} {x0 : Nat} {x1 : Int32} {S : ZS}  (hf : f_X1_has_0 x0 x1 S = some o) : FrA [] S o.2 := by
  have h_S : FrA [] S S := fra_0
  unfold f_X1_has_0 at hf
  rcases m_ifE hf with ⟨-, hf⟩ | ⟨-, hf⟩
  ·
    exact fra_t h_S (fa_X1_has_16  hf) (fun _ h => h)
  ·
    obtain ⟨-, hf⟩ := m_chkE hf
    rcases m_ifE hf with ⟨-, hf⟩ | ⟨-, hf⟩
    ·
      exact fra_t h_S (fa_X1_has_16  hf) (fun _ h => h)
    ·
      exact fra_t h_S (fa_X1_has_17  hf) (fun _ h => h)
theorem fa_X1_has {o : Int32 × ZS} {x0 : Nat} {x1 : Int32} {S : ZS}  (hf : f_X1_has x0 x1 S = some o) : FrA [] S o.2 := by
  have h_S : FrA [] S S := fra_0
  unfold f_X1_has at hf
  exact fra_t h_S (fa_X1_has_0  hf) (fun _ h => h)
theorem fa_X1_at_35 {o : Nat × ZS} {t0 : Option Nat} {S : ZS}  (hf : f_X1_at_35 t0 S = some o) : FrA [] S o.2 := by
  have h_S : FrA [] S S := fra_0
  unfold f_X1_at_35 at hf
  obtain ⟨b1, -, hf⟩ := m_calE hf
  cases hf
  exact h_S
theorem fa_X1_at_22 {o : Nat × ZS} {x0 : Nat} {t0 : Option Nat} {S : ZS}  (hf : f_X1_at_22 x0 t0 S = some o) : FrA [] S o.2 := by
  have h_S : FrA [] S S := fra_0
  unfold f_X1_at_22 at hf
  rcases m_optE hf with ⟨-, hf⟩ | ⟨b1, -, hf⟩
  ·
    obtain ⟨-, hf⟩ := m_chkE hf
    obtain ⟨b2, -, hf⟩ := m_calE hf
    exact fra_t h_S (fa_X1_at_35  hf) (fun _ h => h)
  ·
    exact fra_t h_S (fa_X1_at_35  hf) (fun _ h => h)
theorem fa_X1_at_21 {o : Nat × ZS} {x0 : Nat} {S : ZS}  (hf : f_X1_at_21 x0 S = some o) : FrA [] S o.2 := by
  have h_S : FrA [] S S := fra_0
  unfold f_X1_at_21 at hf
  exact fra_t h_S (fa_X1_at_22  hf) (fun _ h => h)
theorem fa_X1_at_0 {o : Nat × ZS} {x0 : Nat} {x1 : Int32} {S : ZS}  (hf : f_X1_at_0 x0 x1 S = some o) : FrA [] S o.2 := by
  have h_S : FrA [] S S := fra_0
  unfold f_X1_at_0 at hf
  rcases m_ifE hf with ⟨-, hf⟩ | ⟨-, hf⟩
  ·
    exact fra_t h_S (fa_X1_at_21  hf) (fun _ h => h)
  ·
    obtain ⟨-, hf⟩ := m_chkE hf
    rcases m_ifE hf with ⟨-, hf⟩ | ⟨-, hf⟩
    ·
      exact fra_t h_S (fa_X1_at_21  hf) (fun _ h => h)
    ·
      obtain ⟨-, hf⟩ := m_chkE hf
      obtain ⟨b1, -, hf⟩ := m_calE hf
      obtain ⟨-, hf⟩ := m_chkE hf
      obtain ⟨-, hf⟩ := m_chkE hf
      obtain ⟨v2, e1, hf⟩ := m_bndE hf
      exact fra_t h_S (fa_X1_at_22  hf) (fun _ h => h)
theorem fa_X1_at {o : Nat × ZS} {x0 : Nat} {x1 : Int32} {S : ZS}  (hf : f_X1_at x0 x1 S = some o) : FrA [] S o.2 := by
  have h_S : FrA [] S S := fra_0
  unfold f_X1_at at hf
  exact fra_t h_S (fa_X1_at_0  hf) (fun _ h => h)
theorem fa_X1_childWith_52 {o : Int32 × ZS} {x3 : Int32} {S : ZS}  (hf : f_X1_childWith_52 x3 S = some o) : FrA [] S o.2 := by
  have h_S : FrA [] S S := fra_0
  unfold f_X1_childWith_52 at hf
  cases hf
  exact h_S
theorem fa_X1_childWith_12s {o : Int32 × ZS} {self12 : Nat → Int32 → Int32 → Int32 → ZS → Option (Int32 × ZS)} {x0 : Nat} {x2 : Int32} {x3 : Int32} {x4 : Int32} {S : ZS} (hself12 : ∀ (z0 : Nat) (z1 : Int32) (z2 : Int32) (z3 : Int32) (S : ZS) (o : Int32 × ZS), self12 z0 z1 z2 z3 S = some o → FrA [] S o.2) (hf : f_X1_childWith_12s self12 x0 x2 x3 x4 S = some o) : FrA [] S o.2 := by
  have h_S : FrA [] S S := fra_0
  unfold f_X1_childWith_12s at hf
  rcases m_ifE hf with ⟨-, hf⟩ | ⟨-, hf⟩
  ·
    exact fra_t h_S (fa_X1_childWith_52  hf) (fun _ h => h)
  ·
    rcases m_ifE hf with ⟨-, hf⟩ | ⟨-, hf⟩
    ·
      exact fra_t h_S (fa_X1_childWith_52  hf) (fun _ h => h)
    ·
      obtain ⟨-, hf⟩ := m_chkE hf
      obtain ⟨o1, ho, hf⟩ := m_calE hf
      have h_o1 := fra_t h_S (fa_X1_at ho) (by decide)
      clear ho
      obtain ⟨-, hf⟩ := m_chkE hf
      rcases m_ifE hf with ⟨-, hf⟩ | ⟨-, hf⟩
      ·
        exact fra_t h_o1 (fa_X1_childWith_52  hf) (fun _ h => h)
      ·
        obtain ⟨-, hf⟩ := m_chkE hf
        obtain ⟨o2, ho, hf⟩ := m_calE hf
        have h_o2 := fra_t h_o1 (fa_X1_at ho) (by decide)
        clear ho
        obtain ⟨-, hf⟩ := m_chkE hf
        obtain ⟨v3, e1, hf⟩ := m_bndE hf
        exact fra_t h_o2 (hself12 _ _ _ _ _ _ hf) (fun _ h => h)
theorem fa_X1_childWith_12   (n : Nat) : ∀ (y0 : Nat) (y1 : Int32) (y2 : Int32) (y3 : Int32) (S : ZS) (o : Int32 × ZS), f_X1_childWith_12  n y0 y1 y2 y3 S = some o → FrA [] S o.2 := by
  induction n with
  | zero => intro y0 y1 y2 y3 S o hf; cases hf
  | succ n ih => intro y0 y1 y2 y3 S o hf; exact fa_X1_childWith_12s  ih hf
theorem fa_X1_childWith_0 {o : Int32 × ZS} {x0 : Nat} {x1 : Int32} {x2 : Int32} {S : ZS}  (hf : f_X1_childWith_0 x0 x1 x2 S = some o) : FrA [] S o.2 := by
  have h_S : FrA [] S S := fra_0
  unfold f_X1_childWith_0 at hf
  obtain ⟨-, hf⟩ := m_chkE hf
  obtain ⟨o1, ho, hf⟩ := m_calE hf
  have h_o1 := fra_t h_S (fa_X1_at ho) (by decide)
  clear ho
  obtain ⟨-, hf⟩ := m_chkE hf
  exact fra_t h_o1 (fa_X1_childWith_12  _ _ _ _ _ _ _ hf) (fun _ h => h)
theorem fa_X1_childWith {o : Int32 × ZS} {x0 : Nat} {x1 : Int32} {x2 : Int32} {S : ZS}  (hf : f_X1_childWith x0 x1 x2 S = some o) : FrA [] S o.2 := by
  have h_S : FrA [] S S := fra_0
  unfold f_X1_childWith at hf
  exact fra_t h_S (fa_X1_childWith_0  hf) (fun _ h => h)
theorem fa_X1_goesOn_24 {o : Int32 × ZS} {t0 : Int32} {S : ZS}  (hf : f_X1_goesOn_24 t0 S = some o) : FrA [] S o.2 := by
  have h_S : FrA [] S S := fra_0
  unfold f_X1_goesOn_24 at hf
  obtain ⟨-, hf⟩ := m_chkE hf
  cases hf
  exact h_S
theorem fa_X1_goesOn_0 {o : Int32 × ZS} {x0 : Nat} {x1 : Int32} {S : ZS}  (hf : f_X1_goesOn_0 x0 x1 S = some o) : FrA [] S o.2 := by
  have h_S : FrA [] S S := fra_0
  unfold f_X1_goesOn_0 at hf
  obtain ⟨-, hf⟩ := m_chkE hf
  obtain ⟨o1, ho, hf⟩ := m_calE hf
  have h_o1 := fra_t h_S (fa_X1_at ho) (by decide)
  clear ho
  obtain ⟨-, hf⟩ := m_chkE hf
  obtain ⟨-, hf⟩ := m_chkE hf
  obtain ⟨o2, ho, hf⟩ := m_calE hf
  have h_o2 := fra_t h_o1 (fa_X1_at ho) (by decide)
  clear ho
  obtain ⟨-, hf⟩ := m_chkE hf
  rcases m_ifE hf with ⟨-, hf⟩ | ⟨-, hf⟩
  ·
    exact fra_t h_o2 (fa_X1_goesOn_24  hf) (fun _ h => h)
  ·
    exact fra_t h_o2 (fa_X1_goesOn_24  hf) (fun _ h => h)
theorem fa_X1_goesOn {o : Int32 × ZS} {x0 : Nat} {x1 : Int32} {S : ZS}  (hf : f_X1_goesOn x0 x1 S = some o) : FrA [] S o.2 := by
  have h_S : FrA [] S S := fra_0
  unfold f_X1_goesOn at hf
  exact fra_t h_S (fa_X1_goesOn_0  hf) (fun _ h => h)
theorem fa_X1_deepOfNext_66 {o : Int32 × ZS} {x2 : Int32} {S : ZS}  (hf : f_X1_deepOfNext_66 x2 S = some o) : FrA [] S o.2 := by
  have h_S : FrA [] S S := fra_0
  unfold f_X1_deepOfNext_66 at hf
  cases hf
  exact h_S
theorem fa_X1_deepOfNext_49 {o : Int32 × ZS} {self23 : Nat → Int32 → Int32 → Int32 → ZS → Option (Int32 × ZS)} {x0 : Nat} {x3 : Int32} {x4 : Int32} {t0 : Int32} {t1 : Int32} {S : ZS} (hself23 : ∀ (z0 : Nat) (z1 : Int32) (z2 : Int32) (z3 : Int32) (S : ZS) (o : Int32 × ZS), self23 z0 z1 z2 z3 S = some o → FrA [] S o.2) (hf : f_X1_deepOfNext_49 self23 x0 x3 x4 t0 t1 S = some o) : FrA [] S o.2 := by
  have h_S : FrA [] S S := fra_0
  unfold f_X1_deepOfNext_49 at hf
  obtain ⟨v1, e1, hf⟩ := m_bndE hf
  obtain ⟨-, hf⟩ := m_chkE hf
  obtain ⟨o2, ho, hf⟩ := m_calE hf
  have h_o2 := fra_t h_S (fa_X1_at ho) (by decide)
  clear ho
  obtain ⟨-, hf⟩ := m_chkE hf
  obtain ⟨v3, e2, hf⟩ := m_bndE hf
  exact fra_t h_o2 (hself23 _ _ _ _ _ _ hf) (fun _ h => h)
theorem fa_X1_deepOfNext_23s {o : Int32 × ZS} {self23 : Nat → Int32 → Int32 → Int32 → ZS → Option (Int32 × ZS)} {x0 : Nat} {x2 : Int32} {x3 : Int32} {x4 : Int32} {S : ZS} (hself23 : ∀ (z0 : Nat) (z1 : Int32) (z2 : Int32) (z3 : Int32) (S : ZS) (o : Int32 × ZS), self23 z0 z1 z2 z3 S = some o → FrA [] S o.2) (hf : f_X1_deepOfNext_23s self23 x0 x2 x3 x4 S = some o) : FrA [] S o.2 := by
  have h_S : FrA [] S S := fra_0
  unfold f_X1_deepOfNext_23s at hf
  rcases m_ifE hf with ⟨-, hf⟩ | ⟨-, hf⟩
  ·
    exact fra_t h_S (fa_X1_deepOfNext_66  hf) (fun _ h => h)
  ·
    rcases m_ifE hf with ⟨-, hf⟩ | ⟨-, hf⟩
    ·
      exact fra_t h_S (fa_X1_deepOfNext_66  hf) (fun _ h => h)
    ·
      obtain ⟨-, hf⟩ := m_chkE hf
      obtain ⟨o1, ho, hf⟩ := m_calE hf
      have h_o1 := fra_t h_S (fa_X1_goesOn ho) (by decide)
      clear ho
      rcases m_ifE hf with ⟨-, hf⟩ | ⟨-, hf⟩
      ·
        exact fra_t h_o1 (fa_X1_deepOfNext_49 hself23 hf) (fun _ h => h)
      ·
        exact fra_t h_o1 (fa_X1_deepOfNext_49 hself23 hf) (fun _ h => h)
theorem fa_X1_deepOfNext_23   (n : Nat) : ∀ (y0 : Nat) (y1 : Int32) (y2 : Int32) (y3 : Int32) (S : ZS) (o : Int32 × ZS), f_X1_deepOfNext_23  n y0 y1 y2 y3 S = some o → FrA [] S o.2 := by
  induction n with
  | zero => intro y0 y1 y2 y3 S o hf; cases hf
  | succ n ih => intro y0 y1 y2 y3 S o hf; exact fa_X1_deepOfNext_23s  ih hf
theorem fa_X1_deepOfNext_17 {o : Int32 × ZS} {x0 : Nat} {x1 : Int32} {t0 : Int32} {S : ZS}  (hf : f_X1_deepOfNext_17 x0 x1 t0 S = some o) : FrA [] S o.2 := by
  have h_S : FrA [] S S := fra_0
  unfold f_X1_deepOfNext_17 at hf
  exact fra_t h_S (fa_X1_deepOfNext_23  _ _ _ _ _ _ _ hf) (fun _ h => h)
theorem fa_X1_deepOfNext_0 {o : Int32 × ZS} {x0 : Nat} {x1 : Int32} {S : ZS}  (hf : f_X1_deepOfNext_0 x0 x1 S = some o) : FrA [] S o.2 := by
  have h_S : FrA [] S S := fra_0
  unfold f_X1_deepOfNext_0 at hf
  obtain ⟨-, hf⟩ := m_chkE hf
  obtain ⟨o1, ho, hf⟩ := m_calE hf
  have h_o1 := fra_t h_S (fa_X1_at ho) (by decide)
  clear ho
  obtain ⟨-, hf⟩ := m_chkE hf
  rcases m_ifE hf with ⟨-, hf⟩ | ⟨-, hf⟩
  ·
    exact fra_t h_o1 (fa_X1_deepOfNext_17  hf) (fun _ h => h)
  ·
    exact fra_t h_o1 (fa_X1_deepOfNext_17  hf) (fun _ h => h)
theorem fa_X1_deepOfNext {o : Int32 × ZS} {x0 : Nat} {x1 : Int32} {S : ZS}  (hf : f_X1_deepOfNext x0 x1 S = some o) : FrA [] S o.2 := by
  have h_S : FrA [] S S := fra_0
  unfold f_X1_deepOfNext at hf
  exact fra_t h_S (fa_X1_deepOfNext_0  hf) (fun _ h => h)
theorem fa_X1_mayLead_89 {o : Int32 × ZS} {self11 : Nat → Int32 → Nat → Int32 → ZS → Option (Int32 × ZS)} {x0 : Nat} {x1 : Int32} {x2 : Nat} {x3 : Int32} {t0 : Int32} {t1 : Int32} {t2 : Int32} {t3 : Nat} {S : ZS} (hself11 : ∀ (z0 : Nat) (z1 : Int32) (z2 : Nat) (z3 : Int32) (S : ZS) (o : Int32 × ZS), self11 z0 z1 z2 z3 S = some o → FrA [14] S o.2) (hf : f_X1_mayLead_89 self11 x0 x1 x2 x3 t0 t1 t2 t3 S = some o) : FrA [14] S o.2 := by
  have h_S : FrA [14] S S := fra_0
  unfold f_X1_mayLead_89 at hf
  obtain ⟨v1, e1, hf⟩ := m_bndE hf
  obtain ⟨q2, hf⟩ := m_chkE hf
  obtain ⟨-, hf⟩ := m_chkE hf
  obtain ⟨S2, e3, hf⟩ := m_bndE hf
  have h_S2 := fra_A h_S q2 e3 (by decide)
  obtain ⟨q4, hf⟩ := m_chkE hf
  obtain ⟨-, hf⟩ := m_chkE hf
  obtain ⟨v3, e5, hf⟩ := m_bndE hf
  rcases m_ifE hf with ⟨-, hf⟩ | ⟨-, hf⟩
  ·
    obtain ⟨v4, e6, hf⟩ := m_bndE hf
    exact fra_t h_S2 (hself11 _ _ _ _ _ _ hf) (fun _ h => h)
  ·
    obtain ⟨-, hf⟩ := m_chkE hf
    cases hf
    exact h_S2
theorem fa_X1_mayLead_78 {o : Int32 × ZS} {self11 : Nat → Int32 → Nat → Int32 → ZS → Option (Int32 × ZS)} {x0 : Nat} {x1 : Int32} {x2 : Nat} {x3 : Int32} {x5 : Int32} {t0 : Int32} {t1 : Int32} {t2 : Nat} {S : ZS} (hself11 : ∀ (z0 : Nat) (z1 : Int32) (z2 : Nat) (z3 : Int32) (S : ZS) (o : Int32 × ZS), self11 z0 z1 z2 z3 S = some o → FrA [14] S o.2) (hf : f_X1_mayLead_78 self11 x0 x1 x2 x3 x5 t0 t1 t2 S = some o) : FrA [14] S o.2 := by
  have h_S : FrA [14] S S := fra_0
  unfold f_X1_mayLead_78 at hf
  rcases m_ifE hf with ⟨-, hf⟩ | ⟨-, hf⟩
  ·
    exact fra_t h_S (fa_X1_mayLead_89 hself11 hf) (fun _ h => h)
  ·
    exact fra_t h_S (fa_X1_mayLead_89 hself11 hf) (fun _ h => h)
theorem fa_X1_mayLead_77 {o : Int32 × ZS} {self11 : Nat → Int32 → Nat → Int32 → ZS → Option (Int32 × ZS)} {x0 : Nat} {x1 : Int32} {x2 : Nat} {x3 : Int32} {x5 : Int32} {t0 : Int32} {t1 : Nat} {S : ZS} (hself11 : ∀ (z0 : Nat) (z1 : Int32) (z2 : Nat) (z3 : Int32) (S : ZS) (o : Int32 × ZS), self11 z0 z1 z2 z3 S = some o → FrA [14] S o.2) (hf : f_X1_mayLead_77 self11 x0 x1 x2 x3 x5 t0 t1 S = some o) : FrA [14] S o.2 := by
  have h_S : FrA [14] S S := fra_0
  unfold f_X1_mayLead_77 at hf
  exact fra_t h_S (fa_X1_mayLead_78 hself11 hf) (fun _ h => h)
theorem fa_X1_mayLead_55 {o : Int32 × ZS} {self11 : Nat → Int32 → Nat → Int32 → ZS → Option (Int32 × ZS)} {x0 : Nat} {x1 : Int32} {x2 : Nat} {x3 : Int32} {x4 : Int32} {t0 : Int32} {S : ZS} (hself11 : ∀ (z0 : Nat) (z1 : Int32) (z2 : Nat) (z3 : Int32) (S : ZS) (o : Int32 × ZS), self11 z0 z1 z2 z3 S = some o → FrA [14] S o.2) (hf : f_X1_mayLead_55 self11 x0 x1 x2 x3 x4 t0 S = some o) : FrA [14] S o.2 := by
  have h_S : FrA [14] S S := fra_0
  unfold f_X1_mayLead_55 at hf
  rcases m_ifE hf with ⟨-, hf⟩ | ⟨-, hf⟩
  ·
    exact fra_t h_S (fa_X1_mayLead_77 hself11 hf) (fun _ h => h)
  ·
    rcases m_ifE hf with ⟨-, hf⟩ | ⟨-, hf⟩
    ·
      exact fra_t h_S (fa_X1_mayLead_77 hself11 hf) (fun _ h => h)
    ·
      obtain ⟨q1, hf⟩ := m_chkE hf
      obtain ⟨-, hf⟩ := m_chkE hf
      obtain ⟨v1, e2, hf⟩ := m_bndE hf
      exact fra_t h_S (fa_X1_mayLead_78 hself11 hf) (fun _ h => h)
theorem fa_X1_mayLead_11s {o : Int32 × ZS} {self11 : Nat → Int32 → Nat → Int32 → ZS → Option (Int32 × ZS)} {x0 : Nat} {x1 : Int32} {x2 : Nat} {x3 : Int32} {S : ZS} (hself11 : ∀ (z0 : Nat) (z1 : Int32) (z2 : Nat) (z3 : Int32) (S : ZS) (o : Int32 × ZS), self11 z0 z1 z2 z3 S = some o → FrA [14] S o.2) (hf : f_X1_mayLead_11s self11 x0 x1 x2 x3 S = some o) : FrA [14] S o.2 := by
  have h_S : FrA [14] S S := fra_0
  unfold f_X1_mayLead_11s at hf
  obtain ⟨-, hf⟩ := m_chkE hf
  rcases m_ifE hf with ⟨-, hf⟩ | ⟨-, hf⟩
  ·
    obtain ⟨-, hf⟩ := m_chkE hf
    cases hf
    exact h_S
  ·
    obtain ⟨-, hf⟩ := m_chkE hf
    obtain ⟨o1, ho, hf⟩ := m_calE hf
    have h_o1 := fra_t h_S (fa_X1_at ho) (by decide)
    clear ho
    obtain ⟨-, hf⟩ := m_chkE hf
    obtain ⟨-, hf⟩ := m_chkE hf
    obtain ⟨o2, ho, hf⟩ := m_calE hf
    have h_o2 := fra_t h_o1 (fa_X1_at ho) (by decide)
    clear ho
    obtain ⟨-, hf⟩ := m_chkE hf
    rcases m_ifE hf with ⟨-, hf⟩ | ⟨-, hf⟩
    ·
      exact fra_t h_o2 (fa_X1_mayLead_55 hself11 hf) (fun _ h => h)
    ·
      obtain ⟨-, hf⟩ := m_chkE hf
      obtain ⟨o3, ho, hf⟩ := m_calE hf
      have h_o3 := fra_t h_o2 (fa_X1_at ho) (by decide)
      clear ho
      obtain ⟨-, hf⟩ := m_chkE hf
      exact fra_t h_o3 (fa_X1_mayLead_55 hself11 hf) (fun _ h => h)
theorem fa_X1_mayLead_11   (n : Nat) : ∀ (y0 : Nat) (y1 : Int32) (y2 : Nat) (y3 : Int32) (S : ZS) (o : Int32 × ZS), f_X1_mayLead_11  n y0 y1 y2 y3 S = some o → FrA [14] S o.2 := by
  induction n with
  | zero => intro y0 y1 y2 y3 S o hf; cases hf
  | succ n ih => intro y0 y1 y2 y3 S o hf; exact fa_X1_mayLead_11s  ih hf
theorem fa_X1_mayLead_0 {o : Int32 × ZS} {x0 : Nat} {x1 : Int32} {S : ZS}  (hf : f_X1_mayLead_0 x0 x1 S = some o) : FrA [14] S o.2 := by
  have h_S : FrA [14] S S := fra_0
  unfold f_X1_mayLead_0 at hf
  obtain ⟨-, hf⟩ := m_chkE hf
  obtain ⟨b1, -, hf⟩ := m_calE hf
  obtain ⟨q1, hf⟩ := m_chkE hf
  obtain ⟨-, hf⟩ := m_chkE hf
  obtain ⟨S2, e2, hf⟩ := m_bndE hf
  have h_S2 := fra_A h_S q1 e2 (by decide)
  exact fra_t h_S2 (fa_X1_mayLead_11  _ _ _ _ _ _ _ hf) (fun _ h => h)
theorem fa_X1_mayLead {o : Int32 × ZS} {x0 : Nat} {x1 : Int32} {S : ZS}  (hf : f_X1_mayLead x0 x1 S = some o) : FrA [14] S o.2 := by
  have h_S : FrA [14] S S := fra_0
  unfold f_X1_mayLead at hf
  exact fra_t h_S (fa_X1_mayLead_0  hf) (fun _ h => h)
theorem fa_X1_putFirst_56 {o : Int32 × ZS} {x0 : Nat} {x1 : Int32} {x2 : Nat} {x3 : Int32} {S : ZS}  (hf : f_X1_putFirst_56 x0 x1 x2 x3 S = some o) : FrA [] S o.2 := by
  have h_S : FrA [] S S := fra_0
  unfold f_X1_putFirst_56 at hf
  obtain ⟨-, hf⟩ := m_chkE hf
  obtain ⟨o1, ho, hf⟩ := m_calE hf
  have h_o1 := fra_t h_S (fa_X1_at ho) (by decide)
  clear ho
  obtain ⟨-, hf⟩ := m_chkE hf
  obtain ⟨o2, ho, hf⟩ := m_calE hf
  have h_o2 := fra_t h_o1 (fa_X1_at ho) (by decide)
  clear ho
  obtain ⟨-, hf⟩ := m_chkE hf
  obtain ⟨-, hf⟩ := m_chkE hf
  obtain ⟨S3, e1, hf⟩ := m_bndE hf
  have h_S3 := fra_I h_o2 e1
  obtain ⟨-, hf⟩ := m_chkE hf
  obtain ⟨o4, ho, hf⟩ := m_calE hf
  have h_o4 := fra_t h_S3 (fa_X1_at ho) (by decide)
  clear ho
  obtain ⟨-, hf⟩ := m_chkE hf
  obtain ⟨-, hf⟩ := m_chkE hf
  obtain ⟨S5, e2, hf⟩ := m_bndE hf
  have h_S5 := fra_I h_o4 e2
  obtain ⟨-, hf⟩ := m_chkE hf
  obtain ⟨S6, e3, hf⟩ := m_bndE hf
  have h_S6 := fra_I h_S5 e3
  cases hf
  exact h_S6
theorem fa_X1_putFirst_21s {o : Int32 × ZS} {self21 : Nat → Int32 → Nat → Int32 → Int32 → ZS → Option (Int32 × ZS)} {x0 : Nat} {x1 : Int32} {x2 : Nat} {x3 : Int32} {x4 : Int32} {S : ZS} (hself21 : ∀ (z0 : Nat) (z1 : Int32) (z2 : Nat) (z3 : Int32) (z4 : Int32) (S : ZS) (o : Int32 × ZS), self21 z0 z1 z2 z3 z4 S = some o → FrA [] S o.2) (hf : f_X1_putFirst_21s self21 x0 x1 x2 x3 x4 S = some o) : FrA [] S o.2 := by
  have h_S : FrA [] S S := fra_0
  unfold f_X1_putFirst_21s at hf
  rcases m_ifE hf with ⟨-, hf⟩ | ⟨-, hf⟩
  ·
    exact fra_t h_S (fa_X1_putFirst_56  hf) (fun _ h => h)
  ·
    obtain ⟨-, hf⟩ := m_chkE hf
    obtain ⟨o1, ho, hf⟩ := m_calE hf
    have h_o1 := fra_t h_S (fa_X1_at ho) (by decide)
    clear ho
    obtain ⟨-, hf⟩ := m_chkE hf
    rcases m_ifE hf with ⟨-, hf⟩ | ⟨-, hf⟩
    ·
      exact fra_t h_o1 (fa_X1_putFirst_56  hf) (fun _ h => h)
    ·
      obtain ⟨-, hf⟩ := m_chkE hf
      obtain ⟨o2, ho, hf⟩ := m_calE hf
      have h_o2 := fra_t h_o1 (fa_X1_at ho) (by decide)
      clear ho
      obtain ⟨-, hf⟩ := m_chkE hf
      obtain ⟨v3, e1, hf⟩ := m_bndE hf
      exact fra_t h_o2 (hself21 _ _ _ _ _ _ _ hf) (fun _ h => h)
theorem fa_X1_putFirst_21   (n : Nat) : ∀ (y0 : Nat) (y1 : Int32) (y2 : Nat) (y3 : Int32) (y4 : Int32) (S : ZS) (o : Int32 × ZS), f_X1_putFirst_21  n y0 y1 y2 y3 y4 S = some o → FrA [] S o.2 := by
  induction n with
  | zero => intro y0 y1 y2 y3 y4 S o hf; cases hf
  | succ n ih => intro y0 y1 y2 y3 y4 S o hf; exact fa_X1_putFirst_21s  ih hf
theorem fa_X1_putFirst_0 {o : Int32 × ZS} {x0 : Nat} {x1 : Int32} {S : ZS}  (hf : f_X1_putFirst_0 x0 x1 S = some o) : FrA [] S o.2 := by
  have h_S : FrA [] S S := fra_0
  unfold f_X1_putFirst_0 at hf
  obtain ⟨-, hf⟩ := m_chkE hf
  obtain ⟨o1, ho, hf⟩ := m_calE hf
  have h_o1 := fra_t h_S (fa_X1_at ho) (by decide)
  clear ho
  obtain ⟨-, hf⟩ := m_chkE hf
  obtain ⟨-, hf⟩ := m_chkE hf
  obtain ⟨o2, ho, hf⟩ := m_calE hf
  have h_o2 := fra_t h_o1 (fa_X1_at ho) (by decide)
  clear ho
  obtain ⟨-, hf⟩ := m_chkE hf
  exact fra_t h_o2 (fa_X1_putFirst_21  _ _ _ _ _ _ _ _ hf) (fun _ h => h)
theorem fa_X1_putFirst {o : Int32 × ZS} {x0 : Nat} {x1 : Int32} {S : ZS}  (hf : f_X1_putFirst x0 x1 S = some o) : FrA [] S o.2 := by
  have h_S : FrA [] S S := fra_0
  unfold f_X1_putFirst at hf
  exact fra_t h_S (fa_X1_putFirst_0  hf) (fun _ h => h)
theorem fa_X1_standAt_68s {o : Int32 × ZS} {self68 : Nat → Nat → Int32 → ZS → Option (Int32 × ZS)} {x2 : Nat} {x3 : Nat} {x5 : Int32} {S : ZS} (hself68 : ∀ (z0 : Nat) (z1 : Nat) (z2 : Int32) (S : ZS) (o : Int32 × ZS), self68 z0 z1 z2 S = some o → FrA [14] S o.2) (hf : f_X1_standAt_68s self68 x2 x3 x5 S = some o) : FrA [14] S o.2 := by
  have h_S : FrA [14] S S := fra_0
  unfold f_X1_standAt_68s at hf
  rcases m_ifE hf with ⟨-, hf⟩ | ⟨-, hf⟩
  ·
    cases hf
    exact h_S
  ·
    obtain ⟨q1, hf⟩ := m_chkE hf
    obtain ⟨-, hf⟩ := m_chkE hf
    obtain ⟨v1, e2, hf⟩ := m_bndE hf
    obtain ⟨-, hf⟩ := m_chkE hf
    obtain ⟨o2, ho, hf⟩ := m_calE hf
    have h_o2 := fra_t h_S (fa_X0_play ho) (by decide)
    clear ho
    obtain ⟨v3, e3, hf⟩ := m_bndE hf
    exact fra_t h_o2 (hself68 _ _ _ _ _ hf) (fun _ h => h)
theorem fa_X1_standAt_68   (n : Nat) : ∀ (y0 : Nat) (y1 : Nat) (y2 : Int32) (S : ZS) (o : Int32 × ZS), f_X1_standAt_68  n y0 y1 y2 S = some o → FrA [14] S o.2 := by
  induction n with
  | zero => intro y0 y1 y2 S o hf; cases hf
  | succ n ih => intro y0 y1 y2 S o hf; exact fa_X1_standAt_68s  ih hf
theorem fa_X1_standAt_54 {o : Int32 × ZS} {x0 : Nat} {x2 : Nat} {x3 : Nat} {x4 : Int32} {S : ZS}  (hf : f_X1_standAt_54 x0 x2 x3 x4 S = some o) : FrA [14] S o.2 := by
  have h_S : FrA [14] S S := fra_0
  unfold f_X1_standAt_54 at hf
  obtain ⟨-, hf⟩ := m_chkE hf
  obtain ⟨b1, -, hf⟩ := m_calE hf
  obtain ⟨-, hf⟩ := m_chkE hf
  obtain ⟨o2, ho, hf⟩ := m_calE hf
  have h_o2 := fra_t h_S (fa_X0_copyFrom ho) (by decide)
  clear ho
  obtain ⟨v3, e1, hf⟩ := m_bndE hf
  exact fra_t h_o2 (fa_X1_standAt_68  _ _ _ _ _ _ hf) (fun _ h => h)
theorem fa_X1_standAt_11s {o : Int32 × ZS} {self11 : Nat → Nat → Nat → Int32 → Int32 → ZS → Option (Int32 × ZS)} {x0 : Nat} {x2 : Nat} {x3 : Nat} {x4 : Int32} {x5 : Int32} {S : ZS} (hself11 : ∀ (z0 : Nat) (z1 : Nat) (z2 : Nat) (z3 : Int32) (z4 : Int32) (S : ZS) (o : Int32 × ZS), self11 z0 z1 z2 z3 z4 S = some o → FrA [14] S o.2) (hf : f_X1_standAt_11s self11 x0 x2 x3 x4 x5 S = some o) : FrA [14] S o.2 := by
  have h_S : FrA [14] S S := fra_0
  unfold f_X1_standAt_11s at hf
  rcases m_ifE hf with ⟨-, hf⟩ | ⟨-, hf⟩
  ·
    exact fra_t h_S (fa_X1_standAt_54  hf) (fun _ h => h)
  ·
    rcases m_ifE hf with ⟨-, hf⟩ | ⟨-, hf⟩
    ·
      exact fra_t h_S (fa_X1_standAt_54  hf) (fun _ h => h)
    ·
      obtain ⟨-, hf⟩ := m_chkE hf
      obtain ⟨o1, ho, hf⟩ := m_calE hf
      have h_o1 := fra_t h_S (fa_X1_at ho) (by decide)
      clear ho
      obtain ⟨-, hf⟩ := m_chkE hf
      obtain ⟨q1, hf⟩ := m_chkE hf
      obtain ⟨-, hf⟩ := m_chkE hf
      obtain ⟨S2, e2, hf⟩ := m_bndE hf
      have h_S2 := fra_A h_o1 q1 e2 (by decide)
      obtain ⟨v3, e3, hf⟩ := m_bndE hf
      obtain ⟨-, hf⟩ := m_chkE hf
      obtain ⟨o4, ho, hf⟩ := m_calE hf
      have h_o4 := fra_t h_S2 (fa_X1_at ho) (by decide)
      clear ho
      obtain ⟨-, hf⟩ := m_chkE hf
      exact fra_t h_o4 (hself11 _ _ _ _ _ _ _ hf) (fun _ h => h)
theorem fa_X1_standAt_11   (n : Nat) : ∀ (y0 : Nat) (y1 : Nat) (y2 : Nat) (y3 : Int32) (y4 : Int32) (S : ZS) (o : Int32 × ZS), f_X1_standAt_11  n y0 y1 y2 y3 y4 S = some o → FrA [14] S o.2 := by
  induction n with
  | zero => intro y0 y1 y2 y3 y4 S o hf; cases hf
  | succ n ih => intro y0 y1 y2 y3 y4 S o hf; exact fa_X1_standAt_11s  ih hf
theorem fa_X1_standAt_0 {o : Int32 × ZS} {x0 : Nat} {x1 : Int32} {x2 : Nat} {S : ZS}  (hf : f_X1_standAt_0 x0 x1 x2 S = some o) : FrA [14] S o.2 := by
  have h_S : FrA [14] S S := fra_0
  unfold f_X1_standAt_0 at hf
  obtain ⟨-, hf⟩ := m_chkE hf
  obtain ⟨b1, -, hf⟩ := m_calE hf
  exact fra_t h_S (fa_X1_standAt_11  _ _ _ _ _ _ _ _ hf) (fun _ h => h)
theorem fa_X1_standAt {o : Int32 × ZS} {x0 : Nat} {x1 : Int32} {x2 : Nat} {S : ZS}  (hf : f_X1_standAt x0 x1 x2 S = some o) : FrA [14] S o.2 := by
  have h_S : FrA [14] S S := fra_0
  unfold f_X1_standAt at hf
  exact fra_t h_S (fa_X1_standAt_0  hf) (fun _ h => h)
theorem fa_X6_at_22 {o : Int32 × ZS} {t0 : Int32} {S : ZS}  (hf : f_X6_at_22 t0 S = some o) : FrA [] S o.2 := by
  have h_S : FrA [] S S := fra_0
  unfold f_X6_at_22 at hf
  obtain ⟨-, hf⟩ := m_chkE hf
  cases hf
  exact h_S
theorem fa_X6_at_21 {o : Int32 × ZS} {S : ZS}  (hf : f_X6_at_21 S = some o) : FrA [] S o.2 := by
  have h_S : FrA [] S S := fra_0
  unfold f_X6_at_21 at hf
  exact fra_t h_S (fa_X6_at_22  hf) (fun _ h => h)
theorem fa_X6_at_0 {o : Int32 × ZS} {x0 : Nat} {x1 : Int32} {S : ZS}  (hf : f_X6_at_0 x0 x1 S = some o) : FrA [] S o.2 := by
  have h_S : FrA [] S S := fra_0
  unfold f_X6_at_0 at hf
  rcases m_ifE hf with ⟨-, hf⟩ | ⟨-, hf⟩
  ·
    exact fra_t h_S (fa_X6_at_21  hf) (fun _ h => h)
  ·
    obtain ⟨-, hf⟩ := m_chkE hf
    rcases m_ifE hf with ⟨-, hf⟩ | ⟨-, hf⟩
    ·
      exact fra_t h_S (fa_X6_at_21  hf) (fun _ h => h)
    ·
      obtain ⟨-, hf⟩ := m_chkE hf
      obtain ⟨b1, -, hf⟩ := m_calE hf
      obtain ⟨q1, hf⟩ := m_chkE hf
      obtain ⟨-, hf⟩ := m_chkE hf
      obtain ⟨v2, e2, hf⟩ := m_bndE hf
      exact fra_t h_S (fa_X6_at_22  hf) (fun _ h => h)
theorem fa_X6_at {o : Int32 × ZS} {x0 : Nat} {x1 : Int32} {S : ZS}  (hf : f_X6_at x0 x1 S = some o) : FrA [] S o.2 := by
  have h_S : FrA [] S S := fra_0
  unfold f_X6_at at hf
  exact fra_t h_S (fa_X6_at_0  hf) (fun _ h => h)
theorem fa_X6_isLike_15s {o : Int32 × ZS} {self15 : Nat → Nat → Int32 → ZS → Option (Int32 × ZS)} {x0 : Nat} {x1 : Nat} {x2 : Int32} {S : ZS} (hself15 : ∀ (z0 : Nat) (z1 : Nat) (z2 : Int32) (S : ZS) (o : Int32 × ZS), self15 z0 z1 z2 S = some o → FrA [] S o.2) (hf : f_X6_isLike_15s self15 x0 x1 x2 S = some o) : FrA [] S o.2 := by
  have h_S : FrA [] S S := fra_0
  unfold f_X6_isLike_15s at hf
  obtain ⟨-, hf⟩ := m_chkE hf
  rcases m_ifE hf with ⟨-, hf⟩ | ⟨-, hf⟩
  ·
    obtain ⟨-, hf⟩ := m_chkE hf
    cases hf
    exact h_S
  ·
    obtain ⟨-, hf⟩ := m_chkE hf
    obtain ⟨b1, -, hf⟩ := m_calE hf
    obtain ⟨q1, hf⟩ := m_chkE hf
    obtain ⟨-, hf⟩ := m_chkE hf
    obtain ⟨v2, e2, hf⟩ := m_bndE hf
    obtain ⟨-, hf⟩ := m_chkE hf
    obtain ⟨o3, ho, hf⟩ := m_calE hf
    have h_o3 := fra_t h_S (fa_X6_at ho) (by decide)
    clear ho
    rcases m_ifE hf with ⟨-, hf⟩ | ⟨-, hf⟩
    ·
      obtain ⟨v4, e3, hf⟩ := m_bndE hf
      exact fra_t h_o3 (hself15 _ _ _ _ _ hf) (fun _ h => h)
    ·
      obtain ⟨-, hf⟩ := m_chkE hf
      cases hf
      exact h_o3
theorem fa_X6_isLike_15   (n : Nat) : ∀ (y0 : Nat) (y1 : Nat) (y2 : Int32) (S : ZS) (o : Int32 × ZS), f_X6_isLike_15  n y0 y1 y2 S = some o → FrA [] S o.2 := by
  induction n with
  | zero => intro y0 y1 y2 S o hf; cases hf
  | succ n ih => intro y0 y1 y2 S o hf; exact fa_X6_isLike_15s  ih hf
theorem fa_X6_isLike_0 {o : Int32 × ZS} {x0 : Nat} {x1 : Nat} {S : ZS}  (hf : f_X6_isLike_0 x0 x1 S = some o) : FrA [] S o.2 := by
  have h_S : FrA [] S S := fra_0
  unfold f_X6_isLike_0 at hf
  obtain ⟨-, hf⟩ := m_chkE hf
  obtain ⟨-, hf⟩ := m_chkE hf
  rcases m_ifE hf with ⟨-, hf⟩ | ⟨-, hf⟩
  ·
    exact fra_t h_S (fa_X6_isLike_15  _ _ _ _ _ _ hf) (fun _ h => h)
  ·
    obtain ⟨-, hf⟩ := m_chkE hf
    cases hf
    exact h_S
theorem fa_X6_isLike {o : Int32 × ZS} {x0 : Nat} {x1 : Nat} {S : ZS}  (hf : f_X6_isLike x0 x1 S = some o) : FrA [] S o.2 := by
  have h_S : FrA [] S S := fra_0
  unfold f_X6_isLike at hf
  exact fra_t h_S (fa_X6_isLike_0  hf) (fun _ h => h)
theorem fa_J0_coder_7d493_14 {o : Int32 × ZS} {t0 : Int32} {S : ZS}  (hf : f_J0_coder_7d493_14 t0 S = some o) : FrA [] S o.2 := by
  have h_S : FrA [] S S := fra_0
  unfold f_J0_coder_7d493_14 at hf
  obtain ⟨-, hf⟩ := m_chkE hf
  cases hf
  exact h_S
theorem fa_J0_coder_7d493_0 {o : Int32 × ZS} {x0 : Nat} {S : ZS}  (hf : f_J0_coder_7d493_0 x0 S = some o) : FrA [] S o.2 := by
  have h_S : FrA [] S S := fra_0
  unfold f_J0_coder_7d493_0 at hf
  rcases m_ifE hf with ⟨-, hf⟩ | ⟨-, hf⟩
  ·
    exact fra_t h_S (fa_J0_coder_7d493_14  hf) (fun _ h => h)
  ·
    obtain ⟨-, hf⟩ := m_chkE hf
    exact fra_t h_S (fa_J0_coder_7d493_14  hf) (fun _ h => h)
theorem fa_J0_coder_7d493 {o : Int32 × ZS} {x0 : Nat} {S : ZS}  (hf : f_J0_coder_7d493 x0 S = some o) : FrA [] S o.2 := by
  have h_S : FrA [] S S := fra_0
  unfold f_J0_coder_7d493 at hf
  exact fra_t h_S (fa_J0_coder_7d493_0  hf) (fun _ h => h)
theorem fa_J0_length_8abf5_0 {o : Int32 × ZS} {x0 : Nat} {S : ZS}  (hf : f_J0_length_8abf5_0 x0 S = some o) : FrA [] S o.2 := by
  have h_S : FrA [] S S := fra_0
  unfold f_J0_length_8abf5_0 at hf
  obtain ⟨-, hf⟩ := m_chkE hf
  obtain ⟨-, hf⟩ := m_chkE hf
  obtain ⟨v1, e1, hf⟩ := m_bndE hf
  obtain ⟨-, hf⟩ := m_chkE hf
  obtain ⟨o2, ho, hf⟩ := m_calE hf
  have h_o2 := fra_t h_S (fa_J0_coder_7d493 ho) (by decide)
  clear ho
  obtain ⟨v3, e2, hf⟩ := m_bndE hf
  cases hf
  exact h_o2
theorem fa_J0_length_8abf5 {o : Int32 × ZS} {x0 : Nat} {S : ZS}  (hf : f_J0_length_8abf5 x0 S = some o) : FrA [] S o.2 := by
  have h_S : FrA [] S S := fra_0
  unfold f_J0_length_8abf5 at hf
  exact fra_t h_S (fa_J0_length_8abf5_0  hf) (fun _ h => h)
theorem fa_J0_isLatin1_aae02_18 {o : Int32 × ZS} {t0 : Int32} {S : ZS}  (hf : f_J0_isLatin1_aae02_18 t0 S = some o) : FrA [] S o.2 := by
  have h_S : FrA [] S S := fra_0
  unfold f_J0_isLatin1_aae02_18 at hf
  obtain ⟨-, hf⟩ := m_chkE hf
  cases hf
  exact h_S
theorem fa_J0_isLatin1_aae02_17 {o : Int32 × ZS} {S : ZS}  (hf : f_J0_isLatin1_aae02_17 S = some o) : FrA [] S o.2 := by
  have h_S : FrA [] S S := fra_0
  unfold f_J0_isLatin1_aae02_17 at hf
  exact fra_t h_S (fa_J0_isLatin1_aae02_18  hf) (fun _ h => h)
theorem fa_J0_isLatin1_aae02_0 {o : Int32 × ZS} {x0 : Nat} {S : ZS}  (hf : f_J0_isLatin1_aae02_0 x0 S = some o) : FrA [] S o.2 := by
  have h_S : FrA [] S S := fra_0
  unfold f_J0_isLatin1_aae02_0 at hf
  rcases m_ifE hf with ⟨-, hf⟩ | ⟨-, hf⟩
  ·
    exact fra_t h_S (fa_J0_isLatin1_aae02_17  hf) (fun _ h => h)
  ·
    obtain ⟨-, hf⟩ := m_chkE hf
    rcases m_ifE hf with ⟨-, hf⟩ | ⟨-, hf⟩
    ·
      exact fra_t h_S (fa_J0_isLatin1_aae02_18  hf) (fun _ h => h)
    ·
      exact fra_t h_S (fa_J0_isLatin1_aae02_17  hf) (fun _ h => h)
theorem fa_J0_isLatin1_aae02 {o : Int32 × ZS} {x0 : Nat} {S : ZS}  (hf : f_J0_isLatin1_aae02 x0 S = some o) : FrA [] S o.2 := by
  have h_S : FrA [] S S := fra_0
  unfold f_J0_isLatin1_aae02 at hf
  exact fra_t h_S (fa_J0_isLatin1_aae02_0  hf) (fun _ h => h)
theorem fa_J3_checkIndex_8e157_0 {o : Int32 × ZS} {x0 : Int32} {x1 : Int32} {S : ZS}  (hf : f_J3_checkIndex_8e157_0 x0 x1 S = some o) : FrA [] S o.2 := by
  have h_S : FrA [] S S := fra_0
  unfold f_J3_checkIndex_8e157_0 at hf
  rcases m_ifE hf with ⟨-, hf⟩ | ⟨-, hf⟩
  ·
    cases hf
  ·
    rcases m_ifE hf with ⟨-, hf⟩ | ⟨-, hf⟩
    ·
      cases hf
      exact h_S
    ·
      cases hf
theorem fa_J3_checkIndex_8e157 {o : Int32 × ZS} {x0 : Int32} {x1 : Int32} {S : ZS}  (hf : f_J3_checkIndex_8e157 x0 x1 S = some o) : FrA [] S o.2 := by
  have h_S : FrA [] S S := fra_0
  unfold f_J3_checkIndex_8e157 at hf
  exact fra_t h_S (fa_J3_checkIndex_8e157_0  hf) (fun _ h => h)
theorem fa_J0_checkIndex_df160_0 {o : Int32 × ZS} {x0 : Int32} {x1 : Int32} {S : ZS}  (hf : f_J0_checkIndex_df160_0 x0 x1 S = some o) : FrA [] S o.2 := by
  have h_S : FrA [] S S := fra_0
  unfold f_J0_checkIndex_df160_0 at hf
  obtain ⟨o1, ho, hf⟩ := m_calE hf
  have h_o1 := fra_t h_S (fa_J3_checkIndex_8e157 ho) (by decide)
  clear ho
  cases hf
  exact h_o1
theorem fa_J0_checkIndex_df160 {o : Int32 × ZS} {x0 : Int32} {x1 : Int32} {S : ZS}  (hf : f_J0_checkIndex_df160 x0 x1 S = some o) : FrA [] S o.2 := by
  have h_S : FrA [] S S := fra_0
  unfold f_J0_checkIndex_df160 at hf
  exact fra_t h_S (fa_J0_checkIndex_df160_0  hf) (fun _ h => h)
theorem fa_J1_charAt_3b067_0 {o : Int32 × ZS} {x0 : Nat} {x1 : Int32} {S : ZS}  (hf : f_J1_charAt_3b067_0 x0 x1 S = some o) : FrA [] S o.2 := by
  have h_S : FrA [] S S := fra_0
  unfold f_J1_charAt_3b067_0 at hf
  obtain ⟨-, hf⟩ := m_chkE hf
  obtain ⟨v1, e1, hf⟩ := m_bndE hf
  obtain ⟨o2, ho, hf⟩ := m_calE hf
  have h_o2 := fra_t h_S (fa_J0_checkIndex_df160 ho) (by decide)
  clear ho
  obtain ⟨-, hf⟩ := m_chkE hf
  obtain ⟨-, hf⟩ := m_chkE hf
  obtain ⟨v3, e2, hf⟩ := m_bndE hf
  obtain ⟨v4, e3, hf⟩ := m_bndE hf
  obtain ⟨v5, e4, hf⟩ := m_bndE hf
  obtain ⟨-, hf⟩ := m_chkE hf
  cases hf
  exact h_o2
theorem fa_J1_charAt_3b067 {o : Int32 × ZS} {x0 : Nat} {x1 : Int32} {S : ZS}  (hf : f_J1_charAt_3b067 x0 x1 S = some o) : FrA [] S o.2 := by
  have h_S : FrA [] S S := fra_0
  unfold f_J1_charAt_3b067 at hf
  exact fra_t h_S (fa_J1_charAt_3b067_0  hf) (fun _ h => h)
theorem fa_J0_charAt_5068e_0 {o : Int32 × ZS} {x0 : Nat} {x1 : Int32} {S : ZS}  (hf : f_J0_charAt_5068e_0 x0 x1 S = some o) : FrA [] S o.2 := by
  have h_S : FrA [] S S := fra_0
  unfold f_J0_charAt_5068e_0 at hf
  obtain ⟨-, hf⟩ := m_chkE hf
  obtain ⟨o1, ho, hf⟩ := m_calE hf
  have h_o1 := fra_t h_S (fa_J0_isLatin1_aae02 ho) (by decide)
  clear ho
  rcases m_ifE hf with ⟨-, hf⟩ | ⟨-, hf⟩
  ·
    cases hf
  ·
    obtain ⟨-, hf⟩ := m_chkE hf
    obtain ⟨o2, ho, hf⟩ := m_calE hf
    have h_o2 := fra_t h_o1 (fa_J1_charAt_3b067 ho) (by decide)
    clear ho
    obtain ⟨-, hf⟩ := m_chkE hf
    cases hf
    exact h_o2
theorem fa_J0_charAt_5068e {o : Int32 × ZS} {x0 : Nat} {x1 : Int32} {S : ZS}  (hf : f_J0_charAt_5068e x0 x1 S = some o) : FrA [] S o.2 := by
  have h_S : FrA [] S S := fra_0
  unfold f_J0_charAt_5068e at hf
  exact fra_t h_S (fa_J0_charAt_5068e_0  hf) (fun _ h => h)
theorem fa_X6_holds_17 {o : Int32 × ZS} {S : ZS}  (hf : f_X6_holds_17 S = some o) : FrA [] S o.2 := by
  have h_S : FrA [] S S := fra_0
  unfold f_X6_holds_17 at hf
  obtain ⟨-, hf⟩ := m_chkE hf
  cases hf
  exact h_S
theorem fa_X6_holds_21s {o : Int32 × ZS} {self21 : Nat → Nat → Int32 → Int32 → ZS → Option (Int32 × ZS)} {x0 : Nat} {x1 : Nat} {x2 : Int32} {x3 : Int32} {S : ZS} (hself21 : ∀ (z0 : Nat) (z1 : Nat) (z2 : Int32) (z3 : Int32) (S : ZS) (o : Int32 × ZS), self21 z0 z1 z2 z3 S = some o → FrA [] S o.2) (hf : f_X6_holds_21s self21 x0 x1 x2 x3 S = some o) : FrA [] S o.2 := by
  have h_S : FrA [] S S := fra_0
  unfold f_X6_holds_21s at hf
  obtain ⟨-, hf⟩ := m_chkE hf
  obtain ⟨o1, ho, hf⟩ := m_calE hf
  have h_o1 := fra_t h_S (fa_J0_length_8abf5 ho) (by decide)
  clear ho
  rcases m_ifE hf with ⟨-, hf⟩ | ⟨-, hf⟩
  ·
    obtain ⟨-, hf⟩ := m_chkE hf
    cases hf
    exact h_o1
  ·
    obtain ⟨-, hf⟩ := m_chkE hf
    obtain ⟨b2, -, hf⟩ := m_calE hf
    obtain ⟨v3, e1, hf⟩ := m_bndE hf
    obtain ⟨q2, hf⟩ := m_chkE hf
    obtain ⟨-, hf⟩ := m_chkE hf
    obtain ⟨v4, e3, hf⟩ := m_bndE hf
    obtain ⟨-, hf⟩ := m_chkE hf
    obtain ⟨o5, ho, hf⟩ := m_calE hf
    have h_o5 := fra_t h_o1 (fa_J0_charAt_5068e ho) (by decide)
    clear ho
    rcases m_ifE hf with ⟨-, hf⟩ | ⟨-, hf⟩
    ·
      obtain ⟨v6, e4, hf⟩ := m_bndE hf
      exact fra_t h_o5 (hself21 _ _ _ _ _ _ hf) (fun _ h => h)
    ·
      obtain ⟨-, hf⟩ := m_chkE hf
      cases hf
      exact h_o5
theorem fa_X6_holds_21   (n : Nat) : ∀ (y0 : Nat) (y1 : Nat) (y2 : Int32) (y3 : Int32) (S : ZS) (o : Int32 × ZS), f_X6_holds_21  n y0 y1 y2 y3 S = some o → FrA [] S o.2 := by
  induction n with
  | zero => intro y0 y1 y2 y3 S o hf; cases hf
  | succ n ih => intro y0 y1 y2 y3 S o hf; exact fa_X6_holds_21s  ih hf
theorem fa_X6_holds_0 {o : Int32 × ZS} {x0 : Nat} {x1 : Nat} {x2 : Int32} {S : ZS}  (hf : f_X6_holds_0 x0 x1 x2 S = some o) : FrA [] S o.2 := by
  have h_S : FrA [] S S := fra_0
  unfold f_X6_holds_0 at hf
  rcases m_ifE hf with ⟨-, hf⟩ | ⟨-, hf⟩
  ·
    exact fra_t h_S (fa_X6_holds_17  hf) (fun _ h => h)
  ·
    obtain ⟨-, hf⟩ := m_chkE hf
    obtain ⟨o1, ho, hf⟩ := m_calE hf
    have h_o1 := fra_t h_S (fa_J0_length_8abf5 ho) (by decide)
    clear ho
    obtain ⟨v2, e1, hf⟩ := m_bndE hf
    obtain ⟨-, hf⟩ := m_chkE hf
    rcases m_ifE hf with ⟨-, hf⟩ | ⟨-, hf⟩
    ·
      exact fra_t h_o1 (fa_X6_holds_21  _ _ _ _ _ _ _ hf) (fun _ h => h)
    ·
      exact fra_t h_o1 (fa_X6_holds_17  hf) (fun _ h => h)
theorem fa_X6_holds {o : Int32 × ZS} {x0 : Nat} {x1 : Nat} {x2 : Int32} {S : ZS}  (hf : f_X6_holds x0 x1 x2 S = some o) : FrA [] S o.2 := by
  have h_S : FrA [] S S := fra_0
  unfold f_X6_holds at hf
  exact fra_t h_S (fa_X6_holds_0  hf) (fun _ h => h)
theorem fa_X6_is_25 {o : Int32 × ZS} {t0 : Int32} {S : ZS}  (hf : f_X6_is_25 t0 S = some o) : FrA [] S o.2 := by
  have h_S : FrA [] S S := fra_0
  unfold f_X6_is_25 at hf
  obtain ⟨-, hf⟩ := m_chkE hf
  cases hf
  exact h_S
theorem fa_X6_is_24 {o : Int32 × ZS} {S : ZS}  (hf : f_X6_is_24 S = some o) : FrA [] S o.2 := by
  have h_S : FrA [] S S := fra_0
  unfold f_X6_is_24 at hf
  exact fra_t h_S (fa_X6_is_25  hf) (fun _ h => h)
theorem fa_X6_is_0 {o : Int32 × ZS} {x0 : Nat} {x1 : Nat} {S : ZS}  (hf : f_X6_is_0 x0 x1 S = some o) : FrA [] S o.2 := by
  have h_S : FrA [] S S := fra_0
  unfold f_X6_is_0 at hf
  obtain ⟨-, hf⟩ := m_chkE hf
  obtain ⟨-, hf⟩ := m_chkE hf
  obtain ⟨o1, ho, hf⟩ := m_calE hf
  have h_o1 := fra_t h_S (fa_J0_length_8abf5 ho) (by decide)
  clear ho
  rcases m_ifE hf with ⟨-, hf⟩ | ⟨-, hf⟩
  ·
    obtain ⟨-, hf⟩ := m_chkE hf
    obtain ⟨o2, ho, hf⟩ := m_calE hf
    have h_o2 := fra_t h_o1 (fa_X6_holds ho) (by decide)
    clear ho
    rcases m_ifE hf with ⟨-, hf⟩ | ⟨-, hf⟩
    ·
      exact fra_t h_o2 (fa_X6_is_24  hf) (fun _ h => h)
    ·
      exact fra_t h_o2 (fa_X6_is_25  hf) (fun _ h => h)
  ·
    exact fra_t h_o1 (fa_X6_is_24  hf) (fun _ h => h)
theorem fa_X6_is {o : Int32 × ZS} {x0 : Nat} {x1 : Nat} {S : ZS}  (hf : f_X6_is x0 x1 S = some o) : FrA [] S o.2 := by
  have h_S : FrA [] S S := fra_0
  unfold f_X6_is at hf
  exact fra_t h_S (fa_X6_is_0  hf) (fun _ h => h)
theorem fa_X11_resultSign_0 {o : Nat × ZS} {x0 : Int32} {S : ZS}  (hf : f_X11_resultSign_0 x0 S = some o) : FrA [] S o.2 := by
  have h_S : FrA [] S S := fra_0
  unfold f_X11_resultSign_0 at hf
  rcases m_ifE hf with ⟨-, hf⟩ | ⟨-, hf⟩
  ·
    cases hf
    exact h_S
  ·
    rcases m_ifE hf with ⟨-, hf⟩ | ⟨-, hf⟩
    ·
      cases hf
      exact h_S
    ·
      rcases m_ifE hf with ⟨-, hf⟩ | ⟨-, hf⟩
      ·
        cases hf
        exact h_S
      ·
        cases hf
        exact h_S
theorem fa_X11_resultSign {o : Nat × ZS} {x0 : Int32} {S : ZS}  (hf : f_X11_resultSign x0 S = some o) : FrA [] S o.2 := by
  have h_S : FrA [] S S := fra_0
  unfold f_X11_resultSign at hf
  exact fra_t h_S (fa_X11_resultSign_0  hf) (fun _ h => h)
theorem fa_X2_begin_0 {o : Int32 × ZS} {x0 : Nat} {x1 : Nat} {S : ZS}  (hf : f_X2_begin_0 x0 x1 S = some o) : FrA [14] S o.2 := by
  have h_S : FrA [14] S S := fra_0
  unfold f_X2_begin_0 at hf
  obtain ⟨-, hf⟩ := m_chkE hf
  obtain ⟨S1, e1, hf⟩ := m_bndE hf
  have h_S1 := fra_P h_S e1
  obtain ⟨-, hf⟩ := m_chkE hf
  obtain ⟨b2, -, hf⟩ := m_calE hf
  obtain ⟨-, hf⟩ := m_chkE hf
  obtain ⟨o3, ho, hf⟩ := m_calE hf
  have h_o3 := fra_t h_S1 (fa_X1_wipe ho) (by decide)
  clear ho
  obtain ⟨-, hf⟩ := m_chkE hf
  obtain ⟨S4, e2, hf⟩ := m_bndE hf
  have h_S4 := fra_I h_o3 e2
  obtain ⟨-, hf⟩ := m_chkE hf
  obtain ⟨S5, e3, hf⟩ := m_bndE hf
  have h_S5 := fra_I h_S4 e3
  cases hf
  exact h_S5
theorem fa_X2_begin {o : Int32 × ZS} {x0 : Nat} {x1 : Nat} {S : ZS}  (hf : f_X2_begin x0 x1 S = some o) : FrA [14] S o.2 := by
  have h_S : FrA [14] S S := fra_0
  unfold f_X2_begin at hf
  exact fra_t h_S (fa_X2_begin_0  hf) (fun _ h => h)
theorem fa_X2_fault_0 {o : Int32 × ZS} {x0 : Nat} {S : ZS}  (hf : f_X2_fault_0 x0 S = some o) : FrA [] S o.2 := by
  have h_S : FrA [] S S := fra_0
  unfold f_X2_fault_0 at hf
  obtain ⟨-, hf⟩ := m_chkE hf
  cases hf
  exact h_S
theorem fa_X2_fault {o : Int32 × ZS} {x0 : Nat} {S : ZS}  (hf : f_X2_fault x0 S = some o) : FrA [] S o.2 := by
  have h_S : FrA [] S S := fra_0
  unfold f_X2_fault at hf
  exact fra_t h_S (fa_X2_fault_0  hf) (fun _ h => h)
theorem fa_X2_exchange_0 {o : Nat × ZS} {x0 : Nat} {x1 : Nat} {S : ZS}  (hf : f_X2_exchange_0 x0 x1 S = some o) : FrA [] S o.2 := by
  have h_S : FrA [] S S := fra_0
  unfold f_X2_exchange_0 at hf
  obtain ⟨-, hf⟩ := m_chkE hf
  obtain ⟨b1, -, hf⟩ := m_calE hf
  obtain ⟨-, hf⟩ := m_chkE hf
  obtain ⟨S2, e1, hf⟩ := m_bndE hf
  have h_S2 := fra_P h_S e1
  cases hf
  exact h_S2
theorem fa_X2_exchange {o : Nat × ZS} {x0 : Nat} {x1 : Nat} {S : ZS}  (hf : f_X2_exchange x0 x1 S = some o) : FrA [] S o.2 := by
  have h_S : FrA [] S S := fra_0
  unfold f_X2_exchange at hf
  exact fra_t h_S (fa_X2_exchange_0  hf) (fun _ h => h)
theorem fa_X2_refuse_0 {o : Int32 × ZS} {x0 : Nat} {x1 : Int32} {x2 : Int32} {S : ZS}  (hf : f_X2_refuse_0 x0 x1 x2 S = some o) : FrA [] S o.2 := by
  have h_S : FrA [] S S := fra_0
  unfold f_X2_refuse_0 at hf
  obtain ⟨v1, e1, hf⟩ := m_bndE hf
  obtain ⟨v2, e2, hf⟩ := m_bndE hf
  obtain ⟨-, hf⟩ := m_chkE hf
  obtain ⟨S3, e3, hf⟩ := m_bndE hf
  have h_S3 := fra_I h_S e3
  obtain ⟨-, hf⟩ := m_chkE hf
  cases hf
  exact h_S3
theorem fa_X2_refuse {o : Int32 × ZS} {x0 : Nat} {x1 : Int32} {x2 : Int32} {S : ZS}  (hf : f_X2_refuse x0 x1 x2 S = some o) : FrA [] S o.2 := by
  have h_S : FrA [] S S := fra_0
  unfold f_X2_refuse at hf
  exact fra_t h_S (fa_X2_refuse_0  hf) (fun _ h => h)
theorem fa_X6_size_0 {o : Int32 × ZS} {x0 : Nat} {S : ZS}  (hf : f_X6_size_0 x0 S = some o) : FrA [] S o.2 := by
  have h_S : FrA [] S S := fra_0
  unfold f_X6_size_0 at hf
  obtain ⟨-, hf⟩ := m_chkE hf
  cases hf
  exact h_S
theorem fa_X6_size {o : Int32 × ZS} {x0 : Nat} {S : ZS}  (hf : f_X6_size x0 S = some o) : FrA [] S o.2 := by
  have h_S : FrA [] S S := fra_0
  unfold f_X6_size at hf
  exact fra_t h_S (fa_X6_size_0  hf) (fun _ h => h)
theorem fa_X2_skipBlanks_59 {o : Int32 × ZS} {S : ZS}  (hf : f_X2_skipBlanks_59 S = some o) : FrA [] S o.2 := by
  have h_S : FrA [] S S := fra_0
  unfold f_X2_skipBlanks_59 at hf
  cases hf
  exact h_S
theorem fa_X2_skipBlanks_46 {o : Int32 × ZS} {self0 : Nat → ZS → Option (Int32 × ZS)} {x0 : Nat} {S : ZS} (hself0 : ∀ (z0 : Nat) (S : ZS) (o : Int32 × ZS), self0 z0 S = some o → FrA [] S o.2) (hf : f_X2_skipBlanks_46 self0 x0 S = some o) : FrA [] S o.2 := by
  have h_S : FrA [] S S := fra_0
  unfold f_X2_skipBlanks_46 at hf
  obtain ⟨-, hf⟩ := m_chkE hf
  obtain ⟨v1, e1, hf⟩ := m_bndE hf
  obtain ⟨-, hf⟩ := m_chkE hf
  obtain ⟨S2, e2, hf⟩ := m_bndE hf
  have h_S2 := fra_I h_S e2
  exact fra_t h_S2 (hself0 _ _ _ hf) (fun _ h => h)
theorem fa_X2_skipBlanks_0s {o : Int32 × ZS} {self0 : Nat → ZS → Option (Int32 × ZS)} {x0 : Nat} {S : ZS} (hself0 : ∀ (z0 : Nat) (S : ZS) (o : Int32 × ZS), self0 z0 S = some o → FrA [] S o.2) (hf : f_X2_skipBlanks_0s self0 x0 S = some o) : FrA [] S o.2 := by
  have h_S : FrA [] S S := fra_0
  unfold f_X2_skipBlanks_0s at hf
  obtain ⟨-, hf⟩ := m_chkE hf
  obtain ⟨-, hf⟩ := m_chkE hf
  obtain ⟨b1, -, hf⟩ := m_calE hf
  obtain ⟨-, hf⟩ := m_chkE hf
  obtain ⟨o2, ho, hf⟩ := m_calE hf
  have h_o2 := fra_t h_S (fa_X6_size ho) (by decide)
  clear ho
  rcases m_ifE hf with ⟨-, hf⟩ | ⟨-, hf⟩
  ·
    exact fra_t h_o2 (fa_X2_skipBlanks_59  hf) (fun _ h => h)
  ·
    obtain ⟨-, hf⟩ := m_chkE hf
    obtain ⟨b3, -, hf⟩ := m_calE hf
    obtain ⟨-, hf⟩ := m_chkE hf
    obtain ⟨-, hf⟩ := m_chkE hf
    obtain ⟨o4, ho, hf⟩ := m_calE hf
    have h_o4 := fra_t h_o2 (fa_X6_at ho) (by decide)
    clear ho
    rcases m_ifE hf with ⟨-, hf⟩ | ⟨-, hf⟩
    ·
      exact fra_t h_o4 (fa_X2_skipBlanks_46 hself0 hf) (fun _ h => h)
    ·
      obtain ⟨-, hf⟩ := m_chkE hf
      obtain ⟨b5, -, hf⟩ := m_calE hf
      obtain ⟨-, hf⟩ := m_chkE hf
      obtain ⟨-, hf⟩ := m_chkE hf
      obtain ⟨o6, ho, hf⟩ := m_calE hf
      have h_o6 := fra_t h_o4 (fa_X6_at ho) (by decide)
      clear ho
      rcases m_ifE hf with ⟨-, hf⟩ | ⟨-, hf⟩
      ·
        exact fra_t h_o6 (fa_X2_skipBlanks_46 hself0 hf) (fun _ h => h)
      ·
        exact fra_t h_o6 (fa_X2_skipBlanks_59  hf) (fun _ h => h)
theorem fa_X2_skipBlanks_0   (n : Nat) : ∀ (y0 : Nat) (S : ZS) (o : Int32 × ZS), f_X2_skipBlanks_0  n y0 S = some o → FrA [] S o.2 := by
  induction n with
  | zero => intro y0 S o hf; cases hf
  | succ n ih => intro y0 S o hf; exact fa_X2_skipBlanks_0s  ih hf
theorem fa_X2_skipBlanks {o : Int32 × ZS} {x0 : Nat} {S : ZS}  (hf : f_X2_skipBlanks x0 S = some o) : FrA [] S o.2 := by
  have h_S : FrA [] S S := fra_0
  unfold f_X2_skipBlanks at hf
  exact fra_t h_S (fa_X2_skipBlanks_0  _ _ _ _ hf) (fun _ h => h)
theorem fa_X11_isLetter_29 {o : Int32 × ZS} {t0 : Int32} {S : ZS}  (hf : f_X11_isLetter_29 t0 S = some o) : FrA [] S o.2 := by
  have h_S : FrA [] S S := fra_0
  unfold f_X11_isLetter_29 at hf
  obtain ⟨-, hf⟩ := m_chkE hf
  cases hf
  exact h_S
theorem fa_X11_isLetter_28 {o : Int32 × ZS} {S : ZS}  (hf : f_X11_isLetter_28 S = some o) : FrA [] S o.2 := by
  have h_S : FrA [] S S := fra_0
  unfold f_X11_isLetter_28 at hf
  exact fra_t h_S (fa_X11_isLetter_29  hf) (fun _ h => h)
theorem fa_X11_isLetter_24 {o : Int32 × ZS} {S : ZS}  (hf : f_X11_isLetter_24 S = some o) : FrA [] S o.2 := by
  have h_S : FrA [] S S := fra_0
  unfold f_X11_isLetter_24 at hf
  exact fra_t h_S (fa_X11_isLetter_29  hf) (fun _ h => h)
theorem fa_X11_isLetter_12 {o : Int32 × ZS} {x0 : Int32} {S : ZS}  (hf : f_X11_isLetter_12 x0 S = some o) : FrA [] S o.2 := by
  have h_S : FrA [] S S := fra_0
  unfold f_X11_isLetter_12 at hf
  rcases m_ifE hf with ⟨-, hf⟩ | ⟨-, hf⟩
  ·
    exact fra_t h_S (fa_X11_isLetter_28  hf) (fun _ h => h)
  ·
    rcases m_ifE hf with ⟨-, hf⟩ | ⟨-, hf⟩
    ·
      exact fra_t h_S (fa_X11_isLetter_28  hf) (fun _ h => h)
    ·
      exact fra_t h_S (fa_X11_isLetter_24  hf) (fun _ h => h)
theorem fa_X11_isLetter_0 {o : Int32 × ZS} {x0 : Int32} {S : ZS}  (hf : f_X11_isLetter_0 x0 S = some o) : FrA [] S o.2 := by
  have h_S : FrA [] S S := fra_0
  unfold f_X11_isLetter_0 at hf
  rcases m_ifE hf with ⟨-, hf⟩ | ⟨-, hf⟩
  ·
    exact fra_t h_S (fa_X11_isLetter_12  hf) (fun _ h => h)
  ·
    rcases m_ifE hf with ⟨-, hf⟩ | ⟨-, hf⟩
    ·
      exact fra_t h_S (fa_X11_isLetter_24  hf) (fun _ h => h)
    ·
      exact fra_t h_S (fa_X11_isLetter_12  hf) (fun _ h => h)
theorem fa_X11_isLetter {o : Int32 × ZS} {x0 : Int32} {S : ZS}  (hf : f_X11_isLetter x0 S = some o) : FrA [] S o.2 := by
  have h_S : FrA [] S S := fra_0
  unfold f_X11_isLetter at hf
  exact fra_t h_S (fa_X11_isLetter_0  hf) (fun _ h => h)
theorem fa_X11_isDigit_17 {o : Int32 × ZS} {t0 : Int32} {S : ZS}  (hf : f_X11_isDigit_17 t0 S = some o) : FrA [] S o.2 := by
  have h_S : FrA [] S S := fra_0
  unfold f_X11_isDigit_17 at hf
  obtain ⟨-, hf⟩ := m_chkE hf
  cases hf
  exact h_S
theorem fa_X11_isDigit_16 {o : Int32 × ZS} {S : ZS}  (hf : f_X11_isDigit_16 S = some o) : FrA [] S o.2 := by
  have h_S : FrA [] S S := fra_0
  unfold f_X11_isDigit_16 at hf
  exact fra_t h_S (fa_X11_isDigit_17  hf) (fun _ h => h)
theorem fa_X11_isDigit_0 {o : Int32 × ZS} {x0 : Int32} {S : ZS}  (hf : f_X11_isDigit_0 x0 S = some o) : FrA [] S o.2 := by
  have h_S : FrA [] S S := fra_0
  unfold f_X11_isDigit_0 at hf
  rcases m_ifE hf with ⟨-, hf⟩ | ⟨-, hf⟩
  ·
    exact fra_t h_S (fa_X11_isDigit_16  hf) (fun _ h => h)
  ·
    rcases m_ifE hf with ⟨-, hf⟩ | ⟨-, hf⟩
    ·
      exact fra_t h_S (fa_X11_isDigit_16  hf) (fun _ h => h)
    ·
      exact fra_t h_S (fa_X11_isDigit_17  hf) (fun _ h => h)
theorem fa_X11_isDigit {o : Int32 × ZS} {x0 : Int32} {S : ZS}  (hf : f_X11_isDigit x0 S = some o) : FrA [] S o.2 := by
  have h_S : FrA [] S S := fra_0
  unfold f_X11_isDigit at hf
  exact fra_t h_S (fa_X11_isDigit_0  hf) (fun _ h => h)
theorem fa_X5_skip_0 {o : Int32 × ZS} {x0 : Nat} {x1 : Int32} {S : ZS}  (hf : f_X5_skip_0 x0 x1 S = some o) : FrA [] S o.2 := by
  have h_S : FrA [] S S := fra_0
  unfold f_X5_skip_0 at hf
  obtain ⟨-, hf⟩ := m_chkE hf
  obtain ⟨b1, -, hf⟩ := m_calE hf
  obtain ⟨-, hf⟩ := m_chkE hf
  obtain ⟨-, hf⟩ := m_chkE hf
  obtain ⟨o2, ho, hf⟩ := m_calE hf
  have h_o2 := fra_t h_S (fa_X6_at ho) (by decide)
  clear ho
  rcases m_ifE hf with ⟨-, hf⟩ | ⟨-, hf⟩
  ·
    obtain ⟨-, hf⟩ := m_chkE hf
    obtain ⟨v3, e1, hf⟩ := m_bndE hf
    obtain ⟨-, hf⟩ := m_chkE hf
    obtain ⟨S4, e2, hf⟩ := m_bndE hf
    have h_S4 := fra_I h_o2 e2
    obtain ⟨-, hf⟩ := m_chkE hf
    cases hf
    exact h_S4
  ·
    obtain ⟨-, hf⟩ := m_chkE hf
    cases hf
    exact h_o2
theorem fa_X5_skip {o : Int32 × ZS} {x0 : Nat} {x1 : Int32} {S : ZS}  (hf : f_X5_skip x0 x1 S = some o) : FrA [] S o.2 := by
  have h_S : FrA [] S S := fra_0
  unfold f_X5_skip at hf
  exact fra_t h_S (fa_X5_skip_0  hf) (fun _ h => h)
theorem fa_X11_isRank_17 {o : Int32 × ZS} {t0 : Int32} {S : ZS}  (hf : f_X11_isRank_17 t0 S = some o) : FrA [] S o.2 := by
  have h_S : FrA [] S S := fra_0
  unfold f_X11_isRank_17 at hf
  obtain ⟨-, hf⟩ := m_chkE hf
  cases hf
  exact h_S
theorem fa_X11_isRank_16 {o : Int32 × ZS} {S : ZS}  (hf : f_X11_isRank_16 S = some o) : FrA [] S o.2 := by
  have h_S : FrA [] S S := fra_0
  unfold f_X11_isRank_16 at hf
  exact fra_t h_S (fa_X11_isRank_17  hf) (fun _ h => h)
theorem fa_X11_isRank_0 {o : Int32 × ZS} {x0 : Int32} {S : ZS}  (hf : f_X11_isRank_0 x0 S = some o) : FrA [] S o.2 := by
  have h_S : FrA [] S S := fra_0
  unfold f_X11_isRank_0 at hf
  rcases m_ifE hf with ⟨-, hf⟩ | ⟨-, hf⟩
  ·
    exact fra_t h_S (fa_X11_isRank_16  hf) (fun _ h => h)
  ·
    rcases m_ifE hf with ⟨-, hf⟩ | ⟨-, hf⟩
    ·
      exact fra_t h_S (fa_X11_isRank_16  hf) (fun _ h => h)
    ·
      exact fra_t h_S (fa_X11_isRank_17  hf) (fun _ h => h)
theorem fa_X11_isRank {o : Int32 × ZS} {x0 : Int32} {S : ZS}  (hf : f_X11_isRank x0 S = some o) : FrA [] S o.2 := by
  have h_S : FrA [] S S := fra_0
  unfold f_X11_isRank at hf
  exact fra_t h_S (fa_X11_isRank_0  hf) (fun _ h => h)
theorem fa_J1_canEncode_9a6ad_16 {o : Int32 × ZS} {t0 : Int32} {S : ZS}  (hf : f_J1_canEncode_9a6ad_16 t0 S = some o) : FrA [] S o.2 := by
  have h_S : FrA [] S S := fra_0
  unfold f_J1_canEncode_9a6ad_16 at hf
  obtain ⟨-, hf⟩ := m_chkE hf
  cases hf
  exact h_S
theorem fa_J1_canEncode_9a6ad_15 {o : Int32 × ZS} {S : ZS}  (hf : f_J1_canEncode_9a6ad_15 S = some o) : FrA [] S o.2 := by
  have h_S : FrA [] S S := fra_0
  unfold f_J1_canEncode_9a6ad_15 at hf
  exact fra_t h_S (fa_J1_canEncode_9a6ad_16  hf) (fun _ h => h)
theorem fa_J1_canEncode_9a6ad_0 {o : Int32 × ZS} {x0 : Int32} {S : ZS}  (hf : f_J1_canEncode_9a6ad_0 x0 S = some o) : FrA [] S o.2 := by
  have h_S : FrA [] S S := fra_0
  unfold f_J1_canEncode_9a6ad_0 at hf
  rcases m_ifE hf with ⟨-, hf⟩ | ⟨-, hf⟩
  ·
    exact fra_t h_S (fa_J1_canEncode_9a6ad_15  hf) (fun _ h => h)
  ·
    rcases m_ifE hf with ⟨-, hf⟩ | ⟨-, hf⟩
    ·
      exact fra_t h_S (fa_J1_canEncode_9a6ad_15  hf) (fun _ h => h)
    ·
      exact fra_t h_S (fa_J1_canEncode_9a6ad_16  hf) (fun _ h => h)
theorem fa_J1_canEncode_9a6ad {o : Int32 × ZS} {x0 : Int32} {S : ZS}  (hf : f_J1_canEncode_9a6ad x0 S = some o) : FrA [] S o.2 := by
  have h_S : FrA [] S S := fra_0
  unfold f_J1_canEncode_9a6ad at hf
  exact fra_t h_S (fa_J1_canEncode_9a6ad_0  hf) (fun _ h => h)
theorem fa_J1_indexOfChar_4cfef_7s {o : Int32 × ZS} {self7 : Nat → Int32 → Int32 → Int32 → ZS → Option (Int32 × ZS)} {x0 : Nat} {x3 : Int32} {x4 : Int32} {x5 : Int32} {S : ZS} (hself7 : ∀ (z0 : Nat) (z1 : Int32) (z2 : Int32) (z3 : Int32) (S : ZS) (o : Int32 × ZS), self7 z0 z1 z2 z3 S = some o → FrA [] S o.2) (hf : f_J1_indexOfChar_4cfef_7s self7 x0 x3 x4 x5 S = some o) : FrA [] S o.2 := by
  have h_S : FrA [] S S := fra_0
  unfold f_J1_indexOfChar_4cfef_7s at hf
  rcases m_ifE hf with ⟨-, hf⟩ | ⟨-, hf⟩
  ·
    cases hf
    exact h_S
  ·
    obtain ⟨-, hf⟩ := m_chkE hf
    obtain ⟨-, hf⟩ := m_chkE hf
    obtain ⟨v1, e1, hf⟩ := m_bndE hf
    rcases m_ifE hf with ⟨-, hf⟩ | ⟨-, hf⟩
    ·
      cases hf
      exact h_S
    ·
      obtain ⟨v2, e2, hf⟩ := m_bndE hf
      exact fra_t h_S (hself7 _ _ _ _ _ _ hf) (fun _ h => h)
theorem fa_J1_indexOfChar_4cfef_7   (n : Nat) : ∀ (y0 : Nat) (y1 : Int32) (y2 : Int32) (y3 : Int32) (S : ZS) (o : Int32 × ZS), f_J1_indexOfChar_4cfef_7  n y0 y1 y2 y3 S = some o → FrA [] S o.2 := by
  induction n with
  | zero => intro y0 y1 y2 y3 S o hf; cases hf
  | succ n ih => intro y0 y1 y2 y3 S o hf; exact fa_J1_indexOfChar_4cfef_7s  ih hf
theorem fa_J1_indexOfChar_4cfef_0 {o : Int32 × ZS} {x0 : Nat} {x1 : Int32} {x2 : Int32} {x3 : Int32} {S : ZS}  (hf : f_J1_indexOfChar_4cfef_0 x0 x1 x2 x3 S = some o) : FrA [] S o.2 := by
  have h_S : FrA [] S S := fra_0
  unfold f_J1_indexOfChar_4cfef_0 at hf
  obtain ⟨v1, e1, hf⟩ := m_bndE hf
  exact fra_t h_S (fa_J1_indexOfChar_4cfef_7  _ _ _ _ _ _ _ hf) (fun _ h => h)
theorem fa_J1_indexOfChar_4cfef {o : Int32 × ZS} {x0 : Nat} {x1 : Int32} {x2 : Int32} {x3 : Int32} {S : ZS}  (hf : f_J1_indexOfChar_4cfef x0 x1 x2 x3 S = some o) : FrA [] S o.2 := by
  have h_S : FrA [] S S := fra_0
  unfold f_J1_indexOfChar_4cfef at hf
  exact fra_t h_S (fa_J1_indexOfChar_4cfef_0  hf) (fun _ h => h)
theorem fa_J1_indexOf_4cfef_0 {o : Int32 × ZS} {x0 : Nat} {x1 : Int32} {x2 : Int32} {x3 : Int32} {S : ZS}  (hf : f_J1_indexOf_4cfef_0 x0 x1 x2 x3 S = some o) : FrA [] S o.2 := by
  have h_S : FrA [] S S := fra_0
  unfold f_J1_indexOf_4cfef_0 at hf
  obtain ⟨o1, ho, hf⟩ := m_calE hf
  have h_o1 := fra_t h_S (fa_J1_canEncode_9a6ad ho) (by decide)
  clear ho
  rcases m_ifE hf with ⟨-, hf⟩ | ⟨-, hf⟩
  ·
    cases hf
    exact h_o1
  ·
    obtain ⟨v2, e1, hf⟩ := m_bndE hf
    obtain ⟨-, hf⟩ := m_chkE hf
    obtain ⟨v3, e2, hf⟩ := m_bndE hf
    obtain ⟨v4, e3, hf⟩ := m_bndE hf
    rcases m_ifE hf with ⟨-, hf⟩ | ⟨-, hf⟩
    ·
      obtain ⟨o5, ho, hf⟩ := m_calE hf
      have h_o5 := fra_t h_o1 (fa_J1_indexOfChar_4cfef ho) (by decide)
      clear ho
      cases hf
      exact h_o5
    ·
      cases hf
      exact h_o1
theorem fa_J1_indexOf_4cfef {o : Int32 × ZS} {x0 : Nat} {x1 : Int32} {x2 : Int32} {x3 : Int32} {S : ZS}  (hf : f_J1_indexOf_4cfef x0 x1 x2 x3 S = some o) : FrA [] S o.2 := by
  have h_S : FrA [] S S := fra_0
  unfold f_J1_indexOf_4cfef at hf
  exact fra_t h_S (fa_J1_indexOf_4cfef_0  hf) (fun _ h => h)
theorem fa_J0_indexOf_7cf53_0 {o : Int32 × ZS} {x0 : Nat} {x1 : Int32} {x2 : Int32} {S : ZS}  (hf : f_J0_indexOf_7cf53_0 x0 x1 x2 S = some o) : FrA [] S o.2 := by
  have h_S : FrA [] S S := fra_0
  unfold f_J0_indexOf_7cf53_0 at hf
  obtain ⟨-, hf⟩ := m_chkE hf
  obtain ⟨o1, ho, hf⟩ := m_calE hf
  have h_o1 := fra_t h_S (fa_J0_isLatin1_aae02 ho) (by decide)
  clear ho
  rcases m_ifE hf with ⟨-, hf⟩ | ⟨-, hf⟩
  ·
    cases hf
  ·
    obtain ⟨-, hf⟩ := m_chkE hf
    obtain ⟨-, hf⟩ := m_chkE hf
    obtain ⟨o2, ho, hf⟩ := m_calE hf
    have h_o2 := fra_t h_o1 (fa_J0_length_8abf5 ho) (by decide)
    clear ho
    obtain ⟨o3, ho, hf⟩ := m_calE hf
    have h_o3 := fra_t h_o2 (fa_J1_indexOf_4cfef ho) (by decide)
    clear ho
    cases hf
    exact h_o3
theorem fa_J0_indexOf_7cf53 {o : Int32 × ZS} {x0 : Nat} {x1 : Int32} {x2 : Int32} {S : ZS}  (hf : f_J0_indexOf_7cf53 x0 x1 x2 S = some o) : FrA [] S o.2 := by
  have h_S : FrA [] S S := fra_0
  unfold f_J0_indexOf_7cf53 at hf
  exact fra_t h_S (fa_J0_indexOf_7cf53_0  hf) (fun _ h => h)
theorem fa_J0_indexOf_0f7a4_0 {o : Int32 × ZS} {x0 : Nat} {x1 : Int32} {S : ZS}  (hf : f_J0_indexOf_0f7a4_0 x0 x1 S = some o) : FrA [] S o.2 := by
  have h_S : FrA [] S S := fra_0
  unfold f_J0_indexOf_0f7a4_0 at hf
  obtain ⟨-, hf⟩ := m_chkE hf
  obtain ⟨o1, ho, hf⟩ := m_calE hf
  have h_o1 := fra_t h_S (fa_J0_indexOf_7cf53 ho) (by decide)
  clear ho
  cases hf
  exact h_o1
theorem fa_J0_indexOf_0f7a4 {o : Int32 × ZS} {x0 : Nat} {x1 : Int32} {S : ZS}  (hf : f_J0_indexOf_0f7a4 x0 x1 S = some o) : FrA [] S o.2 := by
  have h_S : FrA [] S S := fra_0
  unfold f_J0_indexOf_0f7a4 at hf
  exact fra_t h_S (fa_J0_indexOf_0f7a4_0  hf) (fun _ h => h)
theorem fa_X5_readRank_136 {o : Int32 × ZS} {t0 : Int32} {S : ZS}  (hf : f_X5_readRank_136 t0 S = some o) : FrA [14] S o.2 := by
  have h_S : FrA [14] S S := fra_0
  unfold f_X5_readRank_136 at hf
  obtain ⟨-, hf⟩ := m_chkE hf
  cases hf
  exact h_S
theorem fa_X5_readRank_105 {o : Int32 × ZS} {self5 : Nat → Nat → Int32 → Int32 → Int32 → ZS → Option (Int32 × ZS)} {x0 : Nat} {x1 : Nat} {x2 : Int32} {x6 : Int32} {t0 : Int32} {t1 : Int32} {S : ZS} (hself5 : ∀ (z0 : Nat) (z1 : Nat) (z2 : Int32) (z3 : Int32) (z4 : Int32) (S : ZS) (o : Int32 × ZS), self5 z0 z1 z2 z3 z4 S = some o → FrA [14] S o.2) (hf : f_X5_readRank_105 self5 x0 x1 x2 x6 t0 t1 S = some o) : FrA [14] S o.2 := by
  have h_S : FrA [14] S S := fra_0
  unfold f_X5_readRank_105 at hf
  obtain ⟨v1, e1, hf⟩ := m_bndE hf
  obtain ⟨-, hf⟩ := m_chkE hf
  obtain ⟨v2, e2, hf⟩ := m_bndE hf
  obtain ⟨-, hf⟩ := m_chkE hf
  obtain ⟨S3, e3, hf⟩ := m_bndE hf
  have h_S3 := fra_I h_S e3
  exact fra_t h_S3 (hself5 _ _ _ _ _ _ _ hf) (fun _ h => h)
theorem fa_X5_readRank_89 {o : Int32 × ZS} {self5 : Nat → Nat → Int32 → Int32 → Int32 → ZS → Option (Int32 × ZS)} {x0 : Nat} {x1 : Nat} {x2 : Int32} {x4 : Int32} {x5 : Int32} {x6 : Int32} {S : ZS} (hself5 : ∀ (z0 : Nat) (z1 : Nat) (z2 : Int32) (z3 : Int32) (z4 : Int32) (S : ZS) (o : Int32 × ZS), self5 z0 z1 z2 z3 z4 S = some o → FrA [14] S o.2) (hf : f_X5_readRank_89 self5 x0 x1 x2 x4 x5 x6 S = some o) : FrA [14] S o.2 := by
  have h_S : FrA [14] S S := fra_0
  unfold f_X5_readRank_89 at hf
  rcases m_ifE hf with ⟨-, hf⟩ | ⟨-, hf⟩
  ·
    exact fra_t h_S (fa_X5_readRank_105 hself5 hf) (fun _ h => h)
  ·
    obtain ⟨v1, e1, hf⟩ := m_bndE hf
    exact fra_t h_S (fa_X5_readRank_105 hself5 hf) (fun _ h => h)
theorem fa_X5_readRank_74 {o : Int32 × ZS} {self5 : Nat → Nat → Int32 → Int32 → Int32 → ZS → Option (Int32 × ZS)} {x0 : Nat} {x1 : Nat} {x2 : Int32} {x4 : Int32} {x5 : Int32} {x6 : Int32} {x7 : Int32} {S : ZS} (hself5 : ∀ (z0 : Nat) (z1 : Nat) (z2 : Int32) (z3 : Int32) (z4 : Int32) (S : ZS) (o : Int32 × ZS), self5 z0 z1 z2 z3 z4 S = some o → FrA [14] S o.2) (hf : f_X5_readRank_74 self5 x0 x1 x2 x4 x5 x6 x7 S = some o) : FrA [14] S o.2 := by
  have h_S : FrA [14] S S := fra_0
  unfold f_X5_readRank_74 at hf
  rcases m_ifE hf with ⟨-, hf⟩ | ⟨-, hf⟩
  ·
    obtain ⟨v1, e1, hf⟩ := m_bndE hf
    obtain ⟨-, hf⟩ := m_chkE hf
    obtain ⟨o2, ho, hf⟩ := m_calE hf
    have h_o2 := fra_t h_S (fa_X0_put ho) (by decide)
    clear ho
    exact fra_t h_o2 (fa_X5_readRank_89 hself5 hf) (fun _ h => h)
  ·
    exact fra_t h_S (fa_X5_readRank_89 hself5 hf) (fun _ h => h)
theorem fa_X5_readRank_72 {o : Int32 × ZS} {S : ZS}  (hf : f_X5_readRank_72 S = some o) : FrA [14] S o.2 := by
  have h_S : FrA [14] S S := fra_0
  unfold f_X5_readRank_72 at hf
  obtain ⟨-, hf⟩ := m_chkE hf
  cases hf
  exact h_S
theorem fa_X5_readRank_53 {o : Int32 × ZS} {self5 : Nat → Nat → Int32 → Int32 → Int32 → ZS → Option (Int32 × ZS)} {x0 : Nat} {x1 : Nat} {x2 : Int32} {x3 : Int32} {x4 : Int32} {x5 : Int32} {x6 : Int32} {t0 : Int32} {S : ZS} (hself5 : ∀ (z0 : Nat) (z1 : Nat) (z2 : Int32) (z3 : Int32) (z4 : Int32) (S : ZS) (o : Int32 × ZS), self5 z0 z1 z2 z3 z4 S = some o → FrA [14] S o.2) (hf : f_X5_readRank_53 self5 x0 x1 x2 x3 x4 x5 x6 t0 S = some o) : FrA [14] S o.2 := by
  have h_S : FrA [14] S S := fra_0
  unfold f_X5_readRank_53 at hf
  rcases m_ifE hf with ⟨-, hf⟩ | ⟨-, hf⟩
  ·
    rcases m_ifE hf with ⟨-, hf⟩ | ⟨-, hf⟩
    ·
      exact fra_t h_S (fa_X5_readRank_72  hf) (fun _ h => h)
    ·
      exact fra_t h_S (fa_X5_readRank_74 hself5 hf) (fun _ h => h)
  ·
    rcases m_ifE hf with ⟨-, hf⟩ | ⟨-, hf⟩
    ·
      exact fra_t h_S (fa_X5_readRank_74 hself5 hf) (fun _ h => h)
    ·
      exact fra_t h_S (fa_X5_readRank_72  hf) (fun _ h => h)
theorem fa_X5_readRank_5s {o : Int32 × ZS} {self5 : Nat → Nat → Int32 → Int32 → Int32 → ZS → Option (Int32 × ZS)} {x0 : Nat} {x1 : Nat} {x2 : Int32} {x3 : Int32} {x4 : Int32} {S : ZS} (hself5 : ∀ (z0 : Nat) (z1 : Nat) (z2 : Int32) (z3 : Int32) (z4 : Int32) (S : ZS) (o : Int32 × ZS), self5 z0 z1 z2 z3 z4 S = some o → FrA [14] S o.2) (hf : f_X5_readRank_5s self5 x0 x1 x2 x3 x4 S = some o) : FrA [14] S o.2 := by
  have h_S : FrA [14] S S := fra_0
  unfold f_X5_readRank_5s at hf
  rcases m_ifE hf with ⟨-, hf⟩ | ⟨-, hf⟩
  ·
    rcases m_ifE hf with ⟨-, hf⟩ | ⟨-, hf⟩
    ·
      exact fra_t h_S (fa_X5_readRank_136  hf) (fun _ h => h)
    ·
      exact fra_t h_S (fa_X5_readRank_136  hf) (fun _ h => h)
  ·
    obtain ⟨-, hf⟩ := m_chkE hf
    obtain ⟨b1, -, hf⟩ := m_calE hf
    obtain ⟨-, hf⟩ := m_chkE hf
    obtain ⟨-, hf⟩ := m_chkE hf
    obtain ⟨o2, ho, hf⟩ := m_calE hf
    have h_o2 := fra_t h_S (fa_X6_at ho) (by decide)
    clear ho
    obtain ⟨o3, ho, hf⟩ := m_calE hf
    have h_o3 := fra_t h_o2 (fa_X11_isRank ho) (by decide)
    clear ho
    obtain ⟨o4, ho, hf⟩ := m_calE hf
    have h_o4 := fra_t h_o3 (fa_X11_isLetter ho) (by decide)
    clear ho
    rcases m_ifE hf with ⟨-, hf⟩ | ⟨-, hf⟩
    ·
      exact fra_t h_o4 (fa_X5_readRank_53 hself5 hf) (fun _ h => h)
    ·
      obtain ⟨-, hf⟩ := m_chkE hf
      obtain ⟨o5, ho, hf⟩ := m_calE hf
      have h_o5 := fra_t h_o4 (fa_J0_indexOf_0f7a4 ho) (by decide)
      clear ho
      obtain ⟨v6, e1, hf⟩ := m_bndE hf
      exact fra_t h_o5 (fa_X5_readRank_53 hself5 hf) (fun _ h => h)
theorem fa_X5_readRank_5   (n : Nat) : ∀ (y0 : Nat) (y1 : Nat) (y2 : Int32) (y3 : Int32) (y4 : Int32) (S : ZS) (o : Int32 × ZS), f_X5_readRank_5  n y0 y1 y2 y3 y4 S = some o → FrA [14] S o.2 := by
  induction n with
  | zero => intro y0 y1 y2 y3 y4 S o hf; cases hf
  | succ n ih => intro y0 y1 y2 y3 y4 S o hf; exact fa_X5_readRank_5s  ih hf
theorem fa_X5_readRank_0 {o : Int32 × ZS} {x0 : Nat} {x1 : Nat} {x2 : Int32} {S : ZS}  (hf : f_X5_readRank_0 x0 x1 x2 S = some o) : FrA [14] S o.2 := by
  have h_S : FrA [14] S S := fra_0
  unfold f_X5_readRank_0 at hf
  exact fra_t h_S (fa_X5_readRank_5  _ _ _ _ _ _ _ _ hf) (fun _ h => h)
theorem fa_X5_readRank {o : Int32 × ZS} {x0 : Nat} {x1 : Nat} {x2 : Int32} {S : ZS}  (hf : f_X5_readRank x0 x1 x2 S = some o) : FrA [14] S o.2 := by
  have h_S : FrA [14] S S := fra_0
  unfold f_X5_readRank at hf
  exact fra_t h_S (fa_X5_readRank_0  hf) (fun _ h => h)
theorem fa_X5_readMen_34 {o : Int32 × ZS} {S : ZS}  (hf : f_X5_readMen_34 S = some o) : FrA [14] S o.2 := by
  have h_S : FrA [14] S S := fra_0
  unfold f_X5_readMen_34 at hf
  obtain ⟨-, hf⟩ := m_chkE hf
  cases hf
  exact h_S
theorem fa_X5_readMen_22 {o : Int32 × ZS} {self3 : Nat → Nat → Int32 → ZS → Option (Int32 × ZS)} {x0 : Nat} {x1 : Nat} {x2 : Int32} {S : ZS} (hself3 : ∀ (z0 : Nat) (z1 : Nat) (z2 : Int32) (S : ZS) (o : Int32 × ZS), self3 z0 z1 z2 S = some o → FrA [14] S o.2) (hf : f_X5_readMen_22 self3 x0 x1 x2 S = some o) : FrA [14] S o.2 := by
  have h_S : FrA [14] S S := fra_0
  unfold f_X5_readMen_22 at hf
  obtain ⟨v1, e1, hf⟩ := m_bndE hf
  obtain ⟨-, hf⟩ := m_chkE hf
  obtain ⟨o2, ho, hf⟩ := m_calE hf
  have h_o2 := fra_t h_S (fa_X5_readRank ho) (by decide)
  clear ho
  rcases m_ifE hf with ⟨-, hf⟩ | ⟨-, hf⟩
  ·
    exact fra_t h_o2 (fa_X5_readMen_34  hf) (fun _ h => h)
  ·
    obtain ⟨v3, e2, hf⟩ := m_bndE hf
    exact fra_t h_o2 (hself3 _ _ _ _ _ hf) (fun _ h => h)
theorem fa_X5_readMen_3s {o : Int32 × ZS} {self3 : Nat → Nat → Int32 → ZS → Option (Int32 × ZS)} {x0 : Nat} {x1 : Nat} {x2 : Int32} {S : ZS} (hself3 : ∀ (z0 : Nat) (z1 : Nat) (z2 : Int32) (S : ZS) (o : Int32 × ZS), self3 z0 z1 z2 S = some o → FrA [14] S o.2) (hf : f_X5_readMen_3s self3 x0 x1 x2 S = some o) : FrA [14] S o.2 := by
  have h_S : FrA [14] S S := fra_0
  unfold f_X5_readMen_3s at hf
  rcases m_ifE hf with ⟨-, hf⟩ | ⟨-, hf⟩
  ·
    obtain ⟨-, hf⟩ := m_chkE hf
    cases hf
    exact h_S
  ·
    rcases m_ifE hf with ⟨-, hf⟩ | ⟨-, hf⟩
    ·
      exact fra_t h_S (fa_X5_readMen_22 hself3 hf) (fun _ h => h)
    ·
      obtain ⟨-, hf⟩ := m_chkE hf
      obtain ⟨o1, ho, hf⟩ := m_calE hf
      have h_o1 := fra_t h_S (fa_X5_skip ho) (by decide)
      clear ho
      rcases m_ifE hf with ⟨-, hf⟩ | ⟨-, hf⟩
      ·
        exact fra_t h_o1 (fa_X5_readMen_34  hf) (fun _ h => h)
      ·
        exact fra_t h_o1 (fa_X5_readMen_22 hself3 hf) (fun _ h => h)
theorem fa_X5_readMen_3   (n : Nat) : ∀ (y0 : Nat) (y1 : Nat) (y2 : Int32) (S : ZS) (o : Int32 × ZS), f_X5_readMen_3  n y0 y1 y2 S = some o → FrA [14] S o.2 := by
  induction n with
  | zero => intro y0 y1 y2 S o hf; cases hf
  | succ n ih => intro y0 y1 y2 S o hf; exact fa_X5_readMen_3s  ih hf
theorem fa_X5_readMen_0 {o : Int32 × ZS} {x0 : Nat} {x1 : Nat} {S : ZS}  (hf : f_X5_readMen_0 x0 x1 S = some o) : FrA [14] S o.2 := by
  have h_S : FrA [14] S S := fra_0
  unfold f_X5_readMen_0 at hf
  exact fra_t h_S (fa_X5_readMen_3  _ _ _ _ _ _ hf) (fun _ h => h)
theorem fa_X5_readMen {o : Int32 × ZS} {x0 : Nat} {x1 : Nat} {S : ZS}  (hf : f_X5_readMen x0 x1 S = some o) : FrA [14] S o.2 := by
  have h_S : FrA [14] S S := fra_0
  unfold f_X5_readMen at hf
  exact fra_t h_S (fa_X5_readMen_0  hf) (fun _ h => h)
theorem fa_X5_readSide_48 {o : Int32 × ZS} {t0 : Int32} {S : ZS}  (hf : f_X5_readSide_48 t0 S = some o) : FrA [] S o.2 := by
  have h_S : FrA [] S S := fra_0
  unfold f_X5_readSide_48 at hf
  obtain ⟨-, hf⟩ := m_chkE hf
  cases hf
  exact h_S
theorem fa_X5_readSide_43 {o : Int32 × ZS} {S : ZS}  (hf : f_X5_readSide_43 S = some o) : FrA [] S o.2 := by
  have h_S : FrA [] S S := fra_0
  unfold f_X5_readSide_43 at hf
  exact fra_t h_S (fa_X5_readSide_48  hf) (fun _ h => h)
theorem fa_X5_readSide_22 {o : Int32 × ZS} {x0 : Nat} {t0 : Int32} {t1 : Nat} {S : ZS}  (hf : f_X5_readSide_22 x0 t0 t1 S = some o) : FrA [] S o.2 := by
  have h_S : FrA [] S S := fra_0
  unfold f_X5_readSide_22 at hf
  obtain ⟨-, hf⟩ := m_chkE hf
  obtain ⟨S1, e1, hf⟩ := m_bndE hf
  have h_S1 := fra_I h_S e1
  obtain ⟨-, hf⟩ := m_chkE hf
  obtain ⟨o2, ho, hf⟩ := m_calE hf
  have h_o2 := fra_t h_S1 (fa_X5_skip ho) (by decide)
  clear ho
  rcases m_ifE hf with ⟨-, hf⟩ | ⟨-, hf⟩
  ·
    obtain ⟨-, hf⟩ := m_chkE hf
    obtain ⟨o3, ho, hf⟩ := m_calE hf
    have h_o3 := fra_t h_o2 (fa_X5_skip ho) (by decide)
    clear ho
    rcases m_ifE hf with ⟨-, hf⟩ | ⟨-, hf⟩
    ·
      exact fra_t h_o3 (fa_X5_readSide_48  hf) (fun _ h => h)
    ·
      exact fra_t h_o3 (fa_X5_readSide_43  hf) (fun _ h => h)
  ·
    exact fra_t h_o2 (fa_X5_readSide_43  hf) (fun _ h => h)
theorem fa_X5_readSide_0 {o : Int32 × ZS} {x0 : Nat} {x1 : Nat} {S : ZS}  (hf : f_X5_readSide_0 x0 x1 S = some o) : FrA [] S o.2 := by
  have h_S : FrA [] S S := fra_0
  unfold f_X5_readSide_0 at hf
  obtain ⟨-, hf⟩ := m_chkE hf
  obtain ⟨b1, -, hf⟩ := m_calE hf
  obtain ⟨-, hf⟩ := m_chkE hf
  obtain ⟨-, hf⟩ := m_chkE hf
  obtain ⟨o2, ho, hf⟩ := m_calE hf
  have h_o2 := fra_t h_S (fa_X6_at ho) (by decide)
  clear ho
  rcases m_ifE hf with ⟨-, hf⟩ | ⟨-, hf⟩
  ·
    exact fra_t h_o2 (fa_X5_readSide_22  hf) (fun _ h => h)
  ·
    exact fra_t h_o2 (fa_X5_readSide_22  hf) (fun _ h => h)
theorem fa_X5_readSide {o : Int32 × ZS} {x0 : Nat} {x1 : Nat} {S : ZS}  (hf : f_X5_readSide x0 x1 S = some o) : FrA [] S o.2 := by
  have h_S : FrA [] S S := fra_0
  unfold f_X5_readSide at hf
  exact fra_t h_S (fa_X5_readSide_0  hf) (fun _ h => h)
theorem fa_X5_readRights_65 {o : Int32 × ZS} {t0 : Int32} {S : ZS}  (hf : f_X5_readRights_65 t0 S = some o) : FrA [] S o.2 := by
  have h_S : FrA [] S S := fra_0
  unfold f_X5_readRights_65 at hf
  obtain ⟨-, hf⟩ := m_chkE hf
  cases hf
  exact h_S
theorem fa_X5_readRights_47 {o : Int32 × ZS} {self13 : Nat → Nat → Int32 → ZS → Option (Int32 × ZS)} {x0 : Nat} {x1 : Nat} {x2 : Int32} {S : ZS} (hself13 : ∀ (z0 : Nat) (z1 : Nat) (z2 : Int32) (S : ZS) (o : Int32 × ZS), self13 z0 z1 z2 S = some o → FrA [] S o.2) (hf : f_X5_readRights_47 self13 x0 x1 x2 S = some o) : FrA [] S o.2 := by
  have h_S : FrA [] S S := fra_0
  unfold f_X5_readRights_47 at hf
  obtain ⟨v1, e1, hf⟩ := m_bndE hf
  exact fra_t h_S (hself13 _ _ _ _ _ hf) (fun _ h => h)
theorem fa_X5_readRights_13s {o : Int32 × ZS} {self13 : Nat → Nat → Int32 → ZS → Option (Int32 × ZS)} {x0 : Nat} {x1 : Nat} {x2 : Int32} {S : ZS} (hself13 : ∀ (z0 : Nat) (z1 : Nat) (z2 : Int32) (S : ZS) (o : Int32 × ZS), self13 z0 z1 z2 S = some o → FrA [] S o.2) (hf : f_X5_readRights_13s self13 x0 x1 x2 S = some o) : FrA [] S o.2 := by
  have h_S : FrA [] S S := fra_0
  unfold f_X5_readRights_13s at hf
  obtain ⟨-, hf⟩ := m_chkE hf
  obtain ⟨o1, ho, hf⟩ := m_calE hf
  have h_o1 := fra_t h_S (fa_J0_length_8abf5 ho) (by decide)
  clear ho
  rcases m_ifE hf with ⟨-, hf⟩ | ⟨-, hf⟩
  ·
    obtain ⟨-, hf⟩ := m_chkE hf
    rcases m_ifE hf with ⟨-, hf⟩ | ⟨-, hf⟩
    ·
      exact fra_t h_o1 (fa_X5_readRights_65  hf) (fun _ h => h)
    ·
      exact fra_t h_o1 (fa_X5_readRights_65  hf) (fun _ h => h)
  ·
    obtain ⟨-, hf⟩ := m_chkE hf
    obtain ⟨o2, ho, hf⟩ := m_calE hf
    have h_o2 := fra_t h_o1 (fa_J0_charAt_5068e ho) (by decide)
    clear ho
    obtain ⟨-, hf⟩ := m_chkE hf
    obtain ⟨o3, ho, hf⟩ := m_calE hf
    have h_o3 := fra_t h_o2 (fa_X5_skip ho) (by decide)
    clear ho
    rcases m_ifE hf with ⟨-, hf⟩ | ⟨-, hf⟩
    ·
      exact fra_t h_o3 (fa_X5_readRights_47 hself13 hf) (fun _ h => h)
    ·
      obtain ⟨-, hf⟩ := m_chkE hf
      obtain ⟨v4, e1, hf⟩ := m_bndE hf
      obtain ⟨v5, e2, hf⟩ := m_bndE hf
      obtain ⟨-, hf⟩ := m_chkE hf
      obtain ⟨S6, e3, hf⟩ := m_bndE hf
      have h_S6 := fra_I h_o3 e3
      exact fra_t h_S6 (fa_X5_readRights_47 hself13 hf) (fun _ h => h)
theorem fa_X5_readRights_13   (n : Nat) : ∀ (y0 : Nat) (y1 : Nat) (y2 : Int32) (S : ZS) (o : Int32 × ZS), f_X5_readRights_13  n y0 y1 y2 S = some o → FrA [] S o.2 := by
  induction n with
  | zero => intro y0 y1 y2 S o hf; cases hf
  | succ n ih => intro y0 y1 y2 S o hf; exact fa_X5_readRights_13s  ih hf
theorem fa_X5_readRights_0 {o : Int32 × ZS} {x0 : Nat} {x1 : Nat} {S : ZS}  (hf : f_X5_readRights_0 x0 x1 S = some o) : FrA [] S o.2 := by
  have h_S : FrA [] S S := fra_0
  unfold f_X5_readRights_0 at hf
  obtain ⟨-, hf⟩ := m_chkE hf
  obtain ⟨o1, ho, hf⟩ := m_calE hf
  have h_o1 := fra_t h_S (fa_X5_skip ho) (by decide)
  clear ho
  rcases m_ifE hf with ⟨-, hf⟩ | ⟨-, hf⟩
  ·
    exact fra_t h_o1 (fa_X5_readRights_13  _ _ _ _ _ _ hf) (fun _ h => h)
  ·
    obtain ⟨-, hf⟩ := m_chkE hf
    cases hf
    exact h_o1
theorem fa_X5_readRights {o : Int32 × ZS} {x0 : Nat} {x1 : Nat} {S : ZS}  (hf : f_X5_readRights x0 x1 S = some o) : FrA [] S o.2 := by
  have h_S : FrA [] S S := fra_0
  unfold f_X5_readRights at hf
  exact fra_t h_S (fa_X5_readRights_0  hf) (fun _ h => h)
theorem fa_X11_isFile_17 {o : Int32 × ZS} {t0 : Int32} {S : ZS}  (hf : f_X11_isFile_17 t0 S = some o) : FrA [] S o.2 := by
  have h_S : FrA [] S S := fra_0
  unfold f_X11_isFile_17 at hf
  obtain ⟨-, hf⟩ := m_chkE hf
  cases hf
  exact h_S
theorem fa_X11_isFile_16 {o : Int32 × ZS} {S : ZS}  (hf : f_X11_isFile_16 S = some o) : FrA [] S o.2 := by
  have h_S : FrA [] S S := fra_0
  unfold f_X11_isFile_16 at hf
  exact fra_t h_S (fa_X11_isFile_17  hf) (fun _ h => h)
theorem fa_X11_isFile_0 {o : Int32 × ZS} {x0 : Int32} {S : ZS}  (hf : f_X11_isFile_0 x0 S = some o) : FrA [] S o.2 := by
  have h_S : FrA [] S S := fra_0
  unfold f_X11_isFile_0 at hf
  rcases m_ifE hf with ⟨-, hf⟩ | ⟨-, hf⟩
  ·
    exact fra_t h_S (fa_X11_isFile_16  hf) (fun _ h => h)
  ·
    rcases m_ifE hf with ⟨-, hf⟩ | ⟨-, hf⟩
    ·
      exact fra_t h_S (fa_X11_isFile_16  hf) (fun _ h => h)
    ·
      exact fra_t h_S (fa_X11_isFile_17  hf) (fun _ h => h)
theorem fa_X11_isFile {o : Int32 × ZS} {x0 : Int32} {S : ZS}  (hf : f_X11_isFile x0 S = some o) : FrA [] S o.2 := by
  have h_S : FrA [] S S := fra_0
  unfold f_X11_isFile at hf
  exact fra_t h_S (fa_X11_isFile_0  hf) (fun _ h => h)
theorem fa_X11_squareOf_30 {o : Int32 × ZS} {t0 : Int32} {S : ZS}  (hf : f_X11_squareOf_30 t0 S = some o) : FrA [] S o.2 := by
  have h_S : FrA [] S S := fra_0
  unfold f_X11_squareOf_30 at hf
  cases hf
  exact h_S
theorem fa_X11_squareOf_29 {o : Int32 × ZS} {S : ZS}  (hf : f_X11_squareOf_29 S = some o) : FrA [] S o.2 := by
  have h_S : FrA [] S S := fra_0
  unfold f_X11_squareOf_29 at hf
  exact fra_t h_S (fa_X11_squareOf_30  hf) (fun _ h => h)
theorem fa_X11_squareOf_0 {o : Int32 × ZS} {x0 : Int32} {x1 : Int32} {S : ZS}  (hf : f_X11_squareOf_0 x0 x1 S = some o) : FrA [] S o.2 := by
  have h_S : FrA [] S S := fra_0
  unfold f_X11_squareOf_0 at hf
  obtain ⟨o1, ho, hf⟩ := m_calE hf
  have h_o1 := fra_t h_S (fa_X11_isFile ho) (by decide)
  clear ho
  rcases m_ifE hf with ⟨-, hf⟩ | ⟨-, hf⟩
  ·
    exact fra_t h_o1 (fa_X11_squareOf_29  hf) (fun _ h => h)
  ·
    obtain ⟨o2, ho, hf⟩ := m_calE hf
    have h_o2 := fra_t h_o1 (fa_X11_isRank ho) (by decide)
    clear ho
    rcases m_ifE hf with ⟨-, hf⟩ | ⟨-, hf⟩
    ·
      exact fra_t h_o2 (fa_X11_squareOf_29  hf) (fun _ h => h)
    ·
      obtain ⟨v3, e1, hf⟩ := m_bndE hf
      obtain ⟨v4, e2, hf⟩ := m_bndE hf
      obtain ⟨v5, e3, hf⟩ := m_bndE hf
      obtain ⟨v6, e4, hf⟩ := m_bndE hf
      exact fra_t h_o2 (fa_X11_squareOf_30  hf) (fun _ h => h)
theorem fa_X11_squareOf {o : Int32 × ZS} {x0 : Int32} {x1 : Int32} {S : ZS}  (hf : f_X11_squareOf x0 x1 S = some o) : FrA [] S o.2 := by
  have h_S : FrA [] S S := fra_0
  unfold f_X11_squareOf at hf
  exact fra_t h_S (fa_X11_squareOf_0  hf) (fun _ h => h)
theorem fa_X5_readPassed_65 {o : Int32 × ZS} {t0 : Int32} {S : ZS}  (hf : f_X5_readPassed_65 t0 S = some o) : FrA [] S o.2 := by
  have h_S : FrA [] S S := fra_0
  unfold f_X5_readPassed_65 at hf
  obtain ⟨-, hf⟩ := m_chkE hf
  cases hf
  exact h_S
theorem fa_X5_readPassed_0 {o : Int32 × ZS} {x0 : Nat} {x1 : Nat} {S : ZS}  (hf : f_X5_readPassed_0 x0 x1 S = some o) : FrA [] S o.2 := by
  have h_S : FrA [] S S := fra_0
  unfold f_X5_readPassed_0 at hf
  obtain ⟨-, hf⟩ := m_chkE hf
  obtain ⟨o1, ho, hf⟩ := m_calE hf
  have h_o1 := fra_t h_S (fa_X5_skip ho) (by decide)
  clear ho
  rcases m_ifE hf with ⟨-, hf⟩ | ⟨-, hf⟩
  ·
    obtain ⟨-, hf⟩ := m_chkE hf
    obtain ⟨b2, -, hf⟩ := m_calE hf
    obtain ⟨-, hf⟩ := m_chkE hf
    obtain ⟨-, hf⟩ := m_chkE hf
    obtain ⟨o3, ho, hf⟩ := m_calE hf
    have h_o3 := fra_t h_o1 (fa_X6_at ho) (by decide)
    clear ho
    obtain ⟨-, hf⟩ := m_chkE hf
    obtain ⟨b4, -, hf⟩ := m_calE hf
    obtain ⟨-, hf⟩ := m_chkE hf
    obtain ⟨v5, e1, hf⟩ := m_bndE hf
    obtain ⟨-, hf⟩ := m_chkE hf
    obtain ⟨o6, ho, hf⟩ := m_calE hf
    have h_o6 := fra_t h_o3 (fa_X6_at ho) (by decide)
    clear ho
    obtain ⟨o7, ho, hf⟩ := m_calE hf
    have h_o7 := fra_t h_o6 (fa_X11_squareOf ho) (by decide)
    clear ho
    obtain ⟨-, hf⟩ := m_chkE hf
    obtain ⟨S8, e2, hf⟩ := m_bndE hf
    have h_S8 := fra_I h_o7 e2
    obtain ⟨-, hf⟩ := m_chkE hf
    obtain ⟨v9, e3, hf⟩ := m_bndE hf
    obtain ⟨-, hf⟩ := m_chkE hf
    obtain ⟨S10, e4, hf⟩ := m_bndE hf
    have h_S10 := fra_I h_S8 e4
    obtain ⟨-, hf⟩ := m_chkE hf
    rcases m_ifE hf with ⟨-, hf⟩ | ⟨-, hf⟩
    ·
      exact fra_t h_S10 (fa_X5_readPassed_65  hf) (fun _ h => h)
    ·
      exact fra_t h_S10 (fa_X5_readPassed_65  hf) (fun _ h => h)
  ·
    obtain ⟨-, hf⟩ := m_chkE hf
    cases hf
    exact h_o1
theorem fa_X5_readPassed {o : Int32 × ZS} {x0 : Nat} {x1 : Nat} {S : ZS}  (hf : f_X5_readPassed x0 x1 S = some o) : FrA [] S o.2 := by
  have h_S : FrA [] S S := fra_0
  unfold f_X5_readPassed at hf
  exact fra_t h_S (fa_X5_readPassed_0  hf) (fun _ h => h)
theorem fa_X5_readNumber_113 {o : Int32 × ZS} {t0 : Int32} {S : ZS}  (hf : f_X5_readNumber_113 t0 S = some o) : FrA [] S o.2 := by
  have h_S : FrA [] S S := fra_0
  unfold f_X5_readNumber_113 at hf
  cases hf
  exact h_S
theorem fa_X5_readNumber_108 {o : Int32 × ZS} {S : ZS}  (hf : f_X5_readNumber_108 S = some o) : FrA [] S o.2 := by
  have h_S : FrA [] S S := fra_0
  unfold f_X5_readNumber_108 at hf
  exact fra_t h_S (fa_X5_readNumber_113  hf) (fun _ h => h)
theorem fa_X5_readNumber_95 {o : Int32 × ZS} {x0 : Nat} {x1 : Int32} {x2 : Int32} {t0 : Int32} {S : ZS}  (hf : f_X5_readNumber_95 x0 x1 x2 t0 S = some o) : FrA [] S o.2 := by
  have h_S : FrA [] S S := fra_0
  unfold f_X5_readNumber_95 at hf
  obtain ⟨-, hf⟩ := m_chkE hf
  rcases m_ifE hf with ⟨-, hf⟩ | ⟨-, hf⟩
  ·
    exact fra_t h_S (fa_X5_readNumber_108  hf) (fun _ h => h)
  ·
    rcases m_ifE hf with ⟨-, hf⟩ | ⟨-, hf⟩
    ·
      exact fra_t h_S (fa_X5_readNumber_113  hf) (fun _ h => h)
    ·
      exact fra_t h_S (fa_X5_readNumber_108  hf) (fun _ h => h)
theorem fa_X5_readNumber_94 {o : Int32 × ZS} {x0 : Nat} {x1 : Int32} {x2 : Int32} {S : ZS}  (hf : f_X5_readNumber_94 x0 x1 x2 S = some o) : FrA [] S o.2 := by
  have h_S : FrA [] S S := fra_0
  unfold f_X5_readNumber_94 at hf
  exact fra_t h_S (fa_X5_readNumber_95  hf) (fun _ h => h)
theorem fa_X5_readNumber_67 {o : Int32 × ZS} {x0 : Nat} {x1 : Int32} {x2 : Int32} {S : ZS}  (hf : f_X5_readNumber_67 x0 x1 x2 S = some o) : FrA [] S o.2 := by
  have h_S : FrA [] S S := fra_0
  unfold f_X5_readNumber_67 at hf
  obtain ⟨-, hf⟩ := m_chkE hf
  obtain ⟨b1, -, hf⟩ := m_calE hf
  obtain ⟨-, hf⟩ := m_chkE hf
  obtain ⟨o2, ho, hf⟩ := m_calE hf
  have h_o2 := fra_t h_S (fa_X6_at ho) (by decide)
  clear ho
  rcases m_ifE hf with ⟨-, hf⟩ | ⟨-, hf⟩
  ·
    obtain ⟨-, hf⟩ := m_chkE hf
    obtain ⟨v3, e1, hf⟩ := m_bndE hf
    rcases m_ifE hf with ⟨-, hf⟩ | ⟨-, hf⟩
    ·
      exact fra_t h_o2 (fa_X5_readNumber_94  hf) (fun _ h => h)
    ·
      exact fra_t h_o2 (fa_X5_readNumber_95  hf) (fun _ h => h)
  ·
    exact fra_t h_o2 (fa_X5_readNumber_94  hf) (fun _ h => h)
theorem fa_X5_readNumber_7s {o : Int32 × ZS} {self7 : Nat → Int32 → Int32 → ZS → Option (Int32 × ZS)} {x0 : Nat} {x1 : Int32} {x2 : Int32} {S : ZS} (hself7 : ∀ (z0 : Nat) (z1 : Int32) (z2 : Int32) (S : ZS) (o : Int32 × ZS), self7 z0 z1 z2 S = some o → FrA [] S o.2) (hf : f_X5_readNumber_7s self7 x0 x1 x2 S = some o) : FrA [] S o.2 := by
  have h_S : FrA [] S S := fra_0
  unfold f_X5_readNumber_7s at hf
  obtain ⟨-, hf⟩ := m_chkE hf
  obtain ⟨v1, e1, hf⟩ := m_bndE hf
  rcases m_ifE hf with ⟨-, hf⟩ | ⟨-, hf⟩
  ·
    exact fra_t h_S (fa_X5_readNumber_67  hf) (fun _ h => h)
  ·
    obtain ⟨-, hf⟩ := m_chkE hf
    obtain ⟨b2, -, hf⟩ := m_calE hf
    obtain ⟨-, hf⟩ := m_chkE hf
    obtain ⟨-, hf⟩ := m_chkE hf
    obtain ⟨o3, ho, hf⟩ := m_calE hf
    have h_o3 := fra_t h_S (fa_X6_at ho) (by decide)
    clear ho
    obtain ⟨o4, ho, hf⟩ := m_calE hf
    have h_o4 := fra_t h_o3 (fa_X11_isDigit ho) (by decide)
    clear ho
    rcases m_ifE hf with ⟨-, hf⟩ | ⟨-, hf⟩
    ·
      exact fra_t h_o4 (fa_X5_readNumber_67  hf) (fun _ h => h)
    ·
      obtain ⟨v5, e2, hf⟩ := m_bndE hf
      obtain ⟨-, hf⟩ := m_chkE hf
      obtain ⟨b6, -, hf⟩ := m_calE hf
      obtain ⟨-, hf⟩ := m_chkE hf
      obtain ⟨-, hf⟩ := m_chkE hf
      obtain ⟨o7, ho, hf⟩ := m_calE hf
      have h_o7 := fra_t h_o4 (fa_X6_at ho) (by decide)
      clear ho
      obtain ⟨v8, e3, hf⟩ := m_bndE hf
      obtain ⟨v9, e4, hf⟩ := m_bndE hf
      obtain ⟨-, hf⟩ := m_chkE hf
      obtain ⟨v10, e5, hf⟩ := m_bndE hf
      obtain ⟨-, hf⟩ := m_chkE hf
      obtain ⟨S11, e6, hf⟩ := m_bndE hf
      have h_S11 := fra_I h_o7 e6
      exact fra_t h_S11 (hself7 _ _ _ _ _ hf) (fun _ h => h)
theorem fa_X5_readNumber_7   (n : Nat) : ∀ (y0 : Nat) (y1 : Int32) (y2 : Int32) (S : ZS) (o : Int32 × ZS), f_X5_readNumber_7  n y0 y1 y2 S = some o → FrA [] S o.2 := by
  induction n with
  | zero => intro y0 y1 y2 S o hf; cases hf
  | succ n ih => intro y0 y1 y2 S o hf; exact fa_X5_readNumber_7s  ih hf
theorem fa_X5_readNumber_0 {o : Int32 × ZS} {x0 : Nat} {S : ZS}  (hf : f_X5_readNumber_0 x0 S = some o) : FrA [] S o.2 := by
  have h_S : FrA [] S S := fra_0
  unfold f_X5_readNumber_0 at hf
  obtain ⟨-, hf⟩ := m_chkE hf
  exact fra_t h_S (fa_X5_readNumber_7  _ _ _ _ _ _ hf) (fun _ h => h)
theorem fa_X5_readNumber {o : Int32 × ZS} {x0 : Nat} {S : ZS}  (hf : f_X5_readNumber x0 S = some o) : FrA [] S o.2 := by
  have h_S : FrA [] S S := fra_0
  unfold f_X5_readNumber at hf
  exact fra_t h_S (fa_X5_readNumber_0  hf) (fun _ h => h)
theorem fa_X5_readMoveNumber_20 {o : Int32 × ZS} {t0 : Int32} {S : ZS}  (hf : f_X5_readMoveNumber_20 t0 S = some o) : FrA [] S o.2 := by
  have h_S : FrA [] S S := fra_0
  unfold f_X5_readMoveNumber_20 at hf
  obtain ⟨-, hf⟩ := m_chkE hf
  cases hf
  exact h_S
theorem fa_X5_readMoveNumber_0 {o : Int32 × ZS} {x0 : Nat} {x1 : Nat} {S : ZS}  (hf : f_X5_readMoveNumber_0 x0 x1 S = some o) : FrA [] S o.2 := by
  have h_S : FrA [] S S := fra_0
  unfold f_X5_readMoveNumber_0 at hf
  obtain ⟨-, hf⟩ := m_chkE hf
  obtain ⟨o1, ho, hf⟩ := m_calE hf
  have h_o1 := fra_t h_S (fa_X5_readNumber ho) (by decide)
  clear ho
  obtain ⟨-, hf⟩ := m_chkE hf
  obtain ⟨S2, e1, hf⟩ := m_bndE hf
  have h_S2 := fra_I h_o1 e1
  obtain ⟨-, hf⟩ := m_chkE hf
  rcases m_ifE hf with ⟨-, hf⟩ | ⟨-, hf⟩
  ·
    exact fra_t h_S2 (fa_X5_readMoveNumber_20  hf) (fun _ h => h)
  ·
    exact fra_t h_S2 (fa_X5_readMoveNumber_20  hf) (fun _ h => h)
theorem fa_X5_readMoveNumber {o : Int32 × ZS} {x0 : Nat} {x1 : Nat} {S : ZS}  (hf : f_X5_readMoveNumber x0 x1 S = some o) : FrA [] S o.2 := by
  have h_S : FrA [] S S := fra_0
  unfold f_X5_readMoveNumber at hf
  exact fra_t h_S (fa_X5_readMoveNumber_0  hf) (fun _ h => h)
theorem fa_X5_hasSoundMen_115 {o : Int32 × ZS} {t0 : Int32} {S : ZS}  (hf : f_X5_hasSoundMen_115 t0 S = some o) : FrA [] S o.2 := by
  have h_S : FrA [] S S := fra_0
  unfold f_X5_hasSoundMen_115 at hf
  obtain ⟨-, hf⟩ := m_chkE hf
  cases hf
  exact h_S
theorem fa_X5_hasSoundMen_114 {o : Int32 × ZS} {S : ZS}  (hf : f_X5_hasSoundMen_114 S = some o) : FrA [] S o.2 := by
  have h_S : FrA [] S S := fra_0
  unfold f_X5_hasSoundMen_114 at hf
  exact fra_t h_S (fa_X5_hasSoundMen_115  hf) (fun _ h => h)
theorem fa_X5_hasSoundMen_73 {o : Int32 × ZS} {self6 : Nat → Int32 → Int32 → Int32 → ZS → Option (Int32 × ZS)} {x0 : Nat} {x1 : Int32} {x2 : Int32} {x3 : Int32} {S : ZS} (hself6 : ∀ (z0 : Nat) (z1 : Int32) (z2 : Int32) (z3 : Int32) (S : ZS) (o : Int32 × ZS), self6 z0 z1 z2 z3 S = some o → FrA [] S o.2) (hf : f_X5_hasSoundMen_73 self6 x0 x1 x2 x3 S = some o) : FrA [] S o.2 := by
  have h_S : FrA [] S S := fra_0
  unfold f_X5_hasSoundMen_73 at hf
  obtain ⟨v1, e1, hf⟩ := m_bndE hf
  exact fra_t h_S (hself6 _ _ _ _ _ _ hf) (fun _ h => h)
theorem fa_X5_hasSoundMen_71 {o : Int32 × ZS} {S : ZS}  (hf : f_X5_hasSoundMen_71 S = some o) : FrA [] S o.2 := by
  have h_S : FrA [] S S := fra_0
  unfold f_X5_hasSoundMen_71 at hf
  obtain ⟨-, hf⟩ := m_chkE hf
  cases hf
  exact h_S
theorem fa_X5_hasSoundMen_48 {o : Int32 × ZS} {self6 : Nat → Int32 → Int32 → Int32 → ZS → Option (Int32 × ZS)} {x0 : Nat} {x1 : Int32} {x3 : Int32} {t0 : Int32} {t1 : Int32} {S : ZS} (hself6 : ∀ (z0 : Nat) (z1 : Int32) (z2 : Int32) (z3 : Int32) (S : ZS) (o : Int32 × ZS), self6 z0 z1 z2 z3 S = some o → FrA [] S o.2) (hf : f_X5_hasSoundMen_48 self6 x0 x1 x3 t0 t1 S = some o) : FrA [] S o.2 := by
  have h_S : FrA [] S S := fra_0
  unfold f_X5_hasSoundMen_48 at hf
  obtain ⟨v1, e1, hf⟩ := m_bndE hf
  obtain ⟨-, hf⟩ := m_chkE hf
  obtain ⟨o2, ho, hf⟩ := m_calE hf
  have h_o2 := fra_t h_S (fa_X0_kindAt ho) (by decide)
  clear ho
  rcases m_ifE hf with ⟨-, hf⟩ | ⟨-, hf⟩
  ·
    rcases m_ifE hf with ⟨-, hf⟩ | ⟨-, hf⟩
    ·
      exact fra_t h_o2 (fa_X5_hasSoundMen_71  hf) (fun _ h => h)
    ·
      rcases m_ifE hf with ⟨-, hf⟩ | ⟨-, hf⟩
      ·
        exact fra_t h_o2 (fa_X5_hasSoundMen_73 hself6 hf) (fun _ h => h)
      ·
        exact fra_t h_o2 (fa_X5_hasSoundMen_71  hf) (fun _ h => h)
  ·
    exact fra_t h_o2 (fa_X5_hasSoundMen_73 hself6 hf) (fun _ h => h)
theorem fa_X5_hasSoundMen_29 {o : Int32 × ZS} {self6 : Nat → Int32 → Int32 → Int32 → ZS → Option (Int32 × ZS)} {x0 : Nat} {x2 : Int32} {x3 : Int32} {t0 : Int32} {t1 : Int32} {S : ZS} (hself6 : ∀ (z0 : Nat) (z1 : Int32) (z2 : Int32) (z3 : Int32) (S : ZS) (o : Int32 × ZS), self6 z0 z1 z2 z3 S = some o → FrA [] S o.2) (hf : f_X5_hasSoundMen_29 self6 x0 x2 x3 t0 t1 S = some o) : FrA [] S o.2 := by
  have h_S : FrA [] S S := fra_0
  unfold f_X5_hasSoundMen_29 at hf
  obtain ⟨v1, e1, hf⟩ := m_bndE hf
  obtain ⟨-, hf⟩ := m_chkE hf
  obtain ⟨b2, -, hf⟩ := m_calE hf
  obtain ⟨q2, hf⟩ := m_chkE hf
  obtain ⟨-, hf⟩ := m_chkE hf
  obtain ⟨v3, e3, hf⟩ := m_bndE hf
  rcases m_ifE hf with ⟨-, hf⟩ | ⟨-, hf⟩
  ·
    exact fra_t h_S (fa_X5_hasSoundMen_48 hself6 hf) (fun _ h => h)
  ·
    exact fra_t h_S (fa_X5_hasSoundMen_48 hself6 hf) (fun _ h => h)
theorem fa_X5_hasSoundMen_6s {o : Int32 × ZS} {self6 : Nat → Int32 → Int32 → Int32 → ZS → Option (Int32 × ZS)} {x0 : Nat} {x1 : Int32} {x2 : Int32} {x3 : Int32} {S : ZS} (hself6 : ∀ (z0 : Nat) (z1 : Int32) (z2 : Int32) (z3 : Int32) (S : ZS) (o : Int32 × ZS), self6 z0 z1 z2 z3 S = some o → FrA [] S o.2) (hf : f_X5_hasSoundMen_6s self6 x0 x1 x2 x3 S = some o) : FrA [] S o.2 := by
  have h_S : FrA [] S S := fra_0
  unfold f_X5_hasSoundMen_6s at hf
  rcases m_ifE hf with ⟨-, hf⟩ | ⟨-, hf⟩
  ·
    rcases m_ifE hf with ⟨-, hf⟩ | ⟨-, hf⟩
    ·
      rcases m_ifE hf with ⟨-, hf⟩ | ⟨-, hf⟩
      ·
        obtain ⟨-, hf⟩ := m_chkE hf
        obtain ⟨v1, e1, hf⟩ := m_bndE hf
        obtain ⟨-, hf⟩ := m_chkE hf
        obtain ⟨o2, ho, hf⟩ := m_calE hf
        have h_o2 := fra_t h_S (fa_X0_kingOf ho) (by decide)
        clear ho
        obtain ⟨-, hf⟩ := m_chkE hf
        obtain ⟨-, hf⟩ := m_chkE hf
        obtain ⟨o3, ho, hf⟩ := m_calE hf
        have h_o3 := fra_t h_o2 (fa_X0_attacked ho) (by decide)
        clear ho
        rcases m_ifE hf with ⟨-, hf⟩ | ⟨-, hf⟩
        ·
          exact fra_t h_o3 (fa_X5_hasSoundMen_115  hf) (fun _ h => h)
        ·
          exact fra_t h_o3 (fa_X5_hasSoundMen_114  hf) (fun _ h => h)
      ·
        exact fra_t h_S (fa_X5_hasSoundMen_114  hf) (fun _ h => h)
    ·
      exact fra_t h_S (fa_X5_hasSoundMen_114  hf) (fun _ h => h)
  ·
    obtain ⟨-, hf⟩ := m_chkE hf
    obtain ⟨b4, -, hf⟩ := m_calE hf
    obtain ⟨q2, hf⟩ := m_chkE hf
    obtain ⟨-, hf⟩ := m_chkE hf
    obtain ⟨v5, e3, hf⟩ := m_bndE hf
    rcases m_ifE hf with ⟨-, hf⟩ | ⟨-, hf⟩
    ·
      exact fra_t h_S (fa_X5_hasSoundMen_29 hself6 hf) (fun _ h => h)
    ·
      exact fra_t h_S (fa_X5_hasSoundMen_29 hself6 hf) (fun _ h => h)
theorem fa_X5_hasSoundMen_6   (n : Nat) : ∀ (y0 : Nat) (y1 : Int32) (y2 : Int32) (y3 : Int32) (S : ZS) (o : Int32 × ZS), f_X5_hasSoundMen_6  n y0 y1 y2 y3 S = some o → FrA [] S o.2 := by
  induction n with
  | zero => intro y0 y1 y2 y3 S o hf; cases hf
  | succ n ih => intro y0 y1 y2 y3 S o hf; exact fa_X5_hasSoundMen_6s  ih hf
theorem fa_X5_hasSoundMen_0 {o : Int32 × ZS} {x0 : Nat} {S : ZS}  (hf : f_X5_hasSoundMen_0 x0 S = some o) : FrA [] S o.2 := by
  have h_S : FrA [] S S := fra_0
  unfold f_X5_hasSoundMen_0 at hf
  exact fra_t h_S (fa_X5_hasSoundMen_6  _ _ _ _ _ _ _ hf) (fun _ h => h)
theorem fa_X5_hasSoundMen {o : Int32 × ZS} {x0 : Nat} {S : ZS}  (hf : f_X5_hasSoundMen x0 S = some o) : FrA [] S o.2 := by
  have h_S : FrA [] S S := fra_0
  unfold f_X5_hasSoundMen at hf
  exact fra_t h_S (fa_X5_hasSoundMen_0  hf) (fun _ h => h)
theorem fa_X5_hasSoundRights_92 {o : Int32 × ZS} {self2 : Nat → Int32 → ZS → Option (Int32 × ZS)} {x0 : Nat} {x1 : Int32} {S : ZS} (hself2 : ∀ (z0 : Nat) (z1 : Int32) (S : ZS) (o : Int32 × ZS), self2 z0 z1 S = some o → FrA [] S o.2) (hf : f_X5_hasSoundRights_92 self2 x0 x1 S = some o) : FrA [] S o.2 := by
  have h_S : FrA [] S S := fra_0
  unfold f_X5_hasSoundRights_92 at hf
  obtain ⟨v1, e1, hf⟩ := m_bndE hf
  exact fra_t h_S (hself2 _ _ _ _ hf) (fun _ h => h)
theorem fa_X5_hasSoundRights_90 {o : Int32 × ZS} {S : ZS}  (hf : f_X5_hasSoundRights_90 S = some o) : FrA [] S o.2 := by
  have h_S : FrA [] S S := fra_0
  unfold f_X5_hasSoundRights_90 at hf
  obtain ⟨-, hf⟩ := m_chkE hf
  cases hf
  exact h_S
theorem fa_X5_hasSoundRights_50 {o : Int32 × ZS} {self2 : Nat → Int32 → ZS → Option (Int32 × ZS)} {x0 : Nat} {x1 : Int32} {x2 : Int32} {x3 : Int32} {t0 : Int32} {S : ZS} (hself2 : ∀ (z0 : Nat) (z1 : Int32) (S : ZS) (o : Int32 × ZS), self2 z0 z1 S = some o → FrA [] S o.2) (hf : f_X5_hasSoundRights_50 self2 x0 x1 x2 x3 t0 S = some o) : FrA [] S o.2 := by
  have h_S : FrA [] S S := fra_0
  unfold f_X5_hasSoundRights_50 at hf
  obtain ⟨-, hf⟩ := m_chkE hf
  obtain ⟨v1, e1, hf⟩ := m_bndE hf
  obtain ⟨v2, e2, hf⟩ := m_bndE hf
  rcases m_ifE hf with ⟨-, hf⟩ | ⟨-, hf⟩
  ·
    obtain ⟨-, hf⟩ := m_chkE hf
    obtain ⟨b3, -, hf⟩ := m_calE hf
    obtain ⟨q3, hf⟩ := m_chkE hf
    obtain ⟨-, hf⟩ := m_chkE hf
    obtain ⟨v4, e4, hf⟩ := m_bndE hf
    obtain ⟨v5, e5, hf⟩ := m_bndE hf
    rcases m_ifE hf with ⟨-, hf⟩ | ⟨-, hf⟩
    ·
      obtain ⟨-, hf⟩ := m_chkE hf
      obtain ⟨b6, -, hf⟩ := m_calE hf
      obtain ⟨q6, hf⟩ := m_chkE hf
      obtain ⟨-, hf⟩ := m_chkE hf
      obtain ⟨v7, e7, hf⟩ := m_bndE hf
      obtain ⟨v8, e8, hf⟩ := m_bndE hf
      rcases m_ifE hf with ⟨-, hf⟩ | ⟨-, hf⟩
      ·
        exact fra_t h_S (fa_X5_hasSoundRights_92 hself2 hf) (fun _ h => h)
      ·
        exact fra_t h_S (fa_X5_hasSoundRights_90  hf) (fun _ h => h)
    ·
      exact fra_t h_S (fa_X5_hasSoundRights_90  hf) (fun _ h => h)
  ·
    exact fra_t h_S (fa_X5_hasSoundRights_92 hself2 hf) (fun _ h => h)
theorem fa_X5_hasSoundRights_34 {o : Int32 × ZS} {self2 : Nat → Int32 → ZS → Option (Int32 × ZS)} {x0 : Nat} {x1 : Int32} {x2 : Int32} {t0 : Int32} {S : ZS} (hself2 : ∀ (z0 : Nat) (z1 : Int32) (S : ZS) (o : Int32 × ZS), self2 z0 z1 S = some o → FrA [] S o.2) (hf : f_X5_hasSoundRights_34 self2 x0 x1 x2 t0 S = some o) : FrA [] S o.2 := by
  have h_S : FrA [] S S := fra_0
  unfold f_X5_hasSoundRights_34 at hf
  obtain ⟨v1, e1, hf⟩ := m_bndE hf
  rcases m_ifE hf with ⟨-, hf⟩ | ⟨-, hf⟩
  ·
    obtain ⟨v3, e2, hf⟩ := m_bndE hf
    exact fra_t h_S (fa_X5_hasSoundRights_50 hself2 hf) (fun _ h => h)
  ·
    obtain ⟨v2, e3, hf⟩ := m_bndE hf
    exact fra_t h_S (fa_X5_hasSoundRights_50 hself2 hf) (fun _ h => h)
theorem fa_X5_hasSoundRights_22 {o : Int32 × ZS} {self2 : Nat → Int32 → ZS → Option (Int32 × ZS)} {x0 : Nat} {x1 : Int32} {t0 : Int32} {S : ZS} (hself2 : ∀ (z0 : Nat) (z1 : Int32) (S : ZS) (o : Int32 × ZS), self2 z0 z1 S = some o → FrA [] S o.2) (hf : f_X5_hasSoundRights_22 self2 x0 x1 t0 S = some o) : FrA [] S o.2 := by
  have h_S : FrA [] S S := fra_0
  unfold f_X5_hasSoundRights_22 at hf
  rcases m_ifE hf with ⟨-, hf⟩ | ⟨-, hf⟩
  ·
    exact fra_t h_S (fa_X5_hasSoundRights_34 hself2 hf) (fun _ h => h)
  ·
    exact fra_t h_S (fa_X5_hasSoundRights_34 hself2 hf) (fun _ h => h)
theorem fa_X5_hasSoundRights_2s {o : Int32 × ZS} {self2 : Nat → Int32 → ZS → Option (Int32 × ZS)} {x0 : Nat} {x1 : Int32} {S : ZS} (hself2 : ∀ (z0 : Nat) (z1 : Int32) (S : ZS) (o : Int32 × ZS), self2 z0 z1 S = some o → FrA [] S o.2) (hf : f_X5_hasSoundRights_2s self2 x0 x1 S = some o) : FrA [] S o.2 := by
  have h_S : FrA [] S S := fra_0
  unfold f_X5_hasSoundRights_2s at hf
  obtain ⟨-, hf⟩ := m_chkE hf
  obtain ⟨o1, ho, hf⟩ := m_calE hf
  have h_o1 := fra_t h_S (fa_J0_length_8abf5 ho) (by decide)
  clear ho
  rcases m_ifE hf with ⟨-, hf⟩ | ⟨-, hf⟩
  ·
    obtain ⟨-, hf⟩ := m_chkE hf
    cases hf
    exact h_o1
  ·
    rcases m_ifE hf with ⟨-, hf⟩ | ⟨-, hf⟩
    ·
      exact fra_t h_o1 (fa_X5_hasSoundRights_22 hself2 hf) (fun _ h => h)
    ·
      exact fra_t h_o1 (fa_X5_hasSoundRights_22 hself2 hf) (fun _ h => h)
theorem fa_X5_hasSoundRights_2   (n : Nat) : ∀ (y0 : Nat) (y1 : Int32) (S : ZS) (o : Int32 × ZS), f_X5_hasSoundRights_2  n y0 y1 S = some o → FrA [] S o.2 := by
  induction n with
  | zero => intro y0 y1 S o hf; cases hf
  | succ n ih => intro y0 y1 S o hf; exact fa_X5_hasSoundRights_2s  ih hf
theorem fa_X5_hasSoundRights_0 {o : Int32 × ZS} {x0 : Nat} {S : ZS}  (hf : f_X5_hasSoundRights_0 x0 S = some o) : FrA [] S o.2 := by
  have h_S : FrA [] S S := fra_0
  unfold f_X5_hasSoundRights_0 at hf
  exact fra_t h_S (fa_X5_hasSoundRights_2  _ _ _ _ _ hf) (fun _ h => h)
theorem fa_X5_hasSoundRights {o : Int32 × ZS} {x0 : Nat} {S : ZS}  (hf : f_X5_hasSoundRights x0 S = some o) : FrA [] S o.2 := by
  have h_S : FrA [] S S := fra_0
  unfold f_X5_hasSoundRights at hf
  exact fra_t h_S (fa_X5_hasSoundRights_0  hf) (fun _ h => h)
theorem fa_X5_hasSoundPassed_49 {o : Int32 × ZS} {S : ZS}  (hf : f_X5_hasSoundPassed_49 S = some o) : FrA [] S o.2 := by
  have h_S : FrA [] S S := fra_0
  unfold f_X5_hasSoundPassed_49 at hf
  obtain ⟨-, hf⟩ := m_chkE hf
  cases hf
  exact h_S
theorem fa_X5_hasSoundPassed_113 {o : Int32 × ZS} {t0 : Int32} {S : ZS}  (hf : f_X5_hasSoundPassed_113 t0 S = some o) : FrA [] S o.2 := by
  have h_S : FrA [] S S := fra_0
  unfold f_X5_hasSoundPassed_113 at hf
  obtain ⟨-, hf⟩ := m_chkE hf
  cases hf
  exact h_S
theorem fa_X5_hasSoundPassed_112 {o : Int32 × ZS} {S : ZS}  (hf : f_X5_hasSoundPassed_112 S = some o) : FrA [] S o.2 := by
  have h_S : FrA [] S S := fra_0
  unfold f_X5_hasSoundPassed_112 at hf
  exact fra_t h_S (fa_X5_hasSoundPassed_113  hf) (fun _ h => h)
theorem fa_X5_hasSoundPassed_62 {o : Int32 × ZS} {x0 : Nat} {x1 : Int32} {t0 : Int32} {S : ZS}  (hf : f_X5_hasSoundPassed_62 x0 x1 t0 S = some o) : FrA [] S o.2 := by
  have h_S : FrA [] S S := fra_0
  unfold f_X5_hasSoundPassed_62 at hf
  obtain ⟨-, hf⟩ := m_chkE hf
  obtain ⟨b1, -, hf⟩ := m_calE hf
  obtain ⟨v2, e1, hf⟩ := m_bndE hf
  obtain ⟨q2, hf⟩ := m_chkE hf
  obtain ⟨-, hf⟩ := m_chkE hf
  obtain ⟨v3, e3, hf⟩ := m_bndE hf
  obtain ⟨-, hf⟩ := m_chkE hf
  obtain ⟨v4, e4, hf⟩ := m_bndE hf
  obtain ⟨v5, e5, hf⟩ := m_bndE hf
  obtain ⟨v6, e6, hf⟩ := m_bndE hf
  rcases m_ifE hf with ⟨-, hf⟩ | ⟨-, hf⟩
  ·
    obtain ⟨-, hf⟩ := m_chkE hf
    obtain ⟨b7, -, hf⟩ := m_calE hf
    obtain ⟨v8, e7, hf⟩ := m_bndE hf
    obtain ⟨q8, hf⟩ := m_chkE hf
    obtain ⟨-, hf⟩ := m_chkE hf
    obtain ⟨v9, e9, hf⟩ := m_bndE hf
    rcases m_ifE hf with ⟨-, hf⟩ | ⟨-, hf⟩
    ·
      obtain ⟨-, hf⟩ := m_chkE hf
      obtain ⟨-, hf⟩ := m_chkE hf
      obtain ⟨o10, ho, hf⟩ := m_calE hf
      have h_o10 := fra_t h_S (fa_X0_pawnAttacks ho) (by decide)
      clear ho
      rcases m_ifE hf with ⟨-, hf⟩ | ⟨-, hf⟩
      ·
        exact fra_t h_o10 (fa_X5_hasSoundPassed_112  hf) (fun _ h => h)
      ·
        exact fra_t h_o10 (fa_X5_hasSoundPassed_113  hf) (fun _ h => h)
    ·
      exact fra_t h_S (fa_X5_hasSoundPassed_112  hf) (fun _ h => h)
  ·
    exact fra_t h_S (fa_X5_hasSoundPassed_112  hf) (fun _ h => h)
theorem fa_X5_hasSoundPassed_37 {o : Int32 × ZS} {x0 : Nat} {x1 : Int32} {x2 : Int32} {t0 : Int32} {t1 : Int32} {S : ZS}  (hf : f_X5_hasSoundPassed_37 x0 x1 x2 t0 t1 S = some o) : FrA [] S o.2 := by
  have h_S : FrA [] S S := fra_0
  unfold f_X5_hasSoundPassed_37 at hf
  rcases m_ifE hf with ⟨-, hf⟩ | ⟨-, hf⟩
  ·
    obtain ⟨-, hf⟩ := m_chkE hf
    obtain ⟨b1, -, hf⟩ := m_calE hf
    obtain ⟨q1, hf⟩ := m_chkE hf
    obtain ⟨-, hf⟩ := m_chkE hf
    obtain ⟨v2, e2, hf⟩ := m_bndE hf
    rcases m_ifE hf with ⟨-, hf⟩ | ⟨-, hf⟩
    ·
      rcases m_ifE hf with ⟨-, hf⟩ | ⟨-, hf⟩
      ·
        exact fra_t h_S (fa_X5_hasSoundPassed_62  hf) (fun _ h => h)
      ·
        exact fra_t h_S (fa_X5_hasSoundPassed_62  hf) (fun _ h => h)
    ·
      exact fra_t h_S (fa_X5_hasSoundPassed_49  hf) (fun _ h => h)
  ·
    exact fra_t h_S (fa_X5_hasSoundPassed_49  hf) (fun _ h => h)
theorem fa_X5_hasSoundPassed_24 {o : Int32 × ZS} {x0 : Nat} {x1 : Int32} {t0 : Int32} {S : ZS}  (hf : f_X5_hasSoundPassed_24 x0 x1 t0 S = some o) : FrA [] S o.2 := by
  have h_S : FrA [] S S := fra_0
  unfold f_X5_hasSoundPassed_24 at hf
  obtain ⟨v1, e1, hf⟩ := m_bndE hf
  rcases m_ifE hf with ⟨-, hf⟩ | ⟨-, hf⟩
  ·
    exact fra_t h_S (fa_X5_hasSoundPassed_37  hf) (fun _ h => h)
  ·
    exact fra_t h_S (fa_X5_hasSoundPassed_37  hf) (fun _ h => h)
theorem fa_X5_hasSoundPassed_0 {o : Int32 × ZS} {x0 : Nat} {S : ZS}  (hf : f_X5_hasSoundPassed_0 x0 S = some o) : FrA [] S o.2 := by
  have h_S : FrA [] S S := fra_0
  unfold f_X5_hasSoundPassed_0 at hf
  obtain ⟨-, hf⟩ := m_chkE hf
  rcases m_ifE hf with ⟨-, hf⟩ | ⟨-, hf⟩
  ·
    obtain ⟨-, hf⟩ := m_chkE hf
    cases hf
    exact h_S
  ·
    obtain ⟨-, hf⟩ := m_chkE hf
    rcases m_ifE hf with ⟨-, hf⟩ | ⟨-, hf⟩
    ·
      exact fra_t h_S (fa_X5_hasSoundPassed_24  hf) (fun _ h => h)
    ·
      exact fra_t h_S (fa_X5_hasSoundPassed_24  hf) (fun _ h => h)
theorem fa_X5_hasSoundPassed {o : Int32 × ZS} {x0 : Nat} {S : ZS}  (hf : f_X5_hasSoundPassed x0 S = some o) : FrA [] S o.2 := by
  have h_S : FrA [] S S := fra_0
  unfold f_X5_hasSoundPassed at hf
  exact fra_t h_S (fa_X5_hasSoundPassed_0  hf) (fun _ h => h)
theorem fa_X5_readInto_146 {o : Int32 × ZS} {t0 : Int32} {S : ZS}  (hf : f_X5_readInto_146 t0 S = some o) : FrA [14] S o.2 := by
  have h_S : FrA [14] S S := fra_0
  unfold f_X5_readInto_146 at hf
  obtain ⟨-, hf⟩ := m_chkE hf
  cases hf
  exact h_S
theorem fa_X5_readInto_145 {o : Int32 × ZS} {S : ZS}  (hf : f_X5_readInto_145 S = some o) : FrA [14] S o.2 := by
  have h_S : FrA [14] S S := fra_0
  unfold f_X5_readInto_145 at hf
  exact fra_t h_S (fa_X5_readInto_146  hf) (fun _ h => h)
theorem fa_X5_readInto_0 {o : Int32 × ZS} {x0 : Nat} {x1 : Nat} {x2 : Nat} {S : ZS}  (hf : f_X5_readInto_0 x0 x1 x2 S = some o) : FrA [14] S o.2 := by
  have h_S : FrA [14] S S := fra_0
  unfold f_X5_readInto_0 at hf
  obtain ⟨-, hf⟩ := m_chkE hf
  obtain ⟨S1, e1, hf⟩ := m_bndE hf
  have h_S1 := fra_P h_S e1
  obtain ⟨-, hf⟩ := m_chkE hf
  obtain ⟨S2, e2, hf⟩ := m_bndE hf
  have h_S2 := fra_I h_S1 e2
  obtain ⟨-, hf⟩ := m_chkE hf
  obtain ⟨o3, ho, hf⟩ := m_calE hf
  have h_o3 := fra_t h_S2 (fa_X0_wipe ho) (by decide)
  clear ho
  obtain ⟨-, hf⟩ := m_chkE hf
  obtain ⟨o4, ho, hf⟩ := m_calE hf
  have h_o4 := fra_t h_o3 (fa_X5_readMen ho) (by decide)
  clear ho
  rcases m_ifE hf with ⟨-, hf⟩ | ⟨-, hf⟩
  ·
    exact fra_t h_o4 (fa_X5_readInto_145  hf) (fun _ h => h)
  ·
    obtain ⟨-, hf⟩ := m_chkE hf
    obtain ⟨o5, ho, hf⟩ := m_calE hf
    have h_o5 := fra_t h_o4 (fa_X5_skip ho) (by decide)
    clear ho
    rcases m_ifE hf with ⟨-, hf⟩ | ⟨-, hf⟩
    ·
      exact fra_t h_o5 (fa_X5_readInto_145  hf) (fun _ h => h)
    ·
      obtain ⟨-, hf⟩ := m_chkE hf
      obtain ⟨o6, ho, hf⟩ := m_calE hf
      have h_o6 := fra_t h_o5 (fa_X5_readSide ho) (by decide)
      clear ho
      rcases m_ifE hf with ⟨-, hf⟩ | ⟨-, hf⟩
      ·
        exact fra_t h_o6 (fa_X5_readInto_145  hf) (fun _ h => h)
      ·
        obtain ⟨-, hf⟩ := m_chkE hf
        obtain ⟨o7, ho, hf⟩ := m_calE hf
        have h_o7 := fra_t h_o6 (fa_X5_skip ho) (by decide)
        clear ho
        rcases m_ifE hf with ⟨-, hf⟩ | ⟨-, hf⟩
        ·
          exact fra_t h_o7 (fa_X5_readInto_145  hf) (fun _ h => h)
        ·
          obtain ⟨-, hf⟩ := m_chkE hf
          obtain ⟨o8, ho, hf⟩ := m_calE hf
          have h_o8 := fra_t h_o7 (fa_X5_readRights ho) (by decide)
          clear ho
          rcases m_ifE hf with ⟨-, hf⟩ | ⟨-, hf⟩
          ·
            exact fra_t h_o8 (fa_X5_readInto_145  hf) (fun _ h => h)
          ·
            obtain ⟨-, hf⟩ := m_chkE hf
            obtain ⟨o9, ho, hf⟩ := m_calE hf
            have h_o9 := fra_t h_o8 (fa_X5_skip ho) (by decide)
            clear ho
            rcases m_ifE hf with ⟨-, hf⟩ | ⟨-, hf⟩
            ·
              exact fra_t h_o9 (fa_X5_readInto_145  hf) (fun _ h => h)
            ·
              obtain ⟨-, hf⟩ := m_chkE hf
              obtain ⟨o10, ho, hf⟩ := m_calE hf
              have h_o10 := fra_t h_o9 (fa_X5_readPassed ho) (by decide)
              clear ho
              rcases m_ifE hf with ⟨-, hf⟩ | ⟨-, hf⟩
              ·
                exact fra_t h_o10 (fa_X5_readInto_145  hf) (fun _ h => h)
              ·
                obtain ⟨-, hf⟩ := m_chkE hf
                obtain ⟨o11, ho, hf⟩ := m_calE hf
                have h_o11 := fra_t h_o10 (fa_X5_skip ho) (by decide)
                clear ho
                rcases m_ifE hf with ⟨-, hf⟩ | ⟨-, hf⟩
                ·
                  exact fra_t h_o11 (fa_X5_readInto_145  hf) (fun _ h => h)
                ·
                  obtain ⟨-, hf⟩ := m_chkE hf
                  obtain ⟨o12, ho, hf⟩ := m_calE hf
                  have h_o12 := fra_t h_o11 (fa_X5_readNumber ho) (by decide)
                  clear ho
                  rcases m_ifE hf with ⟨-, hf⟩ | ⟨-, hf⟩
                  ·
                    exact fra_t h_o12 (fa_X5_readInto_145  hf) (fun _ h => h)
                  ·
                    obtain ⟨-, hf⟩ := m_chkE hf
                    obtain ⟨o13, ho, hf⟩ := m_calE hf
                    have h_o13 := fra_t h_o12 (fa_X5_skip ho) (by decide)
                    clear ho
                    rcases m_ifE hf with ⟨-, hf⟩ | ⟨-, hf⟩
                    ·
                      exact fra_t h_o13 (fa_X5_readInto_145  hf) (fun _ h => h)
                    ·
                      obtain ⟨-, hf⟩ := m_chkE hf
                      obtain ⟨o14, ho, hf⟩ := m_calE hf
                      have h_o14 := fra_t h_o13 (fa_X5_readMoveNumber ho) (by decide)
                      clear ho
                      rcases m_ifE hf with ⟨-, hf⟩ | ⟨-, hf⟩
                      ·
                        exact fra_t h_o14 (fa_X5_readInto_145  hf) (fun _ h => h)
                      ·
                        obtain ⟨-, hf⟩ := m_chkE hf
                        obtain ⟨-, hf⟩ := m_chkE hf
                        obtain ⟨b15, -, hf⟩ := m_calE hf
                        obtain ⟨-, hf⟩ := m_chkE hf
                        obtain ⟨o16, ho, hf⟩ := m_calE hf
                        have h_o16 := fra_t h_o14 (fa_X6_size ho) (by decide)
                        clear ho
                        rcases m_ifE hf with ⟨-, hf⟩ | ⟨-, hf⟩
                        ·
                          obtain ⟨o17, ho, hf⟩ := m_calE hf
                          have h_o17 := fra_t h_o16 (fa_X5_hasSoundMen ho) (by decide)
                          clear ho
                          rcases m_ifE hf with ⟨-, hf⟩ | ⟨-, hf⟩
                          ·
                            exact fra_t h_o17 (fa_X5_readInto_145  hf) (fun _ h => h)
                          ·
                            obtain ⟨o18, ho, hf⟩ := m_calE hf
                            have h_o18 := fra_t h_o17 (fa_X5_hasSoundRights ho) (by decide)
                            clear ho
                            rcases m_ifE hf with ⟨-, hf⟩ | ⟨-, hf⟩
                            ·
                              exact fra_t h_o18 (fa_X5_readInto_145  hf) (fun _ h => h)
                            ·
                              obtain ⟨o19, ho, hf⟩ := m_calE hf
                              have h_o19 := fra_t h_o18 (fa_X5_hasSoundPassed ho) (by decide)
                              clear ho
                              rcases m_ifE hf with ⟨-, hf⟩ | ⟨-, hf⟩
                              ·
                                exact fra_t h_o19 (fa_X5_readInto_145  hf) (fun _ h => h)
                              ·
                                exact fra_t h_o19 (fa_X5_readInto_146  hf) (fun _ h => h)
                        ·
                          exact fra_t h_o16 (fa_X5_readInto_145  hf) (fun _ h => h)
theorem fa_X5_readInto {o : Int32 × ZS} {x0 : Nat} {x1 : Nat} {x2 : Nat} {S : ZS}  (hf : f_X5_readInto x0 x1 x2 S = some o) : FrA [14] S o.2 := by
  have h_S : FrA [14] S S := fra_0
  unfold f_X5_readInto at hf
  exact fra_t h_S (fa_X5_readInto_0  hf) (fun _ h => h)
theorem fa_X6_indexOf_30 {o : Int32 × ZS} {x3 : Int32} {S : ZS}  (hf : f_X6_indexOf_30 x3 S = some o) : FrA [] S o.2 := by
  have h_S : FrA [] S S := fra_0
  unfold f_X6_indexOf_30 at hf
  cases hf
  exact h_S
theorem fa_X6_indexOf_6s {o : Int32 × ZS} {self6 : Nat → Int32 → Int32 → ZS → Option (Int32 × ZS)} {x0 : Nat} {x1 : Int32} {x3 : Int32} {S : ZS} (hself6 : ∀ (z0 : Nat) (z1 : Int32) (z2 : Int32) (S : ZS) (o : Int32 × ZS), self6 z0 z1 z2 S = some o → FrA [] S o.2) (hf : f_X6_indexOf_6s self6 x0 x1 x3 S = some o) : FrA [] S o.2 := by
  have h_S : FrA [] S S := fra_0
  unfold f_X6_indexOf_6s at hf
  obtain ⟨-, hf⟩ := m_chkE hf
  rcases m_ifE hf with ⟨-, hf⟩ | ⟨-, hf⟩
  ·
    exact fra_t h_S (fa_X6_indexOf_30  hf) (fun _ h => h)
  ·
    obtain ⟨-, hf⟩ := m_chkE hf
    obtain ⟨b1, -, hf⟩ := m_calE hf
    obtain ⟨q1, hf⟩ := m_chkE hf
    obtain ⟨-, hf⟩ := m_chkE hf
    obtain ⟨v2, e2, hf⟩ := m_bndE hf
    rcases m_ifE hf with ⟨-, hf⟩ | ⟨-, hf⟩
    ·
      exact fra_t h_S (fa_X6_indexOf_30  hf) (fun _ h => h)
    ·
      obtain ⟨v3, e3, hf⟩ := m_bndE hf
      exact fra_t h_S (hself6 _ _ _ _ _ hf) (fun _ h => h)
theorem fa_X6_indexOf_6   (n : Nat) : ∀ (y0 : Nat) (y1 : Int32) (y2 : Int32) (S : ZS) (o : Int32 × ZS), f_X6_indexOf_6  n y0 y1 y2 S = some o → FrA [] S o.2 := by
  induction n with
  | zero => intro y0 y1 y2 S o hf; cases hf
  | succ n ih => intro y0 y1 y2 S o hf; exact fa_X6_indexOf_6s  ih hf
theorem fa_X6_indexOf_0 {o : Int32 × ZS} {x0 : Nat} {x1 : Int32} {x2 : Int32} {S : ZS}  (hf : f_X6_indexOf_0 x0 x1 x2 S = some o) : FrA [] S o.2 := by
  have h_S : FrA [] S S := fra_0
  unfold f_X6_indexOf_0 at hf
  obtain ⟨v1, e1, hf⟩ := m_bndE hf
  exact fra_t h_S (fa_X6_indexOf_6  _ _ _ _ _ _ hf) (fun _ h => h)
theorem fa_X6_indexOf {o : Int32 × ZS} {x0 : Nat} {x1 : Int32} {x2 : Int32} {S : ZS}  (hf : f_X6_indexOf x0 x1 x2 S = some o) : FrA [] S o.2 := by
  have h_S : FrA [] S S := fra_0
  unfold f_X6_indexOf at hf
  exact fra_t h_S (fa_X6_indexOf_0  hf) (fun _ h => h)
theorem fa_X2_resultHere_2s {o : Int32 × ZS} {self2 : Nat → Int32 → ZS → Option (Int32 × ZS)} {x0 : Nat} {x1 : Int32} {S : ZS} (hself2 : ∀ (z0 : Nat) (z1 : Int32) (S : ZS) (o : Int32 × ZS), self2 z0 z1 S = some o → FrA [] S o.2) (hf : f_X2_resultHere_2s self2 x0 x1 S = some o) : FrA [] S o.2 := by
  have h_S : FrA [] S S := fra_0
  unfold f_X2_resultHere_2s at hf
  rcases m_ifE hf with ⟨-, hf⟩ | ⟨-, hf⟩
  ·
    cases hf
    exact h_S
  ·
    obtain ⟨-, hf⟩ := m_chkE hf
    obtain ⟨b1, -, hf⟩ := m_calE hf
    obtain ⟨o2, ho, hf⟩ := m_calE hf
    have h_o2 := fra_t h_S (fa_X11_resultSign ho) (by decide)
    clear ho
    obtain ⟨-, hf⟩ := m_chkE hf
    obtain ⟨-, hf⟩ := m_chkE hf
    obtain ⟨o3, ho, hf⟩ := m_calE hf
    have h_o3 := fra_t h_o2 (fa_X6_holds ho) (by decide)
    clear ho
    rcases m_ifE hf with ⟨-, hf⟩ | ⟨-, hf⟩
    ·
      obtain ⟨v4, e1, hf⟩ := m_bndE hf
      exact fra_t h_o3 (hself2 _ _ _ _ hf) (fun _ h => h)
    ·
      cases hf
      exact h_o3
theorem fa_X2_resultHere_2   (n : Nat) : ∀ (y0 : Nat) (y1 : Int32) (S : ZS) (o : Int32 × ZS), f_X2_resultHere_2  n y0 y1 S = some o → FrA [] S o.2 := by
  induction n with
  | zero => intro y0 y1 S o hf; cases hf
  | succ n ih => intro y0 y1 S o hf; exact fa_X2_resultHere_2s  ih hf
theorem fa_X2_resultHere_0 {o : Int32 × ZS} {x0 : Nat} {S : ZS}  (hf : f_X2_resultHere_0 x0 S = some o) : FrA [] S o.2 := by
  have h_S : FrA [] S S := fra_0
  unfold f_X2_resultHere_0 at hf
  exact fra_t h_S (fa_X2_resultHere_2  _ _ _ _ _ hf) (fun _ h => h)
theorem fa_X2_resultHere {o : Int32 × ZS} {x0 : Nat} {S : ZS}  (hf : f_X2_resultHere x0 S = some o) : FrA [] S o.2 := by
  have h_S : FrA [] S S := fra_0
  unfold f_X2_resultHere at hf
  exact fra_t h_S (fa_X2_resultHere_0  hf) (fun _ h => h)
theorem fa_X2_openLine_0 {o : Int32 × ZS} {x0 : Nat} {x1 : Int32} {S : ZS}  (hf : f_X2_openLine_0 x0 x1 S = some o) : FrA [14] S o.2 := by
  have h_S : FrA [14] S S := fra_0
  unfold f_X2_openLine_0 at hf
  obtain ⟨-, hf⟩ := m_chkE hf
  obtain ⟨b1, -, hf⟩ := m_calE hf
  obtain ⟨-, hf⟩ := m_chkE hf
  obtain ⟨b2, -, hf⟩ := m_calE hf
  obtain ⟨-, hf⟩ := m_chkE hf
  obtain ⟨b3, -, hf⟩ := m_calE hf
  obtain ⟨v4, e1, hf⟩ := m_bndE hf
  obtain ⟨q2, hf⟩ := m_chkE hf
  obtain ⟨-, hf⟩ := m_chkE hf
  obtain ⟨v5, e3, hf⟩ := m_bndE hf
  obtain ⟨-, hf⟩ := m_chkE hf
  obtain ⟨o6, ho, hf⟩ := m_calE hf
  have h_o6 := fra_t h_S (fa_X1_at ho) (by decide)
  clear ho
  obtain ⟨-, hf⟩ := m_chkE hf
  obtain ⟨q4, hf⟩ := m_chkE hf
  obtain ⟨-, hf⟩ := m_chkE hf
  obtain ⟨S7, e5, hf⟩ := m_bndE hf
  have h_S7 := fra_A h_o6 q4 e5 (by decide)
  obtain ⟨-, hf⟩ := m_chkE hf
  obtain ⟨b8, -, hf⟩ := m_calE hf
  obtain ⟨-, hf⟩ := m_chkE hf
  obtain ⟨b9, -, hf⟩ := m_calE hf
  obtain ⟨q6, hf⟩ := m_chkE hf
  obtain ⟨-, hf⟩ := m_chkE hf
  obtain ⟨v10, e7, hf⟩ := m_bndE hf
  obtain ⟨q8, hf⟩ := m_chkE hf
  obtain ⟨-, hf⟩ := m_chkE hf
  obtain ⟨S11, e9, hf⟩ := m_bndE hf
  have h_S11 := fra_A h_S7 q8 e9 (by decide)
  obtain ⟨-, hf⟩ := m_chkE hf
  obtain ⟨b12, -, hf⟩ := m_calE hf
  obtain ⟨-, hf⟩ := m_chkE hf
  obtain ⟨-, hf⟩ := m_chkE hf
  obtain ⟨b13, -, hf⟩ := m_calE hf
  obtain ⟨-, hf⟩ := m_chkE hf
  obtain ⟨b14, -, hf⟩ := m_calE hf
  obtain ⟨v15, e10, hf⟩ := m_bndE hf
  obtain ⟨-, hf⟩ := m_chkE hf
  obtain ⟨-, hf⟩ := m_chkE hf
  obtain ⟨b16, -, hf⟩ := m_calE hf
  obtain ⟨-, hf⟩ := m_chkE hf
  obtain ⟨o17, ho, hf⟩ := m_calE hf
  have h_o17 := fra_t h_S11 (fa_X0_copyFrom ho) (by decide)
  clear ho
  obtain ⟨-, hf⟩ := m_chkE hf
  obtain ⟨v18, e11, hf⟩ := m_bndE hf
  obtain ⟨-, hf⟩ := m_chkE hf
  obtain ⟨S19, e12, hf⟩ := m_bndE hf
  have h_S19 := fra_I h_o17 e12
  cases hf
  exact h_S19
theorem fa_X2_openLine {o : Int32 × ZS} {x0 : Nat} {x1 : Int32} {S : ZS}  (hf : f_X2_openLine x0 x1 S = some o) : FrA [14] S o.2 := by
  have h_S : FrA [14] S S := fra_0
  unfold f_X2_openLine at hf
  exact fra_t h_S (fa_X2_openLine_0  hf) (fun _ h => h)
theorem fa_X2_readDigits_67 {o : Int32 × ZS} {x3 : Int32} {S : ZS}  (hf : f_X2_readDigits_67 x3 S = some o) : FrA [] S o.2 := by
  have h_S : FrA [] S S := fra_0
  unfold f_X2_readDigits_67 at hf
  cases hf
  exact h_S
theorem fa_X2_readDigits_9s {o : Int32 × ZS} {self9 : Nat → Int32 → Int32 → ZS → Option (Int32 × ZS)} {x0 : Nat} {x2 : Int32} {x3 : Int32} {S : ZS} (hself9 : ∀ (z0 : Nat) (z1 : Int32) (z2 : Int32) (S : ZS) (o : Int32 × ZS), self9 z0 z1 z2 S = some o → FrA [] S o.2) (hf : f_X2_readDigits_9s self9 x0 x2 x3 S = some o) : FrA [] S o.2 := by
  have h_S : FrA [] S S := fra_0
  unfold f_X2_readDigits_9s at hf
  obtain ⟨-, hf⟩ := m_chkE hf
  rcases m_ifE hf with ⟨-, hf⟩ | ⟨-, hf⟩
  ·
    exact fra_t h_S (fa_X2_readDigits_67  hf) (fun _ h => h)
  ·
    obtain ⟨-, hf⟩ := m_chkE hf
    obtain ⟨b1, -, hf⟩ := m_calE hf
    obtain ⟨-, hf⟩ := m_chkE hf
    obtain ⟨-, hf⟩ := m_chkE hf
    obtain ⟨o2, ho, hf⟩ := m_calE hf
    have h_o2 := fra_t h_S (fa_X6_at ho) (by decide)
    clear ho
    obtain ⟨o3, ho, hf⟩ := m_calE hf
    have h_o3 := fra_t h_o2 (fa_X11_isDigit ho) (by decide)
    clear ho
    rcases m_ifE hf with ⟨-, hf⟩ | ⟨-, hf⟩
    ·
      exact fra_t h_o3 (fa_X2_readDigits_67  hf) (fun _ h => h)
    ·
      obtain ⟨v4, e1, hf⟩ := m_bndE hf
      obtain ⟨-, hf⟩ := m_chkE hf
      obtain ⟨b5, -, hf⟩ := m_calE hf
      obtain ⟨-, hf⟩ := m_chkE hf
      obtain ⟨-, hf⟩ := m_chkE hf
      obtain ⟨o6, ho, hf⟩ := m_calE hf
      have h_o6 := fra_t h_o3 (fa_X6_at ho) (by decide)
      clear ho
      obtain ⟨v7, e2, hf⟩ := m_bndE hf
      obtain ⟨v8, e3, hf⟩ := m_bndE hf
      obtain ⟨-, hf⟩ := m_chkE hf
      obtain ⟨v9, e4, hf⟩ := m_bndE hf
      obtain ⟨-, hf⟩ := m_chkE hf
      obtain ⟨S10, e5, hf⟩ := m_bndE hf
      have h_S10 := fra_I h_o6 e5
      exact fra_t h_S10 (hself9 _ _ _ _ _ hf) (fun _ h => h)
theorem fa_X2_readDigits_9   (n : Nat) : ∀ (y0 : Nat) (y1 : Int32) (y2 : Int32) (S : ZS) (o : Int32 × ZS), f_X2_readDigits_9  n y0 y1 y2 S = some o → FrA [] S o.2 := by
  induction n with
  | zero => intro y0 y1 y2 S o hf; cases hf
  | succ n ih => intro y0 y1 y2 S o hf; exact fa_X2_readDigits_9s  ih hf
theorem fa_X2_readDigits_0 {o : Int32 × ZS} {x0 : Nat} {x1 : Int32} {S : ZS}  (hf : f_X2_readDigits_0 x0 x1 S = some o) : FrA [] S o.2 := by
  have h_S : FrA [] S S := fra_0
  unfold f_X2_readDigits_0 at hf
  obtain ⟨-, hf⟩ := m_chkE hf
  obtain ⟨v1, e1, hf⟩ := m_bndE hf
  exact fra_t h_S (fa_X2_readDigits_9  _ _ _ _ _ _ hf) (fun _ h => h)
theorem fa_X2_readDigits {o : Int32 × ZS} {x0 : Nat} {x1 : Int32} {S : ZS}  (hf : f_X2_readDigits x0 x1 S = some o) : FrA [] S o.2 := by
  have h_S : FrA [] S S := fra_0
  unfold f_X2_readDigits at hf
  exact fra_t h_S (fa_X2_readDigits_0  hf) (fun _ h => h)
theorem fa_X2_readNumber_78 {o : Int32 × ZS} {t0 : Int32} {S : ZS}  (hf : f_X2_readNumber_78 t0 S = some o) : FrA [] S o.2 := by
  have h_S : FrA [] S S := fra_0
  unfold f_X2_readNumber_78 at hf
  obtain ⟨-, hf⟩ := m_chkE hf
  cases hf
  exact h_S
theorem fa_X2_readNumber_73 {o : Int32 × ZS} {S : ZS}  (hf : f_X2_readNumber_73 S = some o) : FrA [] S o.2 := by
  have h_S : FrA [] S S := fra_0
  unfold f_X2_readNumber_73 at hf
  exact fra_t h_S (fa_X2_readNumber_78  hf) (fun _ h => h)
theorem fa_X2_readNumber_54 {o : Int32 × ZS} {x0 : Nat} {x1 : Int32} {x2 : Int32} {x3 : Int32} {S : ZS}  (hf : f_X2_readNumber_54 x0 x1 x2 x3 S = some o) : FrA [] S o.2 := by
  have h_S : FrA [] S S := fra_0
  unfold f_X2_readNumber_54 at hf
  obtain ⟨-, hf⟩ := m_chkE hf
  obtain ⟨o1, ho, hf⟩ := m_calE hf
  have h_o1 := fra_t h_S (fa_X2_skipBlanks ho) (by decide)
  clear ho
  rcases m_ifE hf with ⟨-, hf⟩ | ⟨-, hf⟩
  ·
    exact fra_t h_o1 (fa_X2_readNumber_73  hf) (fun _ h => h)
  ·
    obtain ⟨-, hf⟩ := m_chkE hf
    obtain ⟨o2, ho, hf⟩ := m_calE hf
    have h_o2 := fra_t h_o1 (fa_X2_refuse ho) (by decide)
    clear ho
    rcases m_ifE hf with ⟨-, hf⟩ | ⟨-, hf⟩
    ·
      exact fra_t h_o2 (fa_X2_readNumber_78  hf) (fun _ h => h)
    ·
      exact fra_t h_o2 (fa_X2_readNumber_73  hf) (fun _ h => h)
theorem fa_X2_readNumber_11s {o : Int32 × ZS} {self11 : Nat → Int32 → Int32 → Int32 → ZS → Option (Int32 × ZS)} {x0 : Nat} {x1 : Int32} {x2 : Int32} {x3 : Int32} {S : ZS} (hself11 : ∀ (z0 : Nat) (z1 : Int32) (z2 : Int32) (z3 : Int32) (S : ZS) (o : Int32 × ZS), self11 z0 z1 z2 z3 S = some o → FrA [] S o.2) (hf : f_X2_readNumber_11s self11 x0 x1 x2 x3 S = some o) : FrA [] S o.2 := by
  have h_S : FrA [] S S := fra_0
  unfold f_X2_readNumber_11s at hf
  obtain ⟨-, hf⟩ := m_chkE hf
  obtain ⟨-, hf⟩ := m_chkE hf
  obtain ⟨b1, -, hf⟩ := m_calE hf
  obtain ⟨-, hf⟩ := m_chkE hf
  obtain ⟨o2, ho, hf⟩ := m_calE hf
  have h_o2 := fra_t h_S (fa_X6_size ho) (by decide)
  clear ho
  rcases m_ifE hf with ⟨-, hf⟩ | ⟨-, hf⟩
  ·
    exact fra_t h_o2 (fa_X2_readNumber_54  hf) (fun _ h => h)
  ·
    obtain ⟨-, hf⟩ := m_chkE hf
    obtain ⟨b3, -, hf⟩ := m_calE hf
    obtain ⟨-, hf⟩ := m_chkE hf
    obtain ⟨-, hf⟩ := m_chkE hf
    obtain ⟨o4, ho, hf⟩ := m_calE hf
    have h_o4 := fra_t h_o2 (fa_X6_at ho) (by decide)
    clear ho
    rcases m_ifE hf with ⟨-, hf⟩ | ⟨-, hf⟩
    ·
      obtain ⟨-, hf⟩ := m_chkE hf
      obtain ⟨v5, e1, hf⟩ := m_bndE hf
      obtain ⟨-, hf⟩ := m_chkE hf
      obtain ⟨S6, e2, hf⟩ := m_bndE hf
      have h_S6 := fra_I h_o4 e2
      exact fra_t h_S6 (hself11 _ _ _ _ _ _ hf) (fun _ h => h)
    ·
      exact fra_t h_o4 (fa_X2_readNumber_54  hf) (fun _ h => h)
theorem fa_X2_readNumber_11   (n : Nat) : ∀ (y0 : Nat) (y1 : Int32) (y2 : Int32) (y3 : Int32) (S : ZS) (o : Int32 × ZS), f_X2_readNumber_11  n y0 y1 y2 y3 S = some o → FrA [] S o.2 := by
  induction n with
  | zero => intro y0 y1 y2 y3 S o hf; cases hf
  | succ n ih => intro y0 y1 y2 y3 S o hf; exact fa_X2_readNumber_11s  ih hf
theorem fa_X2_readNumber_0 {o : Int32 × ZS} {x0 : Nat} {x1 : Int32} {S : ZS}  (hf : f_X2_readNumber_0 x0 x1 S = some o) : FrA [] S o.2 := by
  have h_S : FrA [] S S := fra_0
  unfold f_X2_readNumber_0 at hf
  obtain ⟨-, hf⟩ := m_chkE hf
  obtain ⟨-, hf⟩ := m_chkE hf
  obtain ⟨o1, ho, hf⟩ := m_calE hf
  have h_o1 := fra_t h_S (fa_X2_readDigits ho) (by decide)
  clear ho
  exact fra_t h_o1 (fa_X2_readNumber_11  _ _ _ _ _ _ _ hf) (fun _ h => h)
theorem fa_X2_readNumber {o : Int32 × ZS} {x0 : Nat} {x1 : Int32} {S : ZS}  (hf : f_X2_readNumber x0 x1 S = some o) : FrA [] S o.2 := by
  have h_S : FrA [] S S := fra_0
  unfold f_X2_readNumber at hf
  exact fra_t h_S (fa_X2_readNumber_0  hf) (fun _ h => h)
theorem fa_X2_isSign_43 {o : Int32 × ZS} {t0 : Int32} {S : ZS}  (hf : f_X2_isSign_43 t0 S = some o) : FrA [] S o.2 := by
  have h_S : FrA [] S S := fra_0
  unfold f_X2_isSign_43 at hf
  obtain ⟨-, hf⟩ := m_chkE hf
  cases hf
  exact h_S
theorem fa_X2_isSign_38 {o : Int32 × ZS} {S : ZS}  (hf : f_X2_isSign_38 S = some o) : FrA [] S o.2 := by
  have h_S : FrA [] S S := fra_0
  unfold f_X2_isSign_38 at hf
  exact fra_t h_S (fa_X2_isSign_43  hf) (fun _ h => h)
theorem fa_X2_isSign_0 {o : Int32 × ZS} {x0 : Int32} {S : ZS}  (hf : f_X2_isSign_0 x0 S = some o) : FrA [] S o.2 := by
  have h_S : FrA [] S S := fra_0
  unfold f_X2_isSign_0 at hf
  obtain ⟨o1, ho, hf⟩ := m_calE hf
  have h_o1 := fra_t h_S (fa_X11_isLetter ho) (by decide)
  clear ho
  rcases m_ifE hf with ⟨-, hf⟩ | ⟨-, hf⟩
  ·
    obtain ⟨o2, ho, hf⟩ := m_calE hf
    have h_o2 := fra_t h_o1 (fa_X11_isDigit ho) (by decide)
    clear ho
    rcases m_ifE hf with ⟨-, hf⟩ | ⟨-, hf⟩
    ·
      rcases m_ifE hf with ⟨-, hf⟩ | ⟨-, hf⟩
      ·
        exact fra_t h_o2 (fa_X2_isSign_38  hf) (fun _ h => h)
      ·
        rcases m_ifE hf with ⟨-, hf⟩ | ⟨-, hf⟩
        ·
          exact fra_t h_o2 (fa_X2_isSign_38  hf) (fun _ h => h)
        ·
          rcases m_ifE hf with ⟨-, hf⟩ | ⟨-, hf⟩
          ·
            exact fra_t h_o2 (fa_X2_isSign_38  hf) (fun _ h => h)
          ·
            rcases m_ifE hf with ⟨-, hf⟩ | ⟨-, hf⟩
            ·
              exact fra_t h_o2 (fa_X2_isSign_38  hf) (fun _ h => h)
            ·
              exact fra_t h_o2 (fa_X2_isSign_43  hf) (fun _ h => h)
    ·
      exact fra_t h_o2 (fa_X2_isSign_38  hf) (fun _ h => h)
  ·
    exact fra_t h_o1 (fa_X2_isSign_38  hf) (fun _ h => h)
theorem fa_X2_isSign {o : Int32 × ZS} {x0 : Int32} {S : ZS}  (hf : f_X2_isSign x0 S = some o) : FrA [] S o.2 := by
  have h_S : FrA [] S S := fra_0
  unfold f_X2_isSign at hf
  exact fra_t h_S (fa_X2_isSign_0  hf) (fun _ h => h)
theorem fa_X2_skipSigns_44 {o : Int32 × ZS} {S : ZS}  (hf : f_X2_skipSigns_44 S = some o) : FrA [] S o.2 := by
  have h_S : FrA [] S S := fra_0
  unfold f_X2_skipSigns_44 at hf
  cases hf
  exact h_S
theorem fa_X2_skipSigns_0s {o : Int32 × ZS} {self0 : Nat → ZS → Option (Int32 × ZS)} {x0 : Nat} {S : ZS} (hself0 : ∀ (z0 : Nat) (S : ZS) (o : Int32 × ZS), self0 z0 S = some o → FrA [] S o.2) (hf : f_X2_skipSigns_0s self0 x0 S = some o) : FrA [] S o.2 := by
  have h_S : FrA [] S S := fra_0
  unfold f_X2_skipSigns_0s at hf
  obtain ⟨-, hf⟩ := m_chkE hf
  obtain ⟨-, hf⟩ := m_chkE hf
  obtain ⟨b1, -, hf⟩ := m_calE hf
  obtain ⟨-, hf⟩ := m_chkE hf
  obtain ⟨o2, ho, hf⟩ := m_calE hf
  have h_o2 := fra_t h_S (fa_X6_size ho) (by decide)
  clear ho
  rcases m_ifE hf with ⟨-, hf⟩ | ⟨-, hf⟩
  ·
    exact fra_t h_o2 (fa_X2_skipSigns_44  hf) (fun _ h => h)
  ·
    obtain ⟨-, hf⟩ := m_chkE hf
    obtain ⟨b3, -, hf⟩ := m_calE hf
    obtain ⟨-, hf⟩ := m_chkE hf
    obtain ⟨-, hf⟩ := m_chkE hf
    obtain ⟨o4, ho, hf⟩ := m_calE hf
    have h_o4 := fra_t h_o2 (fa_X6_at ho) (by decide)
    clear ho
    obtain ⟨o5, ho, hf⟩ := m_calE hf
    have h_o5 := fra_t h_o4 (fa_X2_isSign ho) (by decide)
    clear ho
    rcases m_ifE hf with ⟨-, hf⟩ | ⟨-, hf⟩
    ·
      exact fra_t h_o5 (fa_X2_skipSigns_44  hf) (fun _ h => h)
    ·
      obtain ⟨-, hf⟩ := m_chkE hf
      obtain ⟨v6, e1, hf⟩ := m_bndE hf
      obtain ⟨-, hf⟩ := m_chkE hf
      obtain ⟨S7, e2, hf⟩ := m_bndE hf
      have h_S7 := fra_I h_o5 e2
      exact fra_t h_S7 (hself0 _ _ _ hf) (fun _ h => h)
theorem fa_X2_skipSigns_0   (n : Nat) : ∀ (y0 : Nat) (S : ZS) (o : Int32 × ZS), f_X2_skipSigns_0  n y0 S = some o → FrA [] S o.2 := by
  induction n with
  | zero => intro y0 S o hf; cases hf
  | succ n ih => intro y0 S o hf; exact fa_X2_skipSigns_0s  ih hf
theorem fa_X2_skipSigns {o : Int32 × ZS} {x0 : Nat} {S : ZS}  (hf : f_X2_skipSigns x0 S = some o) : FrA [] S o.2 := by
  have h_S : FrA [] S S := fra_0
  unfold f_X2_skipSigns at hf
  exact fra_t h_S (fa_X2_skipSigns_0  _ _ _ _ hf) (fun _ h => h)
theorem fa_X11_kindOf_0 {o : Int32 × ZS} {x0 : Int32} {S : ZS}  (hf : f_X11_kindOf_0 x0 S = some o) : FrA [] S o.2 := by
  have h_S : FrA [] S S := fra_0
  unfold f_X11_kindOf_0 at hf
  obtain ⟨-, hf⟩ := m_chkE hf
  obtain ⟨o1, ho, hf⟩ := m_calE hf
  have h_o1 := fra_t h_S (fa_J0_indexOf_0f7a4 ho) (by decide)
  clear ho
  obtain ⟨v2, e1, hf⟩ := m_bndE hf
  cases hf
  exact h_o1
theorem fa_X11_kindOf {o : Int32 × ZS} {x0 : Int32} {S : ZS}  (hf : f_X11_kindOf x0 S = some o) : FrA [] S o.2 := by
  have h_S : FrA [] S S := fra_0
  unfold f_X11_kindOf at hf
  exact fra_t h_S (fa_X11_kindOf_0  hf) (fun _ h => h)
theorem fa_X8_parseApart_104 {o : Int32 × ZS} {t0 : Int32} {S : ZS}  (hf : f_X8_parseApart_104 t0 S = some o) : FrA [] S o.2 := by
  have h_S : FrA [] S S := fra_0
  unfold f_X8_parseApart_104 at hf
  obtain ⟨-, hf⟩ := m_chkE hf
  cases hf
  exact h_S
theorem fa_X8_parseApart_94 {o : Int32 × ZS} {x2 : Int32} {x3 : Int32} {S : ZS}  (hf : f_X8_parseApart_94 x2 x3 S = some o) : FrA [] S o.2 := by
  have h_S : FrA [] S S := fra_0
  unfold f_X8_parseApart_94 at hf
  rcases m_ifE hf with ⟨-, hf⟩ | ⟨-, hf⟩
  ·
    exact fra_t h_S (fa_X8_parseApart_104  hf) (fun _ h => h)
  ·
    exact fra_t h_S (fa_X8_parseApart_104  hf) (fun _ h => h)
theorem fa_X8_parseApart_49 {o : Int32 × ZS} {x0 : Nat} {x2 : Int32} {x3 : Int32} {S : ZS}  (hf : f_X8_parseApart_49 x0 x2 x3 S = some o) : FrA [] S o.2 := by
  have h_S : FrA [] S S := fra_0
  unfold f_X8_parseApart_49 at hf
  rcases m_ifE hf with ⟨-, hf⟩ | ⟨-, hf⟩
  ·
    exact fra_t h_S (fa_X8_parseApart_94  hf) (fun _ h => h)
  ·
    obtain ⟨-, hf⟩ := m_chkE hf
    rcases m_ifE hf with ⟨-, hf⟩ | ⟨-, hf⟩
    ·
      exact fra_t h_S (fa_X8_parseApart_94  hf) (fun _ h => h)
    ·
      obtain ⟨-, hf⟩ := m_chkE hf
      obtain ⟨b1, -, hf⟩ := m_calE hf
      obtain ⟨-, hf⟩ := m_chkE hf
      obtain ⟨o2, ho, hf⟩ := m_calE hf
      have h_o2 := fra_t h_S (fa_X6_at ho) (by decide)
      clear ho
      obtain ⟨o3, ho, hf⟩ := m_calE hf
      have h_o3 := fra_t h_o2 (fa_X11_isRank ho) (by decide)
      clear ho
      rcases m_ifE hf with ⟨-, hf⟩ | ⟨-, hf⟩
      ·
        exact fra_t h_o3 (fa_X8_parseApart_94  hf) (fun _ h => h)
      ·
        obtain ⟨-, hf⟩ := m_chkE hf
        obtain ⟨b4, -, hf⟩ := m_calE hf
        obtain ⟨-, hf⟩ := m_chkE hf
        obtain ⟨o5, ho, hf⟩ := m_calE hf
        have h_o5 := fra_t h_o3 (fa_X6_at ho) (by decide)
        clear ho
        obtain ⟨v6, e1, hf⟩ := m_bndE hf
        obtain ⟨-, hf⟩ := m_chkE hf
        obtain ⟨S7, e2, hf⟩ := m_bndE hf
        have h_S7 := fra_I h_o5 e2
        obtain ⟨v8, e3, hf⟩ := m_bndE hf
        exact fra_t h_S7 (fa_X8_parseApart_94  hf) (fun _ h => h)
theorem fa_X8_parseApart_0 {o : Int32 × ZS} {x0 : Nat} {x1 : Int32} {x2 : Int32} {S : ZS}  (hf : f_X8_parseApart_0 x0 x1 x2 S = some o) : FrA [] S o.2 := by
  have h_S : FrA [] S S := fra_0
  unfold f_X8_parseApart_0 at hf
  obtain ⟨-, hf⟩ := m_chkE hf
  obtain ⟨S1, e1, hf⟩ := m_bndE hf
  have h_S1 := fra_I h_S e1
  obtain ⟨-, hf⟩ := m_chkE hf
  obtain ⟨S2, e2, hf⟩ := m_bndE hf
  have h_S2 := fra_I h_S1 e2
  rcases m_ifE hf with ⟨-, hf⟩ | ⟨-, hf⟩
  ·
    exact fra_t h_S2 (fa_X8_parseApart_49  hf) (fun _ h => h)
  ·
    obtain ⟨-, hf⟩ := m_chkE hf
    obtain ⟨b3, -, hf⟩ := m_calE hf
    obtain ⟨-, hf⟩ := m_chkE hf
    obtain ⟨o4, ho, hf⟩ := m_calE hf
    have h_o4 := fra_t h_S2 (fa_X6_at ho) (by decide)
    clear ho
    obtain ⟨o5, ho, hf⟩ := m_calE hf
    have h_o5 := fra_t h_o4 (fa_X11_isFile ho) (by decide)
    clear ho
    rcases m_ifE hf with ⟨-, hf⟩ | ⟨-, hf⟩
    ·
      exact fra_t h_o5 (fa_X8_parseApart_49  hf) (fun _ h => h)
    ·
      obtain ⟨-, hf⟩ := m_chkE hf
      obtain ⟨b6, -, hf⟩ := m_calE hf
      obtain ⟨-, hf⟩ := m_chkE hf
      obtain ⟨o7, ho, hf⟩ := m_calE hf
      have h_o7 := fra_t h_o5 (fa_X6_at ho) (by decide)
      clear ho
      obtain ⟨v8, e3, hf⟩ := m_bndE hf
      obtain ⟨-, hf⟩ := m_chkE hf
      obtain ⟨S9, e4, hf⟩ := m_bndE hf
      have h_S9 := fra_I h_o7 e4
      obtain ⟨v10, e5, hf⟩ := m_bndE hf
      exact fra_t h_S9 (fa_X8_parseApart_49  hf) (fun _ h => h)
theorem fa_X8_parseApart {o : Int32 × ZS} {x0 : Nat} {x1 : Int32} {x2 : Int32} {S : ZS}  (hf : f_X8_parseApart x0 x1 x2 S = some o) : FrA [] S o.2 := by
  have h_S : FrA [] S S := fra_0
  unfold f_X8_parseApart at hf
  exact fra_t h_S (fa_X8_parseApart_0  hf) (fun _ h => h)
theorem fa_X8_parse_232 {o : Int32 × ZS} {x0 : Nat} {x1 : Int32} {x2 : Int32} {t0 : Int32} {t1 : Nat} {S : ZS}  (hf : f_X8_parse_232 x0 x1 x2 t0 t1 S = some o) : FrA [] S o.2 := by
  have h_S : FrA [] S S := fra_0
  unfold f_X8_parse_232 at hf
  obtain ⟨-, hf⟩ := m_chkE hf
  obtain ⟨S1, e1, hf⟩ := m_bndE hf
  have h_S1 := fra_I h_S e1
  obtain ⟨-, hf⟩ := m_chkE hf
  obtain ⟨v2, e2, hf⟩ := m_bndE hf
  obtain ⟨-, hf⟩ := m_chkE hf
  obtain ⟨o3, ho, hf⟩ := m_calE hf
  have h_o3 := fra_t h_S1 (fa_X8_parseApart ho) (by decide)
  clear ho
  obtain ⟨-, hf⟩ := m_chkE hf
  cases hf
  exact h_o3
theorem fa_X8_parse_231 {o : Int32 × ZS} {x0 : Nat} {x1 : Int32} {x2 : Int32} {t0 : Nat} {S : ZS}  (hf : f_X8_parse_231 x0 x1 x2 t0 S = some o) : FrA [] S o.2 := by
  have h_S : FrA [] S S := fra_0
  unfold f_X8_parse_231 at hf
  exact fra_t h_S (fa_X8_parse_232  hf) (fun _ h => h)
theorem fa_X8_parse_166 {o : Int32 × ZS} {x0 : Nat} {x1 : Int32} {x2 : Int32} {S : ZS}  (hf : f_X8_parse_166 x0 x1 x2 S = some o) : FrA [] S o.2 := by
  have h_S : FrA [] S S := fra_0
  unfold f_X8_parse_166 at hf
  obtain ⟨-, hf⟩ := m_chkE hf
  obtain ⟨b1, -, hf⟩ := m_calE hf
  obtain ⟨v2, e1, hf⟩ := m_bndE hf
  obtain ⟨-, hf⟩ := m_chkE hf
  obtain ⟨o3, ho, hf⟩ := m_calE hf
  have h_o3 := fra_t h_S (fa_X6_at ho) (by decide)
  clear ho
  obtain ⟨-, hf⟩ := m_chkE hf
  obtain ⟨b4, -, hf⟩ := m_calE hf
  obtain ⟨v5, e2, hf⟩ := m_bndE hf
  obtain ⟨-, hf⟩ := m_chkE hf
  obtain ⟨o6, ho, hf⟩ := m_calE hf
  have h_o6 := fra_t h_o3 (fa_X6_at ho) (by decide)
  clear ho
  obtain ⟨o7, ho, hf⟩ := m_calE hf
  have h_o7 := fra_t h_o6 (fa_X11_squareOf ho) (by decide)
  clear ho
  obtain ⟨-, hf⟩ := m_chkE hf
  obtain ⟨S8, e3, hf⟩ := m_bndE hf
  have h_S8 := fra_I h_o7 e3
  obtain ⟨v9, e4, hf⟩ := m_bndE hf
  obtain ⟨-, hf⟩ := m_chkE hf
  rcases m_ifE hf with ⟨-, hf⟩ | ⟨-, hf⟩
  ·
    obtain ⟨-, hf⟩ := m_chkE hf
    cases hf
    exact h_S8
  ·
    rcases m_ifE hf with ⟨-, hf⟩ | ⟨-, hf⟩
    ·
      exact fra_t h_S8 (fa_X8_parse_231  hf) (fun _ h => h)
    ·
      obtain ⟨-, hf⟩ := m_chkE hf
      obtain ⟨b10, -, hf⟩ := m_calE hf
      obtain ⟨v11, e5, hf⟩ := m_bndE hf
      obtain ⟨-, hf⟩ := m_chkE hf
      obtain ⟨o12, ho, hf⟩ := m_calE hf
      have h_o12 := fra_t h_S8 (fa_X6_at ho) (by decide)
      clear ho
      rcases m_ifE hf with ⟨-, hf⟩ | ⟨-, hf⟩
      ·
        exact fra_t h_o12 (fa_X8_parse_232  hf) (fun _ h => h)
      ·
        exact fra_t h_o12 (fa_X8_parse_231  hf) (fun _ h => h)
theorem fa_X8_parse_161 {o : Int32 × ZS} {S : ZS}  (hf : f_X8_parse_161 S = some o) : FrA [] S o.2 := by
  have h_S : FrA [] S S := fra_0
  unfold f_X8_parse_161 at hf
  obtain ⟨-, hf⟩ := m_chkE hf
  cases hf
  exact h_S
theorem fa_X8_parse_102 {o : Int32 × ZS} {x0 : Nat} {x1 : Int32} {x2 : Int32} {t0 : Int32} {t1 : Nat} {S : ZS}  (hf : f_X8_parse_102 x0 x1 x2 t0 t1 S = some o) : FrA [] S o.2 := by
  have h_S : FrA [] S S := fra_0
  unfold f_X8_parse_102 at hf
  obtain ⟨-, hf⟩ := m_chkE hf
  obtain ⟨S1, e1, hf⟩ := m_bndE hf
  have h_S1 := fra_I h_S e1
  obtain ⟨-, hf⟩ := m_chkE hf
  rcases m_ifE hf with ⟨-, hf⟩ | ⟨-, hf⟩
  ·
    obtain ⟨-, hf⟩ := m_chkE hf
    obtain ⟨b2, -, hf⟩ := m_calE hf
    obtain ⟨v3, e2, hf⟩ := m_bndE hf
    obtain ⟨-, hf⟩ := m_chkE hf
    obtain ⟨o4, ho, hf⟩ := m_calE hf
    have h_o4 := fra_t h_S1 (fa_X6_at ho) (by decide)
    clear ho
    rcases m_ifE hf with ⟨-, hf⟩ | ⟨-, hf⟩
    ·
      obtain ⟨-, hf⟩ := m_chkE hf
      obtain ⟨b5, -, hf⟩ := m_calE hf
      obtain ⟨v6, e3, hf⟩ := m_bndE hf
      obtain ⟨-, hf⟩ := m_chkE hf
      obtain ⟨o7, ho, hf⟩ := m_calE hf
      have h_o7 := fra_t h_o4 (fa_X6_at ho) (by decide)
      clear ho
      obtain ⟨o8, ho, hf⟩ := m_calE hf
      have h_o8 := fra_t h_o7 (fa_X11_kindOf ho) (by decide)
      clear ho
      obtain ⟨-, hf⟩ := m_chkE hf
      obtain ⟨S9, e4, hf⟩ := m_bndE hf
      have h_S9 := fra_I h_o8 e4
      obtain ⟨-, hf⟩ := m_chkE hf
      rcases m_ifE hf with ⟨-, hf⟩ | ⟨-, hf⟩
      ·
        exact fra_t h_S9 (fa_X8_parse_161  hf) (fun _ h => h)
      ·
        obtain ⟨-, hf⟩ := m_chkE hf
        rcases m_ifE hf with ⟨-, hf⟩ | ⟨-, hf⟩
        ·
          obtain ⟨v10, e5, hf⟩ := m_bndE hf
          exact fra_t h_S9 (fa_X8_parse_166  hf) (fun _ h => h)
        ·
          exact fra_t h_S9 (fa_X8_parse_161  hf) (fun _ h => h)
    ·
      exact fra_t h_o4 (fa_X8_parse_166  hf) (fun _ h => h)
  ·
    exact fra_t h_S1 (fa_X8_parse_166  hf) (fun _ h => h)
theorem fa_X8_parse_72 {o : Int32 × ZS} {x0 : Nat} {t0 : Int32} {S : ZS}  (hf : f_X8_parse_72 x0 t0 S = some o) : FrA [] S o.2 := by
  have h_S : FrA [] S S := fra_0
  unfold f_X8_parse_72 at hf
  obtain ⟨-, hf⟩ := m_chkE hf
  obtain ⟨b1, -, hf⟩ := m_calE hf
  obtain ⟨-, hf⟩ := m_chkE hf
  obtain ⟨o2, ho, hf⟩ := m_calE hf
  have h_o2 := fra_t h_S (fa_X6_size ho) (by decide)
  clear ho
  rcases m_ifE hf with ⟨-, hf⟩ | ⟨-, hf⟩
  ·
    obtain ⟨-, hf⟩ := m_chkE hf
    obtain ⟨b3, -, hf⟩ := m_calE hf
    obtain ⟨-, hf⟩ := m_chkE hf
    obtain ⟨o4, ho, hf⟩ := m_calE hf
    have h_o4 := fra_t h_o2 (fa_X6_at ho) (by decide)
    clear ho
    obtain ⟨o5, ho, hf⟩ := m_calE hf
    have h_o5 := fra_t h_o4 (fa_X11_kindOf ho) (by decide)
    clear ho
    exact fra_t h_o5 (fa_X8_parse_102  hf) (fun _ h => h)
  ·
    exact fra_t h_o2 (fa_X8_parse_102  hf) (fun _ h => h)
theorem fa_X8_parse_40 {o : Int32 × ZS} {x0 : Nat} {t0 : Int32} {t1 : Nat} {S : ZS}  (hf : f_X8_parse_40 x0 t0 t1 S = some o) : FrA [] S o.2 := by
  have h_S : FrA [] S S := fra_0
  unfold f_X8_parse_40 at hf
  obtain ⟨-, hf⟩ := m_chkE hf
  obtain ⟨S1, e1, hf⟩ := m_bndE hf
  have h_S1 := fra_I h_S e1
  obtain ⟨-, hf⟩ := m_chkE hf
  rcases m_ifE hf with ⟨-, hf⟩ | ⟨-, hf⟩
  ·
    obtain ⟨-, hf⟩ := m_chkE hf
    obtain ⟨b2, -, hf⟩ := m_calE hf
    obtain ⟨-, hf⟩ := m_chkE hf
    obtain ⟨o3, ho, hf⟩ := m_calE hf
    have h_o3 := fra_t h_S1 (fa_X6_at ho) (by decide)
    clear ho
    obtain ⟨o4, ho, hf⟩ := m_calE hf
    have h_o4 := fra_t h_o3 (fa_X11_kindOf ho) (by decide)
    clear ho
    rcases m_ifE hf with ⟨-, hf⟩ | ⟨-, hf⟩
    ·
      exact fra_t h_o4 (fa_X8_parse_72  hf) (fun _ h => h)
    ·
      exact fra_t h_o4 (fa_X8_parse_72  hf) (fun _ h => h)
  ·
    obtain ⟨-, hf⟩ := m_chkE hf
    cases hf
    exact h_S1
theorem fa_X8_parse_0 {o : Int32 × ZS} {x0 : Nat} {S : ZS}  (hf : f_X8_parse_0 x0 S = some o) : FrA [] S o.2 := by
  have h_S : FrA [] S S := fra_0
  unfold f_X8_parse_0 at hf
  obtain ⟨-, hf⟩ := m_chkE hf
  obtain ⟨S1, e1, hf⟩ := m_bndE hf
  have h_S1 := fra_I h_S e1
  obtain ⟨-, hf⟩ := m_chkE hf
  obtain ⟨b2, -, hf⟩ := m_calE hf
  obtain ⟨-, hf⟩ := m_chkE hf
  obtain ⟨o3, ho, hf⟩ := m_calE hf
  have h_o3 := fra_t h_S1 (fa_X6_is ho) (by decide)
  clear ho
  rcases m_ifE hf with ⟨-, hf⟩ | ⟨-, hf⟩
  ·
    obtain ⟨-, hf⟩ := m_chkE hf
    obtain ⟨b4, -, hf⟩ := m_calE hf
    obtain ⟨-, hf⟩ := m_chkE hf
    obtain ⟨o5, ho, hf⟩ := m_calE hf
    have h_o5 := fra_t h_o3 (fa_X6_is ho) (by decide)
    clear ho
    rcases m_ifE hf with ⟨-, hf⟩ | ⟨-, hf⟩
    ·
      exact fra_t h_o5 (fa_X8_parse_40  hf) (fun _ h => h)
    ·
      exact fra_t h_o5 (fa_X8_parse_40  hf) (fun _ h => h)
  ·
    exact fra_t h_o3 (fa_X8_parse_40  hf) (fun _ h => h)
theorem fa_X8_parse {o : Int32 × ZS} {x0 : Nat} {S : ZS}  (hf : f_X8_parse x0 S = some o) : FrA [] S o.2 := by
  have h_S : FrA [] S S := fra_0
  unfold f_X8_parse at hf
  exact fra_t h_S (fa_X8_parse_0  hf) (fun _ h => h)
theorem fa_X8_fitsFrom_70 {o : Int32 × ZS} {S : ZS}  (hf : f_X8_fitsFrom_70 S = some o) : FrA [] S o.2 := by
  have h_S : FrA [] S S := fra_0
  unfold f_X8_fitsFrom_70 at hf
  obtain ⟨-, hf⟩ := m_chkE hf
  cases hf
  exact h_S
theorem fa_X8_fitsFrom_158 {o : Int32 × ZS} {t0 : Int32} {S : ZS}  (hf : f_X8_fitsFrom_158 t0 S = some o) : FrA [] S o.2 := by
  have h_S : FrA [] S S := fra_0
  unfold f_X8_fitsFrom_158 at hf
  obtain ⟨-, hf⟩ := m_chkE hf
  cases hf
  exact h_S
theorem fa_X8_fitsFrom_157 {o : Int32 × ZS} {S : ZS}  (hf : f_X8_fitsFrom_157 S = some o) : FrA [] S o.2 := by
  have h_S : FrA [] S S := fra_0
  unfold f_X8_fitsFrom_157 at hf
  exact fra_t h_S (fa_X8_fitsFrom_158  hf) (fun _ h => h)
theorem fa_X8_fitsFrom_150 {o : Int32 × ZS} {t0 : Int32} {t1 : Int32} {S : ZS}  (hf : f_X8_fitsFrom_150 t0 t1 S = some o) : FrA [] S o.2 := by
  have h_S : FrA [] S S := fra_0
  unfold f_X8_fitsFrom_150 at hf
  rcases m_ifE hf with ⟨-, hf⟩ | ⟨-, hf⟩
  ·
    exact fra_t h_S (fa_X8_fitsFrom_158  hf) (fun _ h => h)
  ·
    exact fra_t h_S (fa_X8_fitsFrom_157  hf) (fun _ h => h)
theorem fa_X8_fitsFrom_129 {o : Int32 × ZS} {x0 : Nat} {x1 : Nat} {x2 : Int32} {S : ZS}  (hf : f_X8_fitsFrom_129 x0 x1 x2 S = some o) : FrA [] S o.2 := by
  have h_S : FrA [] S S := fra_0
  unfold f_X8_fitsFrom_129 at hf
  obtain ⟨-, hf⟩ := m_chkE hf
  obtain ⟨-, hf⟩ := m_chkE hf
  obtain ⟨o1, ho, hf⟩ := m_calE hf
  have h_o1 := fra_t h_S (fa_X0_becomesAnother ho) (by decide)
  clear ho
  obtain ⟨-, hf⟩ := m_chkE hf
  rcases m_ifE hf with ⟨-, hf⟩ | ⟨-, hf⟩
  ·
    exact fra_t h_o1 (fa_X8_fitsFrom_150  hf) (fun _ h => h)
  ·
    exact fra_t h_o1 (fa_X8_fitsFrom_150  hf) (fun _ h => h)
theorem fa_X8_fitsFrom_126 {o : Int32 × ZS} {x0 : Nat} {x1 : Nat} {x2 : Int32} {t0 : Int32} {t1 : Int32} {S : ZS}  (hf : f_X8_fitsFrom_126 x0 x1 x2 t0 t1 S = some o) : FrA [] S o.2 := by
  have h_S : FrA [] S S := fra_0
  unfold f_X8_fitsFrom_126 at hf
  rcases m_ifE hf with ⟨-, hf⟩ | ⟨-, hf⟩
  ·
    exact fra_t h_S (fa_X8_fitsFrom_129  hf) (fun _ h => h)
  ·
    exact fra_t h_S (fa_X8_fitsFrom_157  hf) (fun _ h => h)
theorem fa_X8_fitsFrom_104 {o : Int32 × ZS} {x0 : Nat} {x1 : Nat} {x2 : Int32} {x3 : Int32} {S : ZS}  (hf : f_X8_fitsFrom_104 x0 x1 x2 x3 S = some o) : FrA [] S o.2 := by
  have h_S : FrA [] S S := fra_0
  unfold f_X8_fitsFrom_104 at hf
  obtain ⟨-, hf⟩ := m_chkE hf
  rcases m_ifE hf with ⟨-, hf⟩ | ⟨-, hf⟩
  ·
    exact fra_t h_S (fa_X8_fitsFrom_129  hf) (fun _ h => h)
  ·
    obtain ⟨-, hf⟩ := m_chkE hf
    rcases m_ifE hf with ⟨-, hf⟩ | ⟨-, hf⟩
    ·
      exact fra_t h_S (fa_X8_fitsFrom_126  hf) (fun _ h => h)
    ·
      exact fra_t h_S (fa_X8_fitsFrom_126  hf) (fun _ h => h)
theorem fa_X8_fitsFrom_72 {o : Int32 × ZS} {x0 : Nat} {x1 : Nat} {x2 : Int32} {S : ZS}  (hf : f_X8_fitsFrom_72 x0 x1 x2 S = some o) : FrA [] S o.2 := by
  have h_S : FrA [] S S := fra_0
  unfold f_X8_fitsFrom_72 at hf
  obtain ⟨-, hf⟩ := m_chkE hf
  obtain ⟨-, hf⟩ := m_chkE hf
  obtain ⟨o1, ho, hf⟩ := m_calE hf
  have h_o1 := fra_t h_S (fa_X0_takes ho) (by decide)
  clear ho
  obtain ⟨-, hf⟩ := m_chkE hf
  rcases m_ifE hf with ⟨-, hf⟩ | ⟨-, hf⟩
  ·
    rcases m_ifE hf with ⟨-, hf⟩ | ⟨-, hf⟩
    ·
      exact fra_t h_o1 (fa_X8_fitsFrom_104  hf) (fun _ h => h)
    ·
      obtain ⟨-, hf⟩ := m_chkE hf
      rcases m_ifE hf with ⟨-, hf⟩ | ⟨-, hf⟩
      ·
        obtain ⟨-, hf⟩ := m_chkE hf
        cases hf
        exact h_o1
      ·
        exact fra_t h_o1 (fa_X8_fitsFrom_104  hf) (fun _ h => h)
  ·
    exact fra_t h_o1 (fa_X8_fitsFrom_104  hf) (fun _ h => h)
theorem fa_X8_fitsFrom_52 {o : Int32 × ZS} {x0 : Nat} {x1 : Nat} {x2 : Int32} {S : ZS}  (hf : f_X8_fitsFrom_52 x0 x1 x2 S = some o) : FrA [] S o.2 := by
  have h_S : FrA [] S S := fra_0
  unfold f_X8_fitsFrom_52 at hf
  obtain ⟨-, hf⟩ := m_chkE hf
  rcases m_ifE hf with ⟨-, hf⟩ | ⟨-, hf⟩
  ·
    exact fra_t h_S (fa_X8_fitsFrom_72  hf) (fun _ h => h)
  ·
    obtain ⟨-, hf⟩ := m_chkE hf
    obtain ⟨v1, e1, hf⟩ := m_bndE hf
    rcases m_ifE hf with ⟨-, hf⟩ | ⟨-, hf⟩
    ·
      exact fra_t h_S (fa_X8_fitsFrom_72  hf) (fun _ h => h)
    ·
      exact fra_t h_S (fa_X8_fitsFrom_70  hf) (fun _ h => h)
theorem fa_X8_fitsFrom_0 {o : Int32 × ZS} {x0 : Nat} {x1 : Nat} {x2 : Int32} {S : ZS}  (hf : f_X8_fitsFrom_0 x0 x1 x2 S = some o) : FrA [] S o.2 := by
  have h_S : FrA [] S S := fra_0
  unfold f_X8_fitsFrom_0 at hf
  obtain ⟨-, hf⟩ := m_chkE hf
  obtain ⟨b1, -, hf⟩ := m_calE hf
  obtain ⟨q1, hf⟩ := m_chkE hf
  obtain ⟨-, hf⟩ := m_chkE hf
  obtain ⟨v2, e2, hf⟩ := m_bndE hf
  obtain ⟨-, hf⟩ := m_chkE hf
  obtain ⟨-, hf⟩ := m_chkE hf
  obtain ⟨v3, e3, hf⟩ := m_bndE hf
  obtain ⟨v4, e4, hf⟩ := m_bndE hf
  rcases m_ifE hf with ⟨-, hf⟩ | ⟨-, hf⟩
  ·
    obtain ⟨-, hf⟩ := m_chkE hf
    obtain ⟨-, hf⟩ := m_chkE hf
    obtain ⟨o5, ho, hf⟩ := m_calE hf
    have h_o5 := fra_t h_S (fa_X0_castles ho) (by decide)
    clear ho
    rcases m_ifE hf with ⟨-, hf⟩ | ⟨-, hf⟩
    ·
      obtain ⟨-, hf⟩ := m_chkE hf
      rcases m_ifE hf with ⟨-, hf⟩ | ⟨-, hf⟩
      ·
        exact fra_t h_o5 (fa_X8_fitsFrom_52  hf) (fun _ h => h)
      ·
        obtain ⟨-, hf⟩ := m_chkE hf
        obtain ⟨v6, e5, hf⟩ := m_bndE hf
        rcases m_ifE hf with ⟨-, hf⟩ | ⟨-, hf⟩
        ·
          exact fra_t h_o5 (fa_X8_fitsFrom_52  hf) (fun _ h => h)
        ·
          exact fra_t h_o5 (fa_X8_fitsFrom_70  hf) (fun _ h => h)
    ·
      exact fra_t h_o5 (fa_X8_fitsFrom_70  hf) (fun _ h => h)
  ·
    exact fra_t h_S (fa_X8_fitsFrom_70  hf) (fun _ h => h)
theorem fa_X8_fitsFrom {o : Int32 × ZS} {x0 : Nat} {x1 : Nat} {x2 : Int32} {S : ZS}  (hf : f_X8_fitsFrom x0 x1 x2 S = some o) : FrA [] S o.2 := by
  have h_S : FrA [] S S := fra_0
  unfold f_X8_fitsFrom at hf
  exact fra_t h_S (fa_X8_fitsFrom_0  hf) (fun _ h => h)
theorem fa_X7_isSafe_105 {o : Int32 × ZS} {t0 : Int32} {S : ZS}  (hf : f_X7_isSafe_105 t0 S = some o) : FrA [14] S o.2 := by
  have h_S : FrA [14] S S := fra_0
  unfold f_X7_isSafe_105 at hf
  obtain ⟨-, hf⟩ := m_chkE hf
  cases hf
  exact h_S
theorem fa_X7_isSafe_61 {o : Int32 × ZS} {x0 : Nat} {x1 : Nat} {x2 : Int32} {x5 : Int32} {S : ZS}  (hf : f_X7_isSafe_61 x0 x1 x2 x5 S = some o) : FrA [14] S o.2 := by
  have h_S : FrA [14] S S := fra_0
  unfold f_X7_isSafe_61 at hf
  obtain ⟨-, hf⟩ := m_chkE hf
  obtain ⟨b1, -, hf⟩ := m_calE hf
  obtain ⟨-, hf⟩ := m_chkE hf
  obtain ⟨o2, ho, hf⟩ := m_calE hf
  have h_o2 := fra_t h_S (fa_X0_copyFrom ho) (by decide)
  clear ho
  obtain ⟨-, hf⟩ := m_chkE hf
  obtain ⟨b3, -, hf⟩ := m_calE hf
  obtain ⟨-, hf⟩ := m_chkE hf
  obtain ⟨o4, ho, hf⟩ := m_calE hf
  have h_o4 := fra_t h_o2 (fa_X0_play ho) (by decide)
  clear ho
  obtain ⟨-, hf⟩ := m_chkE hf
  obtain ⟨b5, -, hf⟩ := m_calE hf
  obtain ⟨-, hf⟩ := m_chkE hf
  obtain ⟨b6, -, hf⟩ := m_calE hf
  obtain ⟨-, hf⟩ := m_chkE hf
  obtain ⟨o7, ho, hf⟩ := m_calE hf
  have h_o7 := fra_t h_o4 (fa_X0_kingOf ho) (by decide)
  clear ho
  obtain ⟨v8, e1, hf⟩ := m_bndE hf
  obtain ⟨-, hf⟩ := m_chkE hf
  obtain ⟨o9, ho, hf⟩ := m_calE hf
  have h_o9 := fra_t h_o7 (fa_X0_attacked ho) (by decide)
  clear ho
  rcases m_ifE hf with ⟨-, hf⟩ | ⟨-, hf⟩
  ·
    exact fra_t h_o9 (fa_X7_isSafe_105  hf) (fun _ h => h)
  ·
    exact fra_t h_o9 (fa_X7_isSafe_105  hf) (fun _ h => h)
theorem fa_X7_isSafe_59 {o : Int32 × ZS} {S : ZS}  (hf : f_X7_isSafe_59 S = some o) : FrA [14] S o.2 := by
  have h_S : FrA [14] S S := fra_0
  unfold f_X7_isSafe_59 at hf
  obtain ⟨-, hf⟩ := m_chkE hf
  cases hf
  exact h_S
theorem fa_X7_isSafe_0 {o : Int32 × ZS} {x0 : Nat} {x1 : Nat} {x2 : Int32} {S : ZS}  (hf : f_X7_isSafe_0 x0 x1 x2 S = some o) : FrA [14] S o.2 := by
  have h_S : FrA [14] S S := fra_0
  unfold f_X7_isSafe_0 at hf
  obtain ⟨v1, e1, hf⟩ := m_bndE hf
  obtain ⟨v2, e2, hf⟩ := m_bndE hf
  obtain ⟨v3, e3, hf⟩ := m_bndE hf
  obtain ⟨-, hf⟩ := m_chkE hf
  obtain ⟨-, hf⟩ := m_chkE hf
  obtain ⟨o4, ho, hf⟩ := m_calE hf
  have h_o4 := fra_t h_S (fa_X0_castles ho) (by decide)
  clear ho
  rcases m_ifE hf with ⟨-, hf⟩ | ⟨-, hf⟩
  ·
    exact fra_t h_o4 (fa_X7_isSafe_61  hf) (fun _ h => h)
  ·
    obtain ⟨v5, e4, hf⟩ := m_bndE hf
    obtain ⟨-, hf⟩ := m_chkE hf
    obtain ⟨o6, ho, hf⟩ := m_calE hf
    have h_o6 := fra_t h_o4 (fa_X0_attacked ho) (by decide)
    clear ho
    rcases m_ifE hf with ⟨-, hf⟩ | ⟨-, hf⟩
    ·
      obtain ⟨v7, e5, hf⟩ := m_bndE hf
      obtain ⟨v8, e6, hf⟩ := m_bndE hf
      obtain ⟨v9, e7, hf⟩ := m_bndE hf
      obtain ⟨-, hf⟩ := m_chkE hf
      obtain ⟨o10, ho, hf⟩ := m_calE hf
      have h_o10 := fra_t h_o6 (fa_X0_attacked ho) (by decide)
      clear ho
      rcases m_ifE hf with ⟨-, hf⟩ | ⟨-, hf⟩
      ·
        exact fra_t h_o10 (fa_X7_isSafe_61  hf) (fun _ h => h)
      ·
        exact fra_t h_o10 (fa_X7_isSafe_59  hf) (fun _ h => h)
    ·
      exact fra_t h_o6 (fa_X7_isSafe_59  hf) (fun _ h => h)
theorem fa_X7_isSafe {o : Int32 × ZS} {x0 : Nat} {x1 : Nat} {x2 : Int32} {S : ZS}  (hf : f_X7_isSafe x0 x1 x2 S = some o) : FrA [14] S o.2 := by
  have h_S : FrA [14] S S := fra_0
  unfold f_X7_isSafe at hf
  exact fra_t h_S (fa_X7_isSafe_0  hf) (fun _ h => h)
theorem fa_X8_gather_155 {o : Int32 × ZS} {self38 : Nat → Nat → Int32 → Int32 → ZS → Option (Int32 × ZS)} {x0 : Nat} {x1 : Nat} {x2 : Int32} {x3 : Int32} {S : ZS} (hself38 : ∀ (z0 : Nat) (z1 : Nat) (z2 : Int32) (z3 : Int32) (S : ZS) (o : Int32 × ZS), self38 z0 z1 z2 z3 S = some o → FrA [14] S o.2) (hf : f_X8_gather_155 self38 x0 x1 x2 x3 S = some o) : FrA [14] S o.2 := by
  have h_S : FrA [14] S S := fra_0
  unfold f_X8_gather_155 at hf
  obtain ⟨v1, e1, hf⟩ := m_bndE hf
  exact fra_t h_S (hself38 _ _ _ _ _ _ hf) (fun _ h => h)
theorem fa_X8_gather_82 {o : Int32 × ZS} {self38 : Nat → Nat → Int32 → Int32 → ZS → Option (Int32 × ZS)} {x0 : Nat} {x1 : Nat} {x2 : Int32} {x3 : Int32} {t0 : Int32} {S : ZS} (hself38 : ∀ (z0 : Nat) (z1 : Nat) (z2 : Int32) (z3 : Int32) (S : ZS) (o : Int32 × ZS), self38 z0 z1 z2 z3 S = some o → FrA [14] S o.2) (hf : f_X8_gather_82 self38 x0 x1 x2 x3 t0 S = some o) : FrA [14] S o.2 := by
  have h_S : FrA [14] S S := fra_0
  unfold f_X8_gather_82 at hf
  obtain ⟨-, hf⟩ := m_chkE hf
  obtain ⟨v1, e1, hf⟩ := m_bndE hf
  obtain ⟨v2, e2, hf⟩ := m_bndE hf
  obtain ⟨-, hf⟩ := m_chkE hf
  obtain ⟨v3, e3, hf⟩ := m_bndE hf
  obtain ⟨v4, e4, hf⟩ := m_bndE hf
  rcases m_ifE hf with ⟨-, hf⟩ | ⟨-, hf⟩
  ·
    exact fra_t h_S (fa_X8_gather_155 hself38 hf) (fun _ h => h)
  ·
    obtain ⟨-, hf⟩ := m_chkE hf
    obtain ⟨-, hf⟩ := m_chkE hf
    obtain ⟨o5, ho, hf⟩ := m_calE hf
    have h_o5 := fra_t h_S (fa_X0_reaches ho) (by decide)
    clear ho
    rcases m_ifE hf with ⟨-, hf⟩ | ⟨-, hf⟩
    ·
      exact fra_t h_o5 (fa_X8_gather_155 hself38 hf) (fun _ h => h)
    ·
      obtain ⟨-, hf⟩ := m_chkE hf
      obtain ⟨b6, -, hf⟩ := m_calE hf
      obtain ⟨-, hf⟩ := m_chkE hf
      obtain ⟨o7, ho, hf⟩ := m_calE hf
      have h_o7 := fra_t h_o5 (fa_X7_isSafe ho) (by decide)
      clear ho
      rcases m_ifE hf with ⟨-, hf⟩ | ⟨-, hf⟩
      ·
        exact fra_t h_o7 (fa_X8_gather_155 hself38 hf) (fun _ h => h)
      ·
        obtain ⟨-, hf⟩ := m_chkE hf
        obtain ⟨b8, -, hf⟩ := m_calE hf
        obtain ⟨-, hf⟩ := m_chkE hf
        obtain ⟨q5, hf⟩ := m_chkE hf
        obtain ⟨-, hf⟩ := m_chkE hf
        obtain ⟨S9, e6, hf⟩ := m_bndE hf
        have h_S9 := fra_A h_o7 q5 e6 (by decide)
        obtain ⟨-, hf⟩ := m_chkE hf
        obtain ⟨v10, e7, hf⟩ := m_bndE hf
        obtain ⟨-, hf⟩ := m_chkE hf
        obtain ⟨S11, e8, hf⟩ := m_bndE hf
        have h_S11 := fra_I h_S9 e8
        exact fra_t h_S11 (fa_X8_gather_155 hself38 hf) (fun _ h => h)
theorem fa_X8_gather_72 {o : Int32 × ZS} {self38 : Nat → Nat → Int32 → Int32 → ZS → Option (Int32 × ZS)} {x0 : Nat} {x1 : Nat} {x2 : Int32} {x3 : Int32} {S : ZS} (hself38 : ∀ (z0 : Nat) (z1 : Nat) (z2 : Int32) (z3 : Int32) (S : ZS) (o : Int32 × ZS), self38 z0 z1 z2 z3 S = some o → FrA [14] S o.2) (hf : f_X8_gather_72 self38 x0 x1 x2 x3 S = some o) : FrA [14] S o.2 := by
  have h_S : FrA [14] S S := fra_0
  unfold f_X8_gather_72 at hf
  exact fra_t h_S (fa_X8_gather_82 hself38 hf) (fun _ h => h)
theorem fa_X8_gather_38s {o : Int32 × ZS} {self38 : Nat → Nat → Int32 → Int32 → ZS → Option (Int32 × ZS)} {x0 : Nat} {x1 : Nat} {x2 : Int32} {x3 : Int32} {S : ZS} (hself38 : ∀ (z0 : Nat) (z1 : Nat) (z2 : Int32) (z3 : Int32) (S : ZS) (o : Int32 × ZS), self38 z0 z1 z2 z3 S = some o → FrA [14] S o.2) (hf : f_X8_gather_38s self38 x0 x1 x2 x3 S = some o) : FrA [14] S o.2 := by
  have h_S : FrA [14] S S := fra_0
  unfold f_X8_gather_38s at hf
  rcases m_ifE hf with ⟨-, hf⟩ | ⟨-, hf⟩
  ·
    cases hf
    exact h_S
  ·
    obtain ⟨-, hf⟩ := m_chkE hf
    rcases m_ifE hf with ⟨-, hf⟩ | ⟨-, hf⟩
    ·
      obtain ⟨-, hf⟩ := m_chkE hf
      obtain ⟨o1, ho, hf⟩ := m_calE hf
      have h_o1 := fra_t h_S (fa_X8_fitsFrom ho) (by decide)
      clear ho
      exact fra_t h_o1 (fa_X8_gather_82 hself38 hf) (fun _ h => h)
    ·
      rcases m_ifE hf with ⟨-, hf⟩ | ⟨-, hf⟩
      ·
        obtain ⟨-, hf⟩ := m_chkE hf
        obtain ⟨-, hf⟩ := m_chkE hf
        obtain ⟨o2, ho, hf⟩ := m_calE hf
        have h_o2 := fra_t h_S (fa_X0_castles ho) (by decide)
        clear ho
        rcases m_ifE hf with ⟨-, hf⟩ | ⟨-, hf⟩
        ·
          exact fra_t h_o2 (fa_X8_gather_72 hself38 hf) (fun _ h => h)
        ·
          exact fra_t h_o2 (fa_X8_gather_82 hself38 hf) (fun _ h => h)
      ·
        exact fra_t h_S (fa_X8_gather_72 hself38 hf) (fun _ h => h)
theorem fa_X8_gather_38   (n : Nat) : ∀ (y0 : Nat) (y1 : Nat) (y2 : Int32) (y3 : Int32) (S : ZS) (o : Int32 × ZS), f_X8_gather_38  n y0 y1 y2 y3 S = some o → FrA [14] S o.2 := by
  induction n with
  | zero => intro y0 y1 y2 y3 S o hf; cases hf
  | succ n ih => intro y0 y1 y2 y3 S o hf; exact fa_X8_gather_38s  ih hf
theorem fa_X8_gather_36 {o : Int32 × ZS} {x0 : Nat} {x1 : Nat} {x2 : Int32} {S : ZS}  (hf : f_X8_gather_36 x0 x1 x2 S = some o) : FrA [14] S o.2 := by
  have h_S : FrA [14] S S := fra_0
  unfold f_X8_gather_36 at hf
  exact fra_t h_S (fa_X8_gather_38  _ _ _ _ _ _ _ hf) (fun _ h => h)
theorem fa_X8_gather_18 {o : Int32 × ZS} {x0 : Nat} {x1 : Nat} {t0 : Int32} {S : ZS}  (hf : f_X8_gather_18 x0 x1 t0 S = some o) : FrA [14] S o.2 := by
  have h_S : FrA [14] S S := fra_0
  unfold f_X8_gather_18 at hf
  obtain ⟨-, hf⟩ := m_chkE hf
  rcases m_ifE hf with ⟨-, hf⟩ | ⟨-, hf⟩
  ·
    exact fra_t h_S (fa_X8_gather_36  hf) (fun _ h => h)
  ·
    obtain ⟨-, hf⟩ := m_chkE hf
    obtain ⟨v1, e1, hf⟩ := m_bndE hf
    obtain ⟨-, hf⟩ := m_chkE hf
    obtain ⟨S2, e2, hf⟩ := m_bndE hf
    have h_S2 := fra_I h_S e2
    exact fra_t h_S2 (fa_X8_gather_36  hf) (fun _ h => h)
theorem fa_X8_gather_0 {o : Int32 × ZS} {x0 : Nat} {x1 : Nat} {S : ZS}  (hf : f_X8_gather_0 x0 x1 S = some o) : FrA [14] S o.2 := by
  have h_S : FrA [14] S S := fra_0
  unfold f_X8_gather_0 at hf
  obtain ⟨-, hf⟩ := m_chkE hf
  obtain ⟨S1, e1, hf⟩ := m_bndE hf
  have h_S1 := fra_I h_S e1
  obtain ⟨-, hf⟩ := m_chkE hf
  rcases m_ifE hf with ⟨-, hf⟩ | ⟨-, hf⟩
  ·
    exact fra_t h_S1 (fa_X8_gather_18  hf) (fun _ h => h)
  ·
    exact fra_t h_S1 (fa_X8_gather_18  hf) (fun _ h => h)
theorem fa_X8_gather {o : Int32 × ZS} {x0 : Nat} {x1 : Nat} {S : ZS}  (hf : f_X8_gather x0 x1 S = some o) : FrA [14] S o.2 := by
  have h_S : FrA [14] S S := fra_0
  unfold f_X8_gather at hf
  exact fra_t h_S (fa_X8_gather_0  hf) (fun _ h => h)
theorem fa_X7_checkSign_103 {o : Int32 × ZS} {self53 : Nat → Int32 → ZS → Option (Int32 × ZS)} {self62 : Nat → Int32 → Int32 → ZS → Option (Int32 × ZS)} {x0 : Nat} {x3 : Int32} {x4 : Int32} {S : ZS} (hself53 : ∀ (z0 : Nat) (z1 : Int32) (S : ZS) (o : Int32 × ZS), self53 z0 z1 S = some o → FrA [14] S o.2) (hself62 : ∀ (z0 : Nat) (z1 : Int32) (z2 : Int32) (S : ZS) (o : Int32 × ZS), self62 z0 z1 z2 S = some o → FrA [14] S o.2) (hf : f_X7_checkSign_103 self53 self62 x0 x3 x4 S = some o) : FrA [14] S o.2 := by
  have h_S : FrA [14] S S := fra_0
  unfold f_X7_checkSign_103 at hf
  obtain ⟨v1, e1, hf⟩ := m_bndE hf
  exact fra_t h_S (hself62 _ _ _ _ _ hf) (fun _ h => h)
theorem fa_X7_checkSign_62s {o : Int32 × ZS} {self53 : Nat → Int32 → ZS → Option (Int32 × ZS)} {self62 : Nat → Int32 → Int32 → ZS → Option (Int32 × ZS)} {x0 : Nat} {x3 : Int32} {x4 : Int32} {S : ZS} (hself53 : ∀ (z0 : Nat) (z1 : Int32) (S : ZS) (o : Int32 × ZS), self53 z0 z1 S = some o → FrA [14] S o.2) (hself62 : ∀ (z0 : Nat) (z1 : Int32) (z2 : Int32) (S : ZS) (o : Int32 × ZS), self62 z0 z1 z2 S = some o → FrA [14] S o.2) (hf : f_X7_checkSign_62s self53 self62 x0 x3 x4 S = some o) : FrA [14] S o.2 := by
  have h_S : FrA [14] S S := fra_0
  unfold f_X7_checkSign_62s at hf
  rcases m_ifE hf with ⟨-, hf⟩ | ⟨-, hf⟩
  ·
    obtain ⟨v1, e1, hf⟩ := m_bndE hf
    exact fra_t h_S (hself53 _ _ _ _ hf) (fun _ h => h)
  ·
    obtain ⟨-, hf⟩ := m_chkE hf
    obtain ⟨b2, -, hf⟩ := m_calE hf
    obtain ⟨-, hf⟩ := m_chkE hf
    obtain ⟨o3, ho, hf⟩ := m_calE hf
    have h_o3 := fra_t h_S (fa_X0_reaches ho) (by decide)
    clear ho
    rcases m_ifE hf with ⟨-, hf⟩ | ⟨-, hf⟩
    ·
      exact fra_t h_o3 (fa_X7_checkSign_103 hself53 hself62 hf) (fun _ h => h)
    ·
      obtain ⟨-, hf⟩ := m_chkE hf
      obtain ⟨b4, -, hf⟩ := m_calE hf
      obtain ⟨v5, e2, hf⟩ := m_bndE hf
      obtain ⟨v6, e3, hf⟩ := m_bndE hf
      obtain ⟨-, hf⟩ := m_chkE hf
      obtain ⟨o7, ho, hf⟩ := m_calE hf
      have h_o7 := fra_t h_o3 (fa_X7_isSafe ho) (by decide)
      clear ho
      rcases m_ifE hf with ⟨-, hf⟩ | ⟨-, hf⟩
      ·
        exact fra_t h_o7 (fa_X7_checkSign_103 hself53 hself62 hf) (fun _ h => h)
      ·
        obtain ⟨-, hf⟩ := m_chkE hf
        cases hf
        exact h_o7
theorem fa_X7_checkSign_62 {self53 : Nat → Int32 → ZS → Option (Int32 × ZS)} (hself53 : ∀ (z0 : Nat) (z1 : Int32) (S : ZS) (o : Int32 × ZS), self53 z0 z1 S = some o → FrA [14] S o.2) (n : Nat) : ∀ (y0 : Nat) (y1 : Int32) (y2 : Int32) (S : ZS) (o : Int32 × ZS), f_X7_checkSign_62 self53 n y0 y1 y2 S = some o → FrA [14] S o.2 := by
  induction n with
  | zero => intro y0 y1 y2 S o hf; cases hf
  | succ n ih => intro y0 y1 y2 S o hf; exact fa_X7_checkSign_62s hself53 ih hf
theorem fa_X7_checkSign_53s {o : Int32 × ZS} {self53 : Nat → Int32 → ZS → Option (Int32 × ZS)} {x0 : Nat} {x3 : Int32} {S : ZS} (hself53 : ∀ (z0 : Nat) (z1 : Int32) (S : ZS) (o : Int32 × ZS), self53 z0 z1 S = some o → FrA [14] S o.2) (hf : f_X7_checkSign_53s self53 x0 x3 S = some o) : FrA [14] S o.2 := by
  have h_S : FrA [14] S S := fra_0
  unfold f_X7_checkSign_53s at hf
  rcases m_ifE hf with ⟨-, hf⟩ | ⟨-, hf⟩
  ·
    obtain ⟨-, hf⟩ := m_chkE hf
    cases hf
    exact h_S
  ·
    exact fra_t h_S (fa_X7_checkSign_62 hself53 _ _ _ _ _ _ hf) (fun _ h => h)
theorem fa_X7_checkSign_53   (n : Nat) : ∀ (y0 : Nat) (y1 : Int32) (S : ZS) (o : Int32 × ZS), f_X7_checkSign_53  n y0 y1 S = some o → FrA [14] S o.2 := by
  induction n with
  | zero => intro y0 y1 S o hf; cases hf
  | succ n ih => intro y0 y1 S o hf; exact fa_X7_checkSign_53s  ih hf
theorem fa_X7_checkSign_0 {o : Int32 × ZS} {x0 : Nat} {x1 : Nat} {x2 : Int32} {S : ZS}  (hf : f_X7_checkSign_0 x0 x1 x2 S = some o) : FrA [14] S o.2 := by
  have h_S : FrA [14] S S := fra_0
  unfold f_X7_checkSign_0 at hf
  obtain ⟨-, hf⟩ := m_chkE hf
  obtain ⟨b1, -, hf⟩ := m_calE hf
  obtain ⟨-, hf⟩ := m_chkE hf
  obtain ⟨o2, ho, hf⟩ := m_calE hf
  have h_o2 := fra_t h_S (fa_X0_copyFrom ho) (by decide)
  clear ho
  obtain ⟨-, hf⟩ := m_chkE hf
  obtain ⟨b3, -, hf⟩ := m_calE hf
  obtain ⟨-, hf⟩ := m_chkE hf
  obtain ⟨o4, ho, hf⟩ := m_calE hf
  have h_o4 := fra_t h_o2 (fa_X0_play ho) (by decide)
  clear ho
  obtain ⟨-, hf⟩ := m_chkE hf
  obtain ⟨b5, -, hf⟩ := m_calE hf
  obtain ⟨-, hf⟩ := m_chkE hf
  obtain ⟨b6, -, hf⟩ := m_calE hf
  obtain ⟨-, hf⟩ := m_chkE hf
  obtain ⟨b7, -, hf⟩ := m_calE hf
  obtain ⟨-, hf⟩ := m_chkE hf
  obtain ⟨-, hf⟩ := m_chkE hf
  obtain ⟨o8, ho, hf⟩ := m_calE hf
  have h_o8 := fra_t h_o4 (fa_X0_kingOf ho) (by decide)
  clear ho
  obtain ⟨-, hf⟩ := m_chkE hf
  obtain ⟨b9, -, hf⟩ := m_calE hf
  obtain ⟨-, hf⟩ := m_chkE hf
  obtain ⟨v10, e1, hf⟩ := m_bndE hf
  obtain ⟨-, hf⟩ := m_chkE hf
  obtain ⟨o11, ho, hf⟩ := m_calE hf
  have h_o11 := fra_t h_o8 (fa_X0_attacked ho) (by decide)
  clear ho
  rcases m_ifE hf with ⟨-, hf⟩ | ⟨-, hf⟩
  ·
    obtain ⟨-, hf⟩ := m_chkE hf
    cases hf
    exact h_o11
  ·
    exact fra_t h_o11 (fa_X7_checkSign_53  _ _ _ _ _ hf) (fun _ h => h)
theorem fa_X7_checkSign {o : Int32 × ZS} {x0 : Nat} {x1 : Nat} {x2 : Int32} {S : ZS}  (hf : f_X7_checkSign x0 x1 x2 S = some o) : FrA [14] S o.2 := by
  have h_S : FrA [14] S S := fra_0
  unfold f_X7_checkSign at hf
  exact fra_t h_S (fa_X7_checkSign_0  hf) (fun _ h => h)
theorem fa_X2_shortMark_56 {o : Int32 × ZS} {t0 : Int32} {S : ZS}  (hf : f_X2_shortMark_56 t0 S = some o) : FrA [] S o.2 := by
  have h_S : FrA [] S S := fra_0
  unfold f_X2_shortMark_56 at hf
  cases hf
  exact h_S
theorem fa_X2_shortMark_27 {o : Int32 × ZS} {t0 : Int32} {S : ZS}  (hf : f_X2_shortMark_27 t0 S = some o) : FrA [] S o.2 := by
  have h_S : FrA [] S S := fra_0
  unfold f_X2_shortMark_27 at hf
  cases hf
  exact h_S
theorem fa_X2_shortMark_0 {o : Int32 × ZS} {x0 : Int32} {x1 : Int32} {S : ZS}  (hf : f_X2_shortMark_0 x0 x1 S = some o) : FrA [] S o.2 := by
  have h_S : FrA [] S S := fra_0
  unfold f_X2_shortMark_0 at hf
  rcases m_ifE hf with ⟨-, hf⟩ | ⟨-, hf⟩
  ·
    rcases m_ifE hf with ⟨-, hf⟩ | ⟨-, hf⟩
    ·
      exact fra_t h_S (fa_X2_shortMark_27  hf) (fun _ h => h)
    ·
      rcases m_ifE hf with ⟨-, hf⟩ | ⟨-, hf⟩
      ·
        exact fra_t h_S (fa_X2_shortMark_27  hf) (fun _ h => h)
      ·
        exact fra_t h_S (fa_X2_shortMark_27  hf) (fun _ h => h)
  ·
    rcases m_ifE hf with ⟨-, hf⟩ | ⟨-, hf⟩
    ·
      rcases m_ifE hf with ⟨-, hf⟩ | ⟨-, hf⟩
      ·
        exact fra_t h_S (fa_X2_shortMark_56  hf) (fun _ h => h)
      ·
        rcases m_ifE hf with ⟨-, hf⟩ | ⟨-, hf⟩
        ·
          exact fra_t h_S (fa_X2_shortMark_56  hf) (fun _ h => h)
        ·
          exact fra_t h_S (fa_X2_shortMark_56  hf) (fun _ h => h)
    ·
      cases hf
      exact h_S
theorem fa_X2_shortMark {o : Int32 × ZS} {x0 : Int32} {x1 : Int32} {S : ZS}  (hf : f_X2_shortMark x0 x1 S = some o) : FrA [] S o.2 := by
  have h_S : FrA [] S S := fra_0
  unfold f_X2_shortMark at hf
  exact fra_t h_S (fa_X2_shortMark_0  hf) (fun _ h => h)
theorem fa_X4_putMark_0 {o : Int32 × ZS} {x0 : Nat} {x1 : Int32} {S : ZS}  (hf : f_X4_putMark_0 x0 x1 S = some o) : FrA [] S o.2 := by
  have h_S : FrA [] S S := fra_0
  unfold f_X4_putMark_0 at hf
  obtain ⟨-, hf⟩ := m_chkE hf
  obtain ⟨-, hf⟩ := m_chkE hf
  obtain ⟨v1, e1, hf⟩ := m_bndE hf
  obtain ⟨v2, e2, hf⟩ := m_bndE hf
  obtain ⟨v3, e3, hf⟩ := m_bndE hf
  obtain ⟨-, hf⟩ := m_chkE hf
  obtain ⟨S4, e4, hf⟩ := m_bndE hf
  have h_S4 := fra_I h_S e4
  obtain ⟨-, hf⟩ := m_chkE hf
  obtain ⟨v5, e5, hf⟩ := m_bndE hf
  obtain ⟨-, hf⟩ := m_chkE hf
  obtain ⟨S6, e6, hf⟩ := m_bndE hf
  have h_S6 := fra_I h_S4 e6
  cases hf
  exact h_S6
theorem fa_X4_putMark {o : Int32 × ZS} {x0 : Nat} {x1 : Int32} {S : ZS}  (hf : f_X4_putMark x0 x1 S = some o) : FrA [] S o.2 := by
  have h_S : FrA [] S S := fra_0
  unfold f_X4_putMark at hf
  exact fra_t h_S (fa_X4_putMark_0  hf) (fun _ h => h)
theorem fa_X2_readMark_56 {o : Int32 × ZS} {x0 : Nat} {x2 : Int32} {S : ZS}  (hf : f_X2_readMark_56 x0 x2 S = some o) : FrA [] S o.2 := by
  have h_S : FrA [] S S := fra_0
  unfold f_X2_readMark_56 at hf
  obtain ⟨-, hf⟩ := m_chkE hf
  obtain ⟨o1, ho, hf⟩ := m_calE hf
  have h_o1 := fra_t h_S (fa_X2_refuse ho) (by decide)
  clear ho
  obtain ⟨-, hf⟩ := m_chkE hf
  cases hf
  exact h_o1
theorem fa_X2_readMark_0 {o : Int32 × ZS} {x0 : Nat} {x1 : Nat} {S : ZS}  (hf : f_X2_readMark_0 x0 x1 S = some o) : FrA [] S o.2 := by
  have h_S : FrA [] S S := fra_0
  unfold f_X2_readMark_0 at hf
  obtain ⟨-, hf⟩ := m_chkE hf
  obtain ⟨-, hf⟩ := m_chkE hf
  obtain ⟨v1, e1, hf⟩ := m_bndE hf
  obtain ⟨-, hf⟩ := m_chkE hf
  obtain ⟨S2, e2, hf⟩ := m_bndE hf
  have h_S2 := fra_I h_S e2
  obtain ⟨-, hf⟩ := m_chkE hf
  obtain ⟨o3, ho, hf⟩ := m_calE hf
  have h_o3 := fra_t h_S2 (fa_X2_readDigits ho) (by decide)
  clear ho
  obtain ⟨-, hf⟩ := m_chkE hf
  obtain ⟨v4, e3, hf⟩ := m_bndE hf
  rcases m_ifE hf with ⟨-, hf⟩ | ⟨-, hf⟩
  ·
    obtain ⟨-, hf⟩ := m_chkE hf
    obtain ⟨-, hf⟩ := m_chkE hf
    obtain ⟨o10, ho, hf⟩ := m_calE hf
    have h_o10 := fra_t h_o3 (fa_X2_refuse ho) (by decide)
    clear ho
    obtain ⟨-, hf⟩ := m_chkE hf
    cases hf
    exact h_o10
  ·
    rcases m_ifE hf with ⟨-, hf⟩ | ⟨-, hf⟩
    ·
      exact fra_t h_o3 (fa_X2_readMark_56  hf) (fun _ h => h)
    ·
      obtain ⟨-, hf⟩ := m_chkE hf
      rcases m_ifE hf with ⟨-, hf⟩ | ⟨-, hf⟩
      ·
        obtain ⟨-, hf⟩ := m_chkE hf
        obtain ⟨b5, -, hf⟩ := m_calE hf
        obtain ⟨-, hf⟩ := m_chkE hf
        obtain ⟨-, hf⟩ := m_chkE hf
        obtain ⟨o6, ho, hf⟩ := m_calE hf
        have h_o6 := fra_t h_o3 (fa_X6_at ho) (by decide)
        clear ho
        obtain ⟨o7, ho, hf⟩ := m_calE hf
        have h_o7 := fra_t h_o6 (fa_X11_isDigit ho) (by decide)
        clear ho
        rcases m_ifE hf with ⟨-, hf⟩ | ⟨-, hf⟩
        ·
          obtain ⟨-, hf⟩ := m_chkE hf
          obtain ⟨o8, ho, hf⟩ := m_calE hf
          have h_o8 := fra_t h_o7 (fa_X4_putMark ho) (by decide)
          clear ho
          obtain ⟨-, hf⟩ := m_chkE hf
          cases hf
          exact h_o8
        ·
          obtain ⟨-, hf⟩ := m_chkE hf
          obtain ⟨-, hf⟩ := m_chkE hf
          obtain ⟨o9, ho, hf⟩ := m_calE hf
          have h_o9 := fra_t h_o7 (fa_X2_refuse ho) (by decide)
          clear ho
          obtain ⟨-, hf⟩ := m_chkE hf
          cases hf
          exact h_o9
      ·
        exact fra_t h_o3 (fa_X2_readMark_56  hf) (fun _ h => h)
theorem fa_X2_readMark {o : Int32 × ZS} {x0 : Nat} {x1 : Nat} {S : ZS}  (hf : f_X2_readMark x0 x1 S = some o) : FrA [] S o.2 := by
  have h_S : FrA [] S S := fra_0
  unfold f_X2_readMark at hf
  exact fra_t h_S (fa_X2_readMark_0  hf) (fun _ h => h)
theorem fa_X2_readMarks_113 {o : Int32 × ZS} {x3 : Int32} {S : ZS}  (hf : f_X2_readMarks_113 x3 S = some o) : FrA [] S o.2 := by
  have h_S : FrA [] S S := fra_0
  unfold f_X2_readMarks_113 at hf
  obtain ⟨-, hf⟩ := m_chkE hf
  cases hf
  exact h_S
theorem fa_X2_readMarks_69s {o : Int32 × ZS} {self69 : Nat → Nat → Int32 → Int32 → ZS → Option (Int32 × ZS)} {x0 : Nat} {x1 : Nat} {x3 : Int32} {x4 : Int32} {S : ZS} (hself69 : ∀ (z0 : Nat) (z1 : Nat) (z2 : Int32) (z3 : Int32) (S : ZS) (o : Int32 × ZS), self69 z0 z1 z2 z3 S = some o → FrA [] S o.2) (hf : f_X2_readMarks_69s self69 x0 x1 x3 x4 S = some o) : FrA [] S o.2 := by
  have h_S : FrA [] S S := fra_0
  unfold f_X2_readMarks_69s at hf
  rcases m_ifE hf with ⟨-, hf⟩ | ⟨-, hf⟩
  ·
    exact fra_t h_S (fa_X2_readMarks_113  hf) (fun _ h => h)
  ·
    rcases m_ifE hf with ⟨-, hf⟩ | ⟨-, hf⟩
    ·
      exact fra_t h_S (fa_X2_readMarks_113  hf) (fun _ h => h)
    ·
      obtain ⟨-, hf⟩ := m_chkE hf
      obtain ⟨b1, -, hf⟩ := m_calE hf
      obtain ⟨-, hf⟩ := m_chkE hf
      obtain ⟨-, hf⟩ := m_chkE hf
      obtain ⟨o2, ho, hf⟩ := m_calE hf
      have h_o2 := fra_t h_S (fa_X6_at ho) (by decide)
      clear ho
      rcases m_ifE hf with ⟨-, hf⟩ | ⟨-, hf⟩
      ·
        obtain ⟨-, hf⟩ := m_chkE hf
        obtain ⟨o3, ho, hf⟩ := m_calE hf
        have h_o3 := fra_t h_o2 (fa_X2_readMark ho) (by decide)
        clear ho
        obtain ⟨-, hf⟩ := m_chkE hf
        obtain ⟨o4, ho, hf⟩ := m_calE hf
        have h_o4 := fra_t h_o3 (fa_X2_skipBlanks ho) (by decide)
        clear ho
        obtain ⟨v5, e1, hf⟩ := m_bndE hf
        exact fra_t h_o4 (hself69 _ _ _ _ _ _ hf) (fun _ h => h)
      ·
        exact fra_t h_o2 (fa_X2_readMarks_113  hf) (fun _ h => h)
theorem fa_X2_readMarks_69   (n : Nat) : ∀ (y0 : Nat) (y1 : Nat) (y2 : Int32) (y3 : Int32) (S : ZS) (o : Int32 × ZS), f_X2_readMarks_69  n y0 y1 y2 y3 S = some o → FrA [] S o.2 := by
  induction n with
  | zero => intro y0 y1 y2 y3 S o hf; cases hf
  | succ n ih => intro y0 y1 y2 y3 S o hf; exact fa_X2_readMarks_69s  ih hf
theorem fa_X2_readMarks_64 {o : Int32 × ZS} {x0 : Nat} {x1 : Nat} {S : ZS}  (hf : f_X2_readMarks_64 x0 x1 S = some o) : FrA [] S o.2 := by
  have h_S : FrA [] S S := fra_0
  unfold f_X2_readMarks_64 at hf
  exact fra_t h_S (fa_X2_readMarks_69  _ _ _ _ _ _ _ hf) (fun _ h => h)
theorem fa_X2_readMarks_56 {o : Int32 × ZS} {x0 : Nat} {x1 : Nat} {t0 : Int32} {t1 : Int32} {t2 : Nat} {S : ZS}  (hf : f_X2_readMarks_56 x0 x1 t0 t1 t2 S = some o) : FrA [] S o.2 := by
  have h_S : FrA [] S S := fra_0
  unfold f_X2_readMarks_56 at hf
  obtain ⟨v1, e1, hf⟩ := m_bndE hf
  obtain ⟨-, hf⟩ := m_chkE hf
  obtain ⟨S2, e2, hf⟩ := m_bndE hf
  have h_S2 := fra_I h_S e2
  obtain ⟨-, hf⟩ := m_chkE hf
  obtain ⟨o3, ho, hf⟩ := m_calE hf
  have h_o3 := fra_t h_S2 (fa_X2_skipBlanks ho) (by decide)
  clear ho
  exact fra_t h_o3 (fa_X2_readMarks_64  hf) (fun _ h => h)
theorem fa_X2_readMarks_0 {o : Int32 × ZS} {x0 : Nat} {x1 : Nat} {S : ZS}  (hf : f_X2_readMarks_0 x0 x1 S = some o) : FrA [] S o.2 := by
  have h_S : FrA [] S S := fra_0
  unfold f_X2_readMarks_0 at hf
  obtain ⟨-, hf⟩ := m_chkE hf
  obtain ⟨o1, ho, hf⟩ := m_calE hf
  have h_o1 := fra_t h_S (fa_X2_skipBlanks ho) (by decide)
  clear ho
  obtain ⟨-, hf⟩ := m_chkE hf
  obtain ⟨b2, -, hf⟩ := m_calE hf
  obtain ⟨-, hf⟩ := m_chkE hf
  obtain ⟨-, hf⟩ := m_chkE hf
  obtain ⟨o3, ho, hf⟩ := m_calE hf
  have h_o3 := fra_t h_o1 (fa_X6_at ho) (by decide)
  clear ho
  obtain ⟨-, hf⟩ := m_chkE hf
  obtain ⟨b4, -, hf⟩ := m_calE hf
  obtain ⟨-, hf⟩ := m_chkE hf
  obtain ⟨v5, e1, hf⟩ := m_bndE hf
  obtain ⟨-, hf⟩ := m_chkE hf
  obtain ⟨o6, ho, hf⟩ := m_calE hf
  have h_o6 := fra_t h_o3 (fa_X6_at ho) (by decide)
  clear ho
  obtain ⟨o7, ho, hf⟩ := m_calE hf
  have h_o7 := fra_t h_o6 (fa_X2_shortMark ho) (by decide)
  clear ho
  rcases m_ifE hf with ⟨-, hf⟩ | ⟨-, hf⟩
  ·
    exact fra_t h_o7 (fa_X2_readMarks_64  hf) (fun _ h => h)
  ·
    obtain ⟨-, hf⟩ := m_chkE hf
    obtain ⟨o8, ho, hf⟩ := m_calE hf
    have h_o8 := fra_t h_o7 (fa_X4_putMark ho) (by decide)
    clear ho
    obtain ⟨-, hf⟩ := m_chkE hf
    rcases m_ifE hf with ⟨-, hf⟩ | ⟨-, hf⟩
    ·
      exact fra_t h_o8 (fa_X2_readMarks_56  hf) (fun _ h => h)
    ·
      exact fra_t h_o8 (fa_X2_readMarks_56  hf) (fun _ h => h)
theorem fa_X2_readMarks {o : Int32 × ZS} {x0 : Nat} {x1 : Nat} {S : ZS}  (hf : f_X2_readMarks x0 x1 S = some o) : FrA [] S o.2 := by
  have h_S : FrA [] S S := fra_0
  unfold f_X2_readMarks at hf
  exact fra_t h_S (fa_X2_readMarks_0  hf) (fun _ h => h)
theorem fa_X11_letterOf_25 {o : Int32 × ZS} {t0 : Int32} {S : ZS}  (hf : f_X11_letterOf_25 t0 S = some o) : FrA [] S o.2 := by
  have h_S : FrA [] S S := fra_0
  unfold f_X11_letterOf_25 at hf
  obtain ⟨-, hf⟩ := m_chkE hf
  cases hf
  exact h_S
theorem fa_X11_letterOf_23 {o : Int32 × ZS} {S : ZS}  (hf : f_X11_letterOf_23 S = some o) : FrA [] S o.2 := by
  have h_S : FrA [] S S := fra_0
  unfold f_X11_letterOf_23 at hf
  exact fra_t h_S (fa_X11_letterOf_25  hf) (fun _ h => h)
theorem fa_X11_letterOf_0 {o : Int32 × ZS} {x0 : Int32} {S : ZS}  (hf : f_X11_letterOf_0 x0 S = some o) : FrA [] S o.2 := by
  have h_S : FrA [] S S := fra_0
  unfold f_X11_letterOf_0 at hf
  rcases m_ifE hf with ⟨-, hf⟩ | ⟨-, hf⟩
  ·
    exact fra_t h_S (fa_X11_letterOf_23  hf) (fun _ h => h)
  ·
    rcases m_ifE hf with ⟨-, hf⟩ | ⟨-, hf⟩
    ·
      exact fra_t h_S (fa_X11_letterOf_23  hf) (fun _ h => h)
    ·
      obtain ⟨v1, e1, hf⟩ := m_bndE hf
      obtain ⟨-, hf⟩ := m_chkE hf
      obtain ⟨o2, ho, hf⟩ := m_calE hf
      have h_o2 := fra_t h_S (fa_J0_charAt_5068e ho) (by decide)
      clear ho
      exact fra_t h_o2 (fa_X11_letterOf_25  hf) (fun _ h => h)
theorem fa_X11_letterOf {o : Int32 × ZS} {x0 : Int32} {S : ZS}  (hf : f_X11_letterOf x0 S = some o) : FrA [] S o.2 := by
  have h_S : FrA [] S S := fra_0
  unfold f_X11_letterOf at hf
  exact fra_t h_S (fa_X11_letterOf_0  hf) (fun _ h => h)
theorem fa_X11_fileLetter_0 {o : Int32 × ZS} {x0 : Int32} {S : ZS}  (hf : f_X11_fileLetter_0 x0 S = some o) : FrA [] S o.2 := by
  have h_S : FrA [] S S := fra_0
  unfold f_X11_fileLetter_0 at hf
  obtain ⟨v1, e1, hf⟩ := m_bndE hf
  obtain ⟨v2, e2, hf⟩ := m_bndE hf
  obtain ⟨v3, e3, hf⟩ := m_bndE hf
  obtain ⟨-, hf⟩ := m_chkE hf
  cases hf
  exact h_S
theorem fa_X11_fileLetter {o : Int32 × ZS} {x0 : Int32} {S : ZS}  (hf : f_X11_fileLetter x0 S = some o) : FrA [] S o.2 := by
  have h_S : FrA [] S S := fra_0
  unfold f_X11_fileLetter at hf
  exact fra_t h_S (fa_X11_fileLetter_0  hf) (fun _ h => h)
theorem fa_X11_rankDigit_0 {o : Int32 × ZS} {x0 : Int32} {S : ZS}  (hf : f_X11_rankDigit_0 x0 S = some o) : FrA [] S o.2 := by
  have h_S : FrA [] S S := fra_0
  unfold f_X11_rankDigit_0 at hf
  obtain ⟨v1, e1, hf⟩ := m_bndE hf
  obtain ⟨v2, e2, hf⟩ := m_bndE hf
  obtain ⟨v3, e3, hf⟩ := m_bndE hf
  obtain ⟨-, hf⟩ := m_chkE hf
  cases hf
  exact h_S
theorem fa_X11_rankDigit {o : Int32 × ZS} {x0 : Int32} {S : ZS}  (hf : f_X11_rankDigit x0 S = some o) : FrA [] S o.2 := by
  have h_S : FrA [] S S := fra_0
  unfold f_X11_rankDigit at hf
  exact fra_t h_S (fa_X11_rankDigit_0  hf) (fun _ h => h)
theorem fa_X4_markAt_0 {o : Int32 × ZS} {x0 : Nat} {x1 : Int32} {S : ZS}  (hf : f_X4_markAt_0 x0 x1 S = some o) : FrA [] S o.2 := by
  have h_S : FrA [] S S := fra_0
  unfold f_X4_markAt_0 at hf
  obtain ⟨-, hf⟩ := m_chkE hf
  obtain ⟨v1, e1, hf⟩ := m_bndE hf
  obtain ⟨v2, e2, hf⟩ := m_bndE hf
  obtain ⟨v3, e3, hf⟩ := m_bndE hf
  cases hf
  exact h_S
theorem fa_X4_markAt {o : Int32 × ZS} {x0 : Nat} {x1 : Int32} {S : ZS}  (hf : f_X4_markAt x0 x1 S = some o) : FrA [] S o.2 := by
  have h_S : FrA [] S S := fra_0
  unfold f_X4_markAt at hf
  exact fra_t h_S (fa_X4_markAt_0  hf) (fun _ h => h)
theorem fa_X7_isLegal_47 {o : Int32 × ZS} {S : ZS}  (hf : f_X7_isLegal_47 S = some o) : FrA [14] S o.2 := by
  have h_S : FrA [14] S S := fra_0
  unfold f_X7_isLegal_47 at hf
  obtain ⟨-, hf⟩ := m_chkE hf
  cases hf
  exact h_S
theorem fa_X7_isLegal_83 {o : Int32 × ZS} {t0 : Int32} {S : ZS}  (hf : f_X7_isLegal_83 t0 S = some o) : FrA [14] S o.2 := by
  have h_S : FrA [14] S S := fra_0
  unfold f_X7_isLegal_83 at hf
  obtain ⟨-, hf⟩ := m_chkE hf
  cases hf
  exact h_S
theorem fa_X7_isLegal_82 {o : Int32 × ZS} {S : ZS}  (hf : f_X7_isLegal_82 S = some o) : FrA [14] S o.2 := by
  have h_S : FrA [14] S S := fra_0
  unfold f_X7_isLegal_82 at hf
  exact fra_t h_S (fa_X7_isLegal_83  hf) (fun _ h => h)
theorem fa_X7_isLegal_66 {o : Int32 × ZS} {x0 : Nat} {x1 : Nat} {x2 : Int32} {t0 : Int32} {t1 : Int32} {S : ZS}  (hf : f_X7_isLegal_66 x0 x1 x2 t0 t1 S = some o) : FrA [14] S o.2 := by
  have h_S : FrA [14] S S := fra_0
  unfold f_X7_isLegal_66 at hf
  rcases m_ifE hf with ⟨-, hf⟩ | ⟨-, hf⟩
  ·
    obtain ⟨-, hf⟩ := m_chkE hf
    obtain ⟨o1, ho, hf⟩ := m_calE hf
    have h_o1 := fra_t h_S (fa_X7_isSafe ho) (by decide)
    clear ho
    rcases m_ifE hf with ⟨-, hf⟩ | ⟨-, hf⟩
    ·
      exact fra_t h_o1 (fa_X7_isLegal_82  hf) (fun _ h => h)
    ·
      exact fra_t h_o1 (fa_X7_isLegal_83  hf) (fun _ h => h)
  ·
    exact fra_t h_S (fa_X7_isLegal_82  hf) (fun _ h => h)
theorem fa_X7_isLegal_0 {o : Int32 × ZS} {x0 : Nat} {x1 : Nat} {x2 : Int32} {S : ZS}  (hf : f_X7_isLegal_0 x0 x1 x2 S = some o) : FrA [14] S o.2 := by
  have h_S : FrA [14] S S := fra_0
  unfold f_X7_isLegal_0 at hf
  obtain ⟨v1, e1, hf⟩ := m_bndE hf
  obtain ⟨v2, e2, hf⟩ := m_bndE hf
  obtain ⟨v3, e3, hf⟩ := m_bndE hf
  obtain ⟨v4, e4, hf⟩ := m_bndE hf
  rcases m_ifE hf with ⟨-, hf⟩ | ⟨-, hf⟩
  ·
    exact fra_t h_S (fa_X7_isLegal_47  hf) (fun _ h => h)
  ·
    rcases m_ifE hf with ⟨-, hf⟩ | ⟨-, hf⟩
    ·
      exact fra_t h_S (fa_X7_isLegal_47  hf) (fun _ h => h)
    ·
      rcases m_ifE hf with ⟨-, hf⟩ | ⟨-, hf⟩
      ·
        exact fra_t h_S (fa_X7_isLegal_47  hf) (fun _ h => h)
      ·
        obtain ⟨-, hf⟩ := m_chkE hf
        obtain ⟨o5, ho, hf⟩ := m_calE hf
        have h_o5 := fra_t h_S (fa_X0_reaches ho) (by decide)
        clear ho
        rcases m_ifE hf with ⟨-, hf⟩ | ⟨-, hf⟩
        ·
          exact fra_t h_o5 (fa_X7_isLegal_47  hf) (fun _ h => h)
        ·
          obtain ⟨-, hf⟩ := m_chkE hf
          obtain ⟨o6, ho, hf⟩ := m_calE hf
          have h_o6 := fra_t h_o5 (fa_X0_becomesAnother ho) (by decide)
          clear ho
          rcases m_ifE hf with ⟨-, hf⟩ | ⟨-, hf⟩
          ·
            exact fra_t h_o6 (fa_X7_isLegal_66  hf) (fun _ h => h)
          ·
            exact fra_t h_o6 (fa_X7_isLegal_66  hf) (fun _ h => h)
theorem fa_X7_isLegal {o : Int32 × ZS} {x0 : Nat} {x1 : Nat} {x2 : Int32} {S : ZS}  (hf : f_X7_isLegal x0 x1 x2 S = some o) : FrA [14] S o.2 := by
  have h_S : FrA [14] S S := fra_0
  unfold f_X7_isLegal at hf
  exact fra_t h_S (fa_X7_isLegal_0  hf) (fun _ h => h)
theorem fa_X7_legalMove_110 {o : Int32 × ZS} {self11 : Nat → Nat → Int32 → Int32 → ZS → Option (Int32 × ZS)} {self21 : Nat → Nat → Int32 → Int32 → Int32 → ZS → Option (Int32 × ZS)} {x0 : Nat} {x1 : Nat} {x3 : Int32} {x4 : Int32} {x5 : Int32} {S : ZS} (hself11 : ∀ (z0 : Nat) (z1 : Nat) (z2 : Int32) (z3 : Int32) (S : ZS) (o : Int32 × ZS), self11 z0 z1 z2 z3 S = some o → FrA [14] S o.2) (hself21 : ∀ (z0 : Nat) (z1 : Nat) (z2 : Int32) (z3 : Int32) (z4 : Int32) (S : ZS) (o : Int32 × ZS), self21 z0 z1 z2 z3 z4 S = some o → FrA [14] S o.2) (hf : f_X7_legalMove_110 self11 self21 x0 x1 x3 x4 x5 S = some o) : FrA [14] S o.2 := by
  have h_S : FrA [14] S S := fra_0
  unfold f_X7_legalMove_110 at hf
  obtain ⟨v1, e1, hf⟩ := m_bndE hf
  exact fra_t h_S (hself21 _ _ _ _ _ _ _ hf) (fun _ h => h)
theorem fa_X7_legalMove_104 {o : Int32 × ZS} {t0 : Int32} {S : ZS}  (hf : f_X7_legalMove_104 t0 S = some o) : FrA [14] S o.2 := by
  have h_S : FrA [14] S S := fra_0
  unfold f_X7_legalMove_104 at hf
  cases hf
  exact h_S
theorem fa_X7_legalMove_75 {o : Int32 × ZS} {self11 : Nat → Nat → Int32 → Int32 → ZS → Option (Int32 × ZS)} {self21 : Nat → Nat → Int32 → Int32 → Int32 → ZS → Option (Int32 × ZS)} {x0 : Nat} {x1 : Nat} {x3 : Int32} {x4 : Int32} {x5 : Int32} {x6 : Int32} {t0 : Int32} {S : ZS} (hself11 : ∀ (z0 : Nat) (z1 : Nat) (z2 : Int32) (z3 : Int32) (S : ZS) (o : Int32 × ZS), self11 z0 z1 z2 z3 S = some o → FrA [14] S o.2) (hself21 : ∀ (z0 : Nat) (z1 : Nat) (z2 : Int32) (z3 : Int32) (z4 : Int32) (S : ZS) (o : Int32 × ZS), self21 z0 z1 z2 z3 z4 S = some o → FrA [14] S o.2) (hf : f_X7_legalMove_75 self11 self21 x0 x1 x3 x4 x5 x6 t0 S = some o) : FrA [14] S o.2 := by
  have h_S : FrA [14] S S := fra_0
  unfold f_X7_legalMove_75 at hf
  rcases m_ifE hf with ⟨-, hf⟩ | ⟨-, hf⟩
  ·
    obtain ⟨v1, e1, hf⟩ := m_bndE hf
    exact fra_t h_S (fa_X7_legalMove_110 hself11 hself21 hf) (fun _ h => h)
  ·
    rcases m_ifE hf with ⟨-, hf⟩ | ⟨-, hf⟩
    ·
      exact fra_t h_S (fa_X7_legalMove_104  hf) (fun _ h => h)
    ·
      obtain ⟨v2, e2, hf⟩ := m_bndE hf
      obtain ⟨v3, e3, hf⟩ := m_bndE hf
      obtain ⟨v4, e4, hf⟩ := m_bndE hf
      exact fra_t h_S (fa_X7_legalMove_104  hf) (fun _ h => h)
theorem fa_X7_legalMove_21s {o : Int32 × ZS} {self11 : Nat → Nat → Int32 → Int32 → ZS → Option (Int32 × ZS)} {self21 : Nat → Nat → Int32 → Int32 → Int32 → ZS → Option (Int32 × ZS)} {x0 : Nat} {x1 : Nat} {x3 : Int32} {x4 : Int32} {x5 : Int32} {S : ZS} (hself11 : ∀ (z0 : Nat) (z1 : Nat) (z2 : Int32) (z3 : Int32) (S : ZS) (o : Int32 × ZS), self11 z0 z1 z2 z3 S = some o → FrA [14] S o.2) (hself21 : ∀ (z0 : Nat) (z1 : Nat) (z2 : Int32) (z3 : Int32) (z4 : Int32) (S : ZS) (o : Int32 × ZS), self21 z0 z1 z2 z3 z4 S = some o → FrA [14] S o.2) (hf : f_X7_legalMove_21s self11 self21 x0 x1 x3 x4 x5 S = some o) : FrA [14] S o.2 := by
  have h_S : FrA [14] S S := fra_0
  unfold f_X7_legalMove_21s at hf
  rcases m_ifE hf with ⟨-, hf⟩ | ⟨-, hf⟩
  ·
    obtain ⟨v1, e1, hf⟩ := m_bndE hf
    exact fra_t h_S (hself11 _ _ _ _ _ _ hf) (fun _ h => h)
  ·
    obtain ⟨v2, e2, hf⟩ := m_bndE hf
    obtain ⟨v3, e3, hf⟩ := m_bndE hf
    obtain ⟨-, hf⟩ := m_chkE hf
    obtain ⟨o4, ho, hf⟩ := m_calE hf
    have h_o4 := fra_t h_S (fa_X0_reaches ho) (by decide)
    clear ho
    rcases m_ifE hf with ⟨-, hf⟩ | ⟨-, hf⟩
    ·
      exact fra_t h_o4 (fa_X7_legalMove_110 hself11 hself21 hf) (fun _ h => h)
    ·
      obtain ⟨-, hf⟩ := m_chkE hf
      obtain ⟨o5, ho, hf⟩ := m_calE hf
      have h_o5 := fra_t h_o4 (fa_X7_isSafe ho) (by decide)
      clear ho
      rcases m_ifE hf with ⟨-, hf⟩ | ⟨-, hf⟩
      ·
        exact fra_t h_o5 (fa_X7_legalMove_110 hself11 hself21 hf) (fun _ h => h)
      ·
        obtain ⟨-, hf⟩ := m_chkE hf
        obtain ⟨o6, ho, hf⟩ := m_calE hf
        have h_o6 := fra_t h_o5 (fa_X0_becomesAnother ho) (by decide)
        clear ho
        rcases m_ifE hf with ⟨-, hf⟩ | ⟨-, hf⟩
        ·
          exact fra_t h_o6 (fa_X7_legalMove_75 hself11 hself21 hf) (fun _ h => h)
        ·
          exact fra_t h_o6 (fa_X7_legalMove_75 hself11 hself21 hf) (fun _ h => h)
theorem fa_X7_legalMove_21 {self11 : Nat → Nat → Int32 → Int32 → ZS → Option (Int32 × ZS)} (hself11 : ∀ (z0 : Nat) (z1 : Nat) (z2 : Int32) (z3 : Int32) (S : ZS) (o : Int32 × ZS), self11 z0 z1 z2 z3 S = some o → FrA [14] S o.2) (n : Nat) : ∀ (y0 : Nat) (y1 : Nat) (y2 : Int32) (y3 : Int32) (y4 : Int32) (S : ZS) (o : Int32 × ZS), f_X7_legalMove_21 self11 n y0 y1 y2 y3 y4 S = some o → FrA [14] S o.2 := by
  induction n with
  | zero => intro y0 y1 y2 y3 y4 S o hf; cases hf
  | succ n ih => intro y0 y1 y2 y3 y4 S o hf; exact fa_X7_legalMove_21s hself11 ih hf
theorem fa_X7_legalMove_11s {o : Int32 × ZS} {self11 : Nat → Nat → Int32 → Int32 → ZS → Option (Int32 × ZS)} {x0 : Nat} {x1 : Nat} {x3 : Int32} {x4 : Int32} {S : ZS} (hself11 : ∀ (z0 : Nat) (z1 : Nat) (z2 : Int32) (z3 : Int32) (S : ZS) (o : Int32 × ZS), self11 z0 z1 z2 z3 S = some o → FrA [14] S o.2) (hf : f_X7_legalMove_11s self11 x0 x1 x3 x4 S = some o) : FrA [14] S o.2 := by
  have h_S : FrA [14] S S := fra_0
  unfold f_X7_legalMove_11s at hf
  rcases m_ifE hf with ⟨-, hf⟩ | ⟨-, hf⟩
  ·
    cases hf
    exact h_S
  ·
    exact fra_t h_S (fa_X7_legalMove_21 hself11 _ _ _ _ _ _ _ _ hf) (fun _ h => h)
theorem fa_X7_legalMove_11   (n : Nat) : ∀ (y0 : Nat) (y1 : Nat) (y2 : Int32) (y3 : Int32) (S : ZS) (o : Int32 × ZS), f_X7_legalMove_11  n y0 y1 y2 y3 S = some o → FrA [14] S o.2 := by
  induction n with
  | zero => intro y0 y1 y2 y3 S o hf; cases hf
  | succ n ih => intro y0 y1 y2 y3 S o hf; exact fa_X7_legalMove_11s  ih hf
theorem fa_X7_legalMove_0 {o : Int32 × ZS} {x0 : Nat} {x1 : Nat} {x2 : Int32} {S : ZS}  (hf : f_X7_legalMove_0 x0 x1 x2 S = some o) : FrA [14] S o.2 := by
  have h_S : FrA [14] S S := fra_0
  unfold f_X7_legalMove_0 at hf
  rcases m_ifE hf with ⟨-, hf⟩ | ⟨-, hf⟩
  ·
    exact fra_t h_S (fa_X7_legalMove_11  _ _ _ _ _ _ _ hf) (fun _ h => h)
  ·
    cases hf
    exact h_S
theorem fa_X7_legalMove {o : Int32 × ZS} {x0 : Nat} {x1 : Nat} {x2 : Int32} {S : ZS}  (hf : f_X7_legalMove x0 x1 x2 S = some o) : FrA [14] S o.2 := by
  have h_S : FrA [14] S S := fra_0
  unfold f_X7_legalMove at hf
  exact fra_t h_S (fa_X7_legalMove_0  hf) (fun _ h => h)
theorem fa_X11_byteOf_0 {o : Int32 × ZS} {x0 : Int64} {x2 : Int32} {S : ZS}  (hf : f_X11_byteOf_0 x0 x2 S = some o) : FrA [] S o.2 := by
  have h_S : FrA [] S S := fra_0
  unfold f_X11_byteOf_0 at hf
  obtain ⟨v1, e1, hf⟩ := m_bndE hf
  obtain ⟨v2, e2, hf⟩ := m_bndE hf
  obtain ⟨v3, e3, hf⟩ := m_bndE hf
  obtain ⟨v4, e4, hf⟩ := m_bndE hf
  obtain ⟨v5, e5, hf⟩ := m_bndE hf
  obtain ⟨-, hf⟩ := m_chkE hf
  cases hf
  exact h_S
theorem fa_X11_byteOf {o : Int32 × ZS} {x0 : Int64} {x2 : Int32} {S : ZS}  (hf : f_X11_byteOf x0 x2 S = some o) : FrA [] S o.2 := by
  have h_S : FrA [] S S := fra_0
  unfold f_X11_byteOf at hf
  exact fra_t h_S (fa_X11_byteOf_0  hf) (fun _ h => h)
theorem fa_X11_cut_15 {o : Int32 × ZS} {S : ZS}  (hf : f_X11_cut_15 S = some o) : FrA [] S o.2 := by
  have h_S : FrA [] S S := fra_0
  unfold f_X11_cut_15 at hf
  obtain ⟨-, hf⟩ := m_chkE hf
  cases hf
  exact h_S
theorem fa_X11_cut_0 {o : Int32 × ZS} {x0 : Nat} {x1 : Int32} {S : ZS}  (hf : f_X11_cut_0 x0 x1 S = some o) : FrA [] S o.2 := by
  have h_S : FrA [] S S := fra_0
  unfold f_X11_cut_0 at hf
  rcases m_ifE hf with ⟨-, hf⟩ | ⟨-, hf⟩
  ·
    exact fra_t h_S (fa_X11_cut_15  hf) (fun _ h => h)
  ·
    obtain ⟨-, hf⟩ := m_chkE hf
    obtain ⟨b1, -, hf⟩ := m_calE hf
    obtain ⟨-, hf⟩ := m_chkE hf
    obtain ⟨o2, ho, hf⟩ := m_calE hf
    have h_o2 := fra_t h_S (fa_X6_size ho) (by decide)
    clear ho
    rcases m_ifE hf with ⟨-, hf⟩ | ⟨-, hf⟩
    ·
      obtain ⟨-, hf⟩ := m_chkE hf
      obtain ⟨b3, -, hf⟩ := m_calE hf
      obtain ⟨-, hf⟩ := m_chkE hf
      obtain ⟨o4, ho, hf⟩ := m_calE hf
      have h_o4 := fra_t h_o2 (fa_X6_keep ho) (by decide)
      clear ho
      obtain ⟨-, hf⟩ := m_chkE hf
      cases hf
      exact h_o4
    ·
      exact fra_t h_o2 (fa_X11_cut_15  hf) (fun _ h => h)
theorem fa_X11_cut {o : Int32 × ZS} {x0 : Nat} {x1 : Int32} {S : ZS}  (hf : f_X11_cut x0 x1 S = some o) : FrA [] S o.2 := by
  have h_S : FrA [] S S := fra_0
  unfold f_X11_cut at hf
  exact fra_t h_S (fa_X11_cut_0  hf) (fun _ h => h)
theorem fa_X11_out_0 {o : Int32 × ZS} {x0 : Nat} {x1 : Int32} {S : ZS}  (hf : f_X11_out_0 x0 x1 S = some o) : FrA [] S o.2 := by
  have h_S : FrA [] S S := fra_0
  unfold f_X11_out_0 at hf
  obtain ⟨-, hf⟩ := m_chkE hf
  obtain ⟨b1, -, hf⟩ := m_calE hf
  obtain ⟨-, hf⟩ := m_chkE hf
  obtain ⟨o2, ho, hf⟩ := m_calE hf
  have h_o2 := fra_t h_S (fa_X6_at ho) (by decide)
  clear ho
  cases hf
  exact h_o2
theorem fa_X11_out {o : Int32 × ZS} {x0 : Nat} {x1 : Int32} {S : ZS}  (hf : f_X11_out x0 x1 S = some o) : FrA [] S o.2 := by
  have h_S : FrA [] S S := fra_0
  unfold f_X11_out at hf
  exact fra_t h_S (fa_X11_out_0  hf) (fun _ h => h)
theorem fa_X11_nodes_0 {o : Int32 × ZS} {x0 : Nat} {S : ZS}  (hf : f_X11_nodes_0 x0 S = some o) : FrA [] S o.2 := by
  have h_S : FrA [] S S := fra_0
  unfold f_X11_nodes_0 at hf
  obtain ⟨-, hf⟩ := m_chkE hf
  obtain ⟨b1, -, hf⟩ := m_calE hf
  obtain ⟨-, hf⟩ := m_chkE hf
  cases hf
  exact h_S
theorem fa_X11_nodes {o : Int32 × ZS} {x0 : Nat} {S : ZS}  (hf : f_X11_nodes x0 S = some o) : FrA [] S o.2 := by
  have h_S : FrA [] S S := fra_0
  unfold f_X11_nodes at hf
  exact fra_t h_S (fa_X11_nodes_0  hf) (fun _ h => h)
theorem fa_X11_here_0 {o : Int32 × ZS} {x0 : Nat} {S : ZS}  (hf : f_X11_here_0 x0 S = some o) : FrA [] S o.2 := by
  have h_S : FrA [] S S := fra_0
  unfold f_X11_here_0 at hf
  obtain ⟨-, hf⟩ := m_chkE hf
  cases hf
  exact h_S
theorem fa_X11_here {o : Int32 × ZS} {x0 : Nat} {S : ZS}  (hf : f_X11_here x0 S = some o) : FrA [] S o.2 := by
  have h_S : FrA [] S S := fra_0
  unfold f_X11_here at hf
  exact fra_t h_S (fa_X11_here_0  hf) (fun _ h => h)
theorem fa_X11_move_0 {o : Int32 × ZS} {x0 : Nat} {x1 : Int32} {S : ZS}  (hf : f_X11_move_0 x0 x1 S = some o) : FrA [14] S o.2 := by
  have h_S : FrA [14] S S := fra_0
  unfold f_X11_move_0 at hf
  obtain ⟨-, hf⟩ := m_chkE hf
  obtain ⟨b1, -, hf⟩ := m_calE hf
  obtain ⟨-, hf⟩ := m_chkE hf
  obtain ⟨b2, -, hf⟩ := m_calE hf
  obtain ⟨-, hf⟩ := m_chkE hf
  obtain ⟨o3, ho, hf⟩ := m_calE hf
  have h_o3 := fra_t h_S (fa_X7_legalMove ho) (by decide)
  clear ho
  cases hf
  exact h_o3
theorem fa_X11_move {o : Int32 × ZS} {x0 : Nat} {x1 : Int32} {S : ZS}  (hf : f_X11_move x0 x1 S = some o) : FrA [14] S o.2 := by
  have h_S : FrA [14] S S := fra_0
  unfold f_X11_move at hf
  exact fra_t h_S (fa_X11_move_0  hf) (fun _ h => h)
theorem fa_X11_result_0 {o : Int32 × ZS} {x0 : Nat} {S : ZS}  (hf : f_X11_result_0 x0 S = some o) : FrA [] S o.2 := by
  have h_S : FrA [] S S := fra_0
  unfold f_X11_result_0 at hf
  obtain ⟨-, hf⟩ := m_chkE hf
  obtain ⟨b1, -, hf⟩ := m_calE hf
  obtain ⟨-, hf⟩ := m_chkE hf
  cases hf
  exact h_S
theorem fa_X11_result {o : Int32 × ZS} {x0 : Nat} {S : ZS}  (hf : f_X11_result x0 S = some o) : FrA [] S o.2 := by
  have h_S : FrA [] S S := fra_0
  unfold f_X11_result at hf
  exact fra_t h_S (fa_X11_result_0  hf) (fun _ h => h)
theorem fa_X11_tags_0 {o : Int32 × ZS} {x0 : Nat} {S : ZS}  (hf : f_X11_tags_0 x0 S = some o) : FrA [] S o.2 := by
  have h_S : FrA [] S S := fra_0
  unfold f_X11_tags_0 at hf
  obtain ⟨-, hf⟩ := m_chkE hf
  obtain ⟨b1, -, hf⟩ := m_calE hf
  obtain ⟨-, hf⟩ := m_chkE hf
  cases hf
  exact h_S
theorem fa_X11_tags {o : Int32 × ZS} {x0 : Nat} {S : ZS}  (hf : f_X11_tags x0 S = some o) : FrA [] S o.2 := by
  have h_S : FrA [] S S := fra_0
  unfold f_X11_tags at hf
  exact fra_t h_S (fa_X11_tags_0  hf) (fun _ h => h)
theorem fa_X0_init_0 {o : Int32 × ZS} {x0 : Nat} {S : ZS}  (hf : d_X0_init_0 x0 S = some o) : FrA [] S o.2 := by
  have h_S : FrA [] S S := fra_0
  unfold d_X0_init_0 at hf
  obtain ⟨-, hf⟩ := m_chkE hf
  obtain ⟨q1, e1, hf⟩ := m_bndE hf
  obtain ⟨S2, e2, hf⟩ := m_bndE hf
  have h_S2 := fra_nA h_S e1 e2
  obtain ⟨-, hf⟩ := m_chkE hf
  obtain ⟨S5, e3, hf⟩ := m_bndE hf
  have h_S5 := fra_P h_S2 e3
  obtain ⟨-, hf⟩ := m_chkE hf
  obtain ⟨S6, e4, hf⟩ := m_bndE hf
  have h_S6 := fra_I h_S5 e4
  obtain ⟨-, hf⟩ := m_chkE hf
  obtain ⟨S7, e5, hf⟩ := m_bndE hf
  have h_S7 := fra_I h_S6 e5
  obtain ⟨-, hf⟩ := m_chkE hf
  obtain ⟨S8, e6, hf⟩ := m_bndE hf
  have h_S8 := fra_I h_S7 e6
  obtain ⟨-, hf⟩ := m_chkE hf
  obtain ⟨S9, e7, hf⟩ := m_bndE hf
  have h_S9 := fra_I h_S8 e7
  obtain ⟨-, hf⟩ := m_chkE hf
  obtain ⟨S10, e8, hf⟩ := m_bndE hf
  have h_S10 := fra_I h_S9 e8
  obtain ⟨-, hf⟩ := m_chkE hf
  obtain ⟨S11, e9, hf⟩ := m_bndE hf
  have h_S11 := fra_I h_S10 e9
  cases hf
  exact h_S11
theorem fa_X0_init {o : Int32 × ZS} {x0 : Nat} {S : ZS}  (hf : d_X0_init x0 S = some o) : FrA [] S o.2 := by
  have h_S : FrA [] S S := fra_0
  unfold d_X0_init at hf
  exact fra_t h_S (fa_X0_init_0  hf) (fun _ h => h)
theorem fa_X4_init_0 {o : Int32 × ZS} {x0 : Nat} {S : ZS}  (hf : d_X4_init_0 x0 S = some o) : FrA [] S o.2 := by
  have h_S : FrA [] S S := fra_0
  unfold d_X4_init_0 at hf
  obtain ⟨-, hf⟩ := m_chkE hf
  obtain ⟨S1, e1, hf⟩ := m_bndE hf
  have h_S1 := fra_I h_S e1
  obtain ⟨-, hf⟩ := m_chkE hf
  obtain ⟨S2, e2, hf⟩ := m_bndE hf
  have h_S2 := fra_I h_S1 e2
  obtain ⟨-, hf⟩ := m_chkE hf
  obtain ⟨S3, e3, hf⟩ := m_bndE hf
  have h_S3 := fra_I h_S2 e3
  obtain ⟨-, hf⟩ := m_chkE hf
  obtain ⟨S4, e4, hf⟩ := m_bndE hf
  have h_S4 := fra_I h_S3 e4
  obtain ⟨-, hf⟩ := m_chkE hf
  obtain ⟨S5, e5, hf⟩ := m_bndE hf
  have h_S5 := fra_I h_S4 e5
  obtain ⟨-, hf⟩ := m_chkE hf
  obtain ⟨S6, e6, hf⟩ := m_bndE hf
  have h_S6 := fra_I h_S5 e6
  obtain ⟨q7, e7, hf⟩ := m_bndE hf
  obtain ⟨S8, e8, hf⟩ := m_bndE hf
  have h_S8 := fra_nO h_S6 e7 e8
  obtain ⟨o11, ho, hf⟩ := m_calE hf
  have h_o11 := fra_t h_S8 (fa_X6_init ho) (by decide)
  clear ho
  obtain ⟨-, hf⟩ := m_chkE hf
  obtain ⟨-, hf⟩ := m_chkE hf
  obtain ⟨S12, e9, hf⟩ := m_bndE hf
  have h_S12 := fra_P h_o11 e9
  cases hf
  exact h_S12
theorem fa_X4_init {o : Int32 × ZS} {x0 : Nat} {S : ZS}  (hf : d_X4_init x0 S = some o) : FrA [] S o.2 := by
  have h_S : FrA [] S S := fra_0
  unfold d_X4_init at hf
  exact fra_t h_S (fa_X4_init_0  hf) (fun _ h => h)
theorem fa_X1_init_0 {o : Int32 × ZS} {x0 : Nat} {S : ZS}  (hf : d_X1_init_0 x0 S = some o) : FrA [14] S o.2 := by
  have h_S : FrA [14] S S := fra_0
  unfold d_X1_init_0 at hf
  obtain ⟨q1, e1, hf⟩ := m_bndE hf
  obtain ⟨S2, e2, hf⟩ := m_bndE hf
  have h_S2 := fra_nO h_S e1 e2
  obtain ⟨⟨r6, S7⟩, ho, hf⟩ := m_cal2E hf
  have h_S7 := fra_t h_S2 (fa_X0_init ho) (by decide)
  clear ho
  obtain ⟨-, hf⟩ := m_chkE hf
  obtain ⟨S10, e3, hf⟩ := m_bndE hf
  have h_S10 := fra_P h_S7 e3
  obtain ⟨q11, e4, hf⟩ := m_bndE hf
  obtain ⟨S12, e5, hf⟩ := m_bndE hf
  have h_S12 := fra_nO h_S10 e4 e5
  obtain ⟨⟨r16, S17⟩, ho, hf⟩ := m_cal2E hf
  have h_S17 := fra_t h_S12 (fa_X4_init ho) (by decide)
  clear ho
  obtain ⟨-, hf⟩ := m_chkE hf
  obtain ⟨S20, e6, hf⟩ := m_bndE hf
  have h_S20 := fra_P h_S17 e6
  obtain ⟨-, hf⟩ := m_chkE hf
  obtain ⟨q21, e7, hf⟩ := m_bndE hf
  obtain ⟨S22, e8, hf⟩ := m_bndE hf
  have h_S22 := fra_nA h_S20 e7 e8
  obtain ⟨-, hf⟩ := m_chkE hf
  obtain ⟨S25, e9, hf⟩ := m_bndE hf
  have h_S25 := fra_P h_S22 e9
  obtain ⟨-, hf⟩ := m_chkE hf
  obtain ⟨S26, e10, hf⟩ := m_bndE hf
  have h_S26 := fra_I h_S25 e10
  obtain ⟨-, hf⟩ := m_chkE hf
  obtain ⟨q27, e11, hf⟩ := m_bndE hf
  obtain ⟨S28, e12, hf⟩ := m_bndE hf
  have h_S28 := fra_nA h_S26 e11 e12
  obtain ⟨-, hf⟩ := m_chkE hf
  obtain ⟨S31, e13, hf⟩ := m_bndE hf
  have h_S31 := fra_P h_S28 e13
  obtain ⟨-, hf⟩ := m_chkE hf
  obtain ⟨S32, e14, hf⟩ := m_bndE hf
  have h_S32 := fra_I h_S31 e14
  obtain ⟨-, hf⟩ := m_chkE hf
  obtain ⟨S33, e15, hf⟩ := m_bndE hf
  have h_S33 := fra_I h_S32 e15
  obtain ⟨-, hf⟩ := m_chkE hf
  obtain ⟨q34, e16, hf⟩ := m_bndE hf
  obtain ⟨S35, e17, hf⟩ := m_bndE hf
  have h_S35 := fra_nA h_S33 e16 e17
  obtain ⟨-, hf⟩ := m_chkE hf
  obtain ⟨S38, e18, hf⟩ := m_bndE hf
  have h_S38 := fra_P h_S35 e18
  obtain ⟨-, hf⟩ := m_chkE hf
  obtain ⟨b39, -, hf⟩ := m_calE hf
  obtain ⟨-, hf⟩ := m_chkE hf
  obtain ⟨o40, ho, hf⟩ := m_calE hf
  have h_o40 := fra_t h_S38 (fa_X0_setUp ho) (by decide)
  clear ho
  obtain ⟨-, hf⟩ := m_chkE hf
  cases hf
  exact h_o40
theorem fa_X1_init {o : Int32 × ZS} {x0 : Nat} {S : ZS}  (hf : d_X1_init x0 S = some o) : FrA [14] S o.2 := by
  have h_S : FrA [14] S S := fra_0
  unfold d_X1_init at hf
  exact fra_t h_S (fa_X1_init_0  hf) (fun _ h => h)
theorem fa_X1_grow_147 {o : Int32 × ZS} {x0 : Nat} {S : ZS}  (hf : d_X1_grow_147 x0 S = some o) : FrA [] S o.2 := by
  have h_S : FrA [] S S := fra_0
  unfold d_X1_grow_147 at hf
  obtain ⟨-, hf⟩ := m_chkE hf
  cases hf
  exact h_S
theorem fa_X1_grow_102 {o : Int32 × ZS} {x0 : Nat} {x1 : Int32} {x2 : Int32} {x3 : Int32} {S : ZS}  (hf : d_X1_grow_102 x0 x1 x2 x3 S = some o) : FrA [] S o.2 := by
  have h_S : FrA [] S S := fra_0
  unfold d_X1_grow_102 at hf
  obtain ⟨-, hf⟩ := m_chkE hf
  obtain ⟨-, hf⟩ := m_chkE hf
  obtain ⟨o1, ho, hf⟩ := m_calE hf
  have h_o1 := fra_t h_S (fa_X1_at ho) (by decide)
  clear ho
  obtain ⟨-, hf⟩ := m_chkE hf
  obtain ⟨-, hf⟩ := m_chkE hf
  obtain ⟨o2, ho, hf⟩ := m_calE hf
  have h_o2 := fra_t h_o1 (fa_X4_become ho) (by decide)
  clear ho
  obtain ⟨-, hf⟩ := m_chkE hf
  rcases m_ifE hf with ⟨-, hf⟩ | ⟨-, hf⟩
  ·
    obtain ⟨-, hf⟩ := m_chkE hf
    obtain ⟨o5, ho, hf⟩ := m_calE hf
    have h_o5 := fra_t h_o2 (fa_X1_at ho) (by decide)
    clear ho
    obtain ⟨-, hf⟩ := m_chkE hf
    obtain ⟨-, hf⟩ := m_chkE hf
    obtain ⟨-, hf⟩ := m_chkE hf
    obtain ⟨S6, e1, hf⟩ := m_bndE hf
    have h_S6 := fra_I h_o5 e1
    exact fra_t h_S6 (fa_X1_grow_147  hf) (fun _ h => h)
  ·
    obtain ⟨-, hf⟩ := m_chkE hf
    obtain ⟨o3, ho, hf⟩ := m_calE hf
    have h_o3 := fra_t h_o2 (fa_X1_at ho) (by decide)
    clear ho
    obtain ⟨-, hf⟩ := m_chkE hf
    obtain ⟨-, hf⟩ := m_chkE hf
    obtain ⟨-, hf⟩ := m_chkE hf
    obtain ⟨S4, e2, hf⟩ := m_bndE hf
    have h_S4 := fra_I h_o3 e2
    exact fra_t h_S4 (fa_X1_grow_147  hf) (fun _ h => h)
theorem fa_X1_grow_64 {o : Int32 × ZS} {x0 : Nat} {x1 : Int32} {x2 : Int32} {x3 : Int32} {S : ZS}  (hf : d_X1_grow_64 x0 x1 x2 x3 S = some o) : FrA [] S o.2 := by
  have h_S : FrA [] S S := fra_0
  unfold d_X1_grow_64 at hf
  obtain ⟨-, hf⟩ := m_chkE hf
  obtain ⟨v1, e1, hf⟩ := m_bndE hf
  obtain ⟨-, hf⟩ := m_chkE hf
  obtain ⟨S2, e2, hf⟩ := m_bndE hf
  have h_S2 := fra_I h_S e2
  obtain ⟨-, hf⟩ := m_chkE hf
  obtain ⟨b3, -, hf⟩ := m_calE hf
  obtain ⟨-, hf⟩ := m_chkE hf
  obtain ⟨-, hf⟩ := m_chkE hf
  obtain ⟨-, hf⟩ := m_chkE hf
  obtain ⟨v4, e3, hf⟩ := m_bndE hf
  rcases m_optE hf with ⟨-, hf⟩ | ⟨b5, -, hf⟩
  ·
    obtain ⟨-, hf⟩ := m_chkE hf
    obtain ⟨b6, -, hf⟩ := m_calE hf
    obtain ⟨-, hf⟩ := m_chkE hf
    obtain ⟨q7, e4, hf⟩ := m_bndE hf
    obtain ⟨S8, e5, hf⟩ := m_bndE hf
    have h_S8 := fra_nO h_S2 e4 e5
    obtain ⟨⟨r12, S13⟩, ho, hf⟩ := m_cal2E hf
    have h_S13 := fra_t h_S8 (fa_X4_init ho) (by decide)
    clear ho
    obtain ⟨-, hf⟩ := m_chkE hf
    obtain ⟨-, hf⟩ := m_chkE hf
    obtain ⟨-, hf⟩ := m_chkE hf
    obtain ⟨S16, e6, hf⟩ := m_bndE hf
    have h_S16 := fra_B h_S13 e6
    exact fra_t h_S16 (fa_X1_grow_102  hf) (fun _ h => h)
  ·
    exact fra_t h_S2 (fa_X1_grow_102  hf) (fun _ h => h)
theorem fa_X1_grow_24s {o : Int32 × ZS} {self24 : Nat → Int32 → Int32 → Int32 → Int32 → ZS → Option (Int32 × ZS)} {x0 : Nat} {x1 : Int32} {x2 : Int32} {x3 : Int32} {x4 : Int32} {S : ZS} (hself24 : ∀ (z0 : Nat) (z1 : Int32) (z2 : Int32) (z3 : Int32) (z4 : Int32) (S : ZS) (o : Int32 × ZS), self24 z0 z1 z2 z3 z4 S = some o → FrA [] S o.2) (hf : d_X1_grow_24s self24 x0 x1 x2 x3 x4 S = some o) : FrA [] S o.2 := by
  have h_S : FrA [] S S := fra_0
  unfold d_X1_grow_24s at hf
  rcases m_ifE hf with ⟨-, hf⟩ | ⟨-, hf⟩
  ·
    exact fra_t h_S (fa_X1_grow_64  hf) (fun _ h => h)
  ·
    rcases m_ifE hf with ⟨-, hf⟩ | ⟨-, hf⟩
    ·
      exact fra_t h_S (fa_X1_grow_64  hf) (fun _ h => h)
    ·
      obtain ⟨-, hf⟩ := m_chkE hf
      obtain ⟨o1, ho, hf⟩ := m_calE hf
      have h_o1 := fra_t h_S (fa_X1_at ho) (by decide)
      clear ho
      obtain ⟨-, hf⟩ := m_chkE hf
      obtain ⟨-, hf⟩ := m_chkE hf
      rcases m_ifE hf with ⟨-, hf⟩ | ⟨-, hf⟩
      ·
        exact fra_t h_o1 (fa_X1_grow_64  hf) (fun _ h => h)
      ·
        obtain ⟨-, hf⟩ := m_chkE hf
        obtain ⟨o2, ho, hf⟩ := m_calE hf
        have h_o2 := fra_t h_o1 (fa_X1_at ho) (by decide)
        clear ho
        obtain ⟨-, hf⟩ := m_chkE hf
        obtain ⟨-, hf⟩ := m_chkE hf
        obtain ⟨v3, e1, hf⟩ := m_bndE hf
        exact fra_t h_o2 (hself24 _ _ _ _ _ _ _ hf) (fun _ h => h)
theorem fa_X1_grow_24   (n : Nat) : ∀ (y0 : Nat) (y1 : Int32) (y2 : Int32) (y3 : Int32) (y4 : Int32) (S : ZS) (o : Int32 × ZS), d_X1_grow_24  n y0 y1 y2 y3 y4 S = some o → FrA [] S o.2 := by
  induction n with
  | zero => intro y0 y1 y2 y3 y4 S o hf; cases hf
  | succ n ih => intro y0 y1 y2 y3 y4 S o hf; exact fa_X1_grow_24s  ih hf
theorem fa_X1_grow_0 {o : Int32 × ZS} {x0 : Nat} {x1 : Int32} {x2 : Int32} {S : ZS}  (hf : d_X1_grow_0 x0 x1 x2 S = some o) : FrA [] S o.2 := by
  have h_S : FrA [] S S := fra_0
  unfold d_X1_grow_0 at hf
  obtain ⟨-, hf⟩ := m_chkE hf
  rcases m_ifE hf with ⟨-, hf⟩ | ⟨-, hf⟩
  ·
    obtain ⟨-, hf⟩ := m_chkE hf
    obtain ⟨o1, ho, hf⟩ := m_calE hf
    have h_o1 := fra_t h_S (fa_X1_at ho) (by decide)
    clear ho
    obtain ⟨-, hf⟩ := m_chkE hf
    obtain ⟨-, hf⟩ := m_chkE hf
    exact fra_t h_o1 (fa_X1_grow_24  _ _ _ _ _ _ _ _ hf) (fun _ h => h)
  ·
    cases hf
    exact h_S
theorem fa_X1_grow {o : Int32 × ZS} {x0 : Nat} {x1 : Int32} {x2 : Int32} {S : ZS}  (hf : d_X1_grow x0 x1 x2 S = some o) : FrA [] S o.2 := by
  have h_S : FrA [] S S := fra_0
  unfold d_X1_grow at hf
  exact fra_t h_S (fa_X1_grow_0  hf) (fun _ h => h)
theorem fa_X10_init_0 {o : Int32 × ZS} {x0 : Nat} {S : ZS}  (hf : d_X10_init_0 x0 S = some o) : FrA [] S o.2 := by
  have h_S : FrA [] S S := fra_0
  unfold d_X10_init_0 at hf
  obtain ⟨q1, e1, hf⟩ := m_bndE hf
  obtain ⟨S2, e2, hf⟩ := m_bndE hf
  have h_S2 := fra_nO h_S e1 e2
  obtain ⟨o5, ho, hf⟩ := m_calE hf
  have h_o5 := fra_t h_S2 (fa_X6_init ho) (by decide)
  clear ho
  obtain ⟨-, hf⟩ := m_chkE hf
  obtain ⟨-, hf⟩ := m_chkE hf
  obtain ⟨S6, e3, hf⟩ := m_bndE hf
  have h_S6 := fra_P h_o5 e3
  obtain ⟨q7, e4, hf⟩ := m_bndE hf
  obtain ⟨S8, e5, hf⟩ := m_bndE hf
  have h_S8 := fra_nO h_S6 e4 e5
  obtain ⟨o11, ho, hf⟩ := m_calE hf
  have h_o11 := fra_t h_S8 (fa_X6_init ho) (by decide)
  clear ho
  obtain ⟨-, hf⟩ := m_chkE hf
  obtain ⟨-, hf⟩ := m_chkE hf
  obtain ⟨S12, e6, hf⟩ := m_bndE hf
  have h_S12 := fra_P h_o11 e6
  cases hf
  exact h_S12
theorem fa_X10_init {o : Int32 × ZS} {x0 : Nat} {S : ZS}  (hf : d_X10_init x0 S = some o) : FrA [] S o.2 := by
  have h_S : FrA [] S S := fra_0
  unfold d_X10_init at hf
  exact fra_t h_S (fa_X10_init_0  hf) (fun _ h => h)
theorem fa_X1_tagAt_38 {o : Nat × ZS} {t0 : Option Nat} {S : ZS}  (hf : d_X1_tagAt_38 t0 S = some o) : FrA [] S o.2 := by
  have h_S : FrA [] S S := fra_0
  unfold d_X1_tagAt_38 at hf
  obtain ⟨b1, -, hf⟩ := m_calE hf
  cases hf
  exact h_S
theorem fa_X1_tagAt_22 {o : Nat × ZS} {t0 : Option Nat} {S : ZS}  (hf : d_X1_tagAt_22 t0 S = some o) : FrA [] S o.2 := by
  have h_S : FrA [] S S := fra_0
  unfold d_X1_tagAt_22 at hf
  rcases m_optE hf with ⟨-, hf⟩ | ⟨b1, -, hf⟩
  ·
    obtain ⟨q2, e1, hf⟩ := m_bndE hf
    obtain ⟨S3, e2, hf⟩ := m_bndE hf
    have h_S3 := fra_nO h_S e1 e2
    obtain ⟨⟨r7, S8⟩, ho, hf⟩ := m_cal2E hf
    have h_S8 := fra_t h_S3 (fa_X10_init ho) (by decide)
    clear ho
    exact fra_t h_S8 (fa_X1_tagAt_38  hf) (fun _ h => h)
  ·
    exact fra_t h_S (fa_X1_tagAt_38  hf) (fun _ h => h)
theorem fa_X1_tagAt_21 {o : Nat × ZS} {S : ZS}  (hf : d_X1_tagAt_21 S = some o) : FrA [] S o.2 := by
  have h_S : FrA [] S S := fra_0
  unfold d_X1_tagAt_21 at hf
  exact fra_t h_S (fa_X1_tagAt_22  hf) (fun _ h => h)
theorem fa_X1_tagAt_0 {o : Nat × ZS} {x0 : Nat} {x1 : Int32} {S : ZS}  (hf : d_X1_tagAt_0 x0 x1 S = some o) : FrA [] S o.2 := by
  have h_S : FrA [] S S := fra_0
  unfold d_X1_tagAt_0 at hf
  rcases m_ifE hf with ⟨-, hf⟩ | ⟨-, hf⟩
  ·
    exact fra_t h_S (fa_X1_tagAt_21  hf) (fun _ h => h)
  ·
    obtain ⟨-, hf⟩ := m_chkE hf
    rcases m_ifE hf with ⟨-, hf⟩ | ⟨-, hf⟩
    ·
      exact fra_t h_S (fa_X1_tagAt_21  hf) (fun _ h => h)
    ·
      obtain ⟨-, hf⟩ := m_chkE hf
      obtain ⟨b1, -, hf⟩ := m_calE hf
      obtain ⟨-, hf⟩ := m_chkE hf
      obtain ⟨-, hf⟩ := m_chkE hf
      obtain ⟨v2, e1, hf⟩ := m_bndE hf
      exact fra_t h_S (fa_X1_tagAt_22  hf) (fun _ h => h)
theorem fa_X1_tagAt {o : Nat × ZS} {x0 : Nat} {x1 : Int32} {S : ZS}  (hf : d_X1_tagAt x0 x1 S = some o) : FrA [] S o.2 := by
  have h_S : FrA [] S S := fra_0
  unfold d_X1_tagAt at hf
  exact fra_t h_S (fa_X1_tagAt_0  hf) (fun _ h => h)
theorem fa_X1_hasTag_2s {o : Int32 × ZS} {self2 : Nat → Nat → Int32 → ZS → Option (Int32 × ZS)} {x0 : Nat} {x1 : Nat} {x2 : Int32} {S : ZS} (hself2 : ∀ (z0 : Nat) (z1 : Nat) (z2 : Int32) (S : ZS) (o : Int32 × ZS), self2 z0 z1 z2 S = some o → FrA [] S o.2) (hf : d_X1_hasTag_2s self2 x0 x1 x2 S = some o) : FrA [] S o.2 := by
  have h_S : FrA [] S S := fra_0
  unfold d_X1_hasTag_2s at hf
  obtain ⟨-, hf⟩ := m_chkE hf
  rcases m_ifE hf with ⟨-, hf⟩ | ⟨-, hf⟩
  ·
    obtain ⟨-, hf⟩ := m_chkE hf
    cases hf
    exact h_S
  ·
    obtain ⟨-, hf⟩ := m_chkE hf
    obtain ⟨⟨r2, S3⟩, ho, hf⟩ := m_cal2E hf
    have h_S3 := fra_t h_S (fa_X1_tagAt ho) (by decide)
    clear ho
    obtain ⟨-, hf⟩ := m_chkE hf
    obtain ⟨b6, -, hf⟩ := m_calE hf
    obtain ⟨-, hf⟩ := m_chkE hf
    obtain ⟨o7, ho, hf⟩ := m_calE hf
    have h_o7 := fra_t h_S3 (fa_X6_isLike ho) (by decide)
    clear ho
    obtain ⟨-, hf⟩ := m_chkE hf
    rcases m_ifE hf with ⟨-, hf⟩ | ⟨-, hf⟩
    ·
      obtain ⟨v8, e1, hf⟩ := m_bndE hf
      exact fra_t h_o7 (hself2 _ _ _ _ _ hf) (fun _ h => h)
    ·
      obtain ⟨-, hf⟩ := m_chkE hf
      cases hf
      exact h_o7
theorem fa_X1_hasTag_2   (n : Nat) : ∀ (y0 : Nat) (y1 : Nat) (y2 : Int32) (S : ZS) (o : Int32 × ZS), d_X1_hasTag_2  n y0 y1 y2 S = some o → FrA [] S o.2 := by
  induction n with
  | zero => intro y0 y1 y2 S o hf; cases hf
  | succ n ih => intro y0 y1 y2 S o hf; exact fa_X1_hasTag_2s  ih hf
theorem fa_X1_hasTag_0 {o : Int32 × ZS} {x0 : Nat} {x1 : Nat} {S : ZS}  (hf : d_X1_hasTag_0 x0 x1 S = some o) : FrA [] S o.2 := by
  have h_S : FrA [] S S := fra_0
  unfold d_X1_hasTag_0 at hf
  exact fra_t h_S (fa_X1_hasTag_2  _ _ _ _ _ _ hf) (fun _ h => h)
theorem fa_X1_hasTag {o : Int32 × ZS} {x0 : Nat} {x1 : Nat} {S : ZS}  (hf : d_X1_hasTag x0 x1 S = some o) : FrA [] S o.2 := by
  have h_S : FrA [] S S := fra_0
  unfold d_X1_hasTag at hf
  exact fra_t h_S (fa_X1_hasTag_0  hf) (fun _ h => h)
theorem fa_X6_put_43 {o : Int32 × ZS} {x0 : Nat} {x1 : Int32} {S : ZS}  (hf : d_X6_put_43 x0 x1 S = some o) : FrA [13] S o.2 := by
  have h_S : FrA [13] S S := fra_0
  unfold d_X6_put_43 at hf
  obtain ⟨-, hf⟩ := m_chkE hf
  obtain ⟨b1, -, hf⟩ := m_calE hf
  obtain ⟨-, hf⟩ := m_chkE hf
  obtain ⟨q1, hf⟩ := m_chkE hf
  obtain ⟨-, hf⟩ := m_chkE hf
  obtain ⟨S2, e2, hf⟩ := m_bndE hf
  have h_S2 := fra_A h_S q1 e2 (by decide)
  obtain ⟨-, hf⟩ := m_chkE hf
  obtain ⟨v3, e3, hf⟩ := m_bndE hf
  obtain ⟨-, hf⟩ := m_chkE hf
  obtain ⟨S4, e4, hf⟩ := m_bndE hf
  have h_S4 := fra_I h_S2 e4
  cases hf
  exact h_S4
theorem fa_X6_put_0 {o : Int32 × ZS} {x0 : Nat} {x1 : Int32} {S : ZS}  (hf : d_X6_put_0 x0 x1 S = some o) : FrA [13] S o.2 := by
  have h_S : FrA [13] S S := fra_0
  unfold d_X6_put_0 at hf
  obtain ⟨-, hf⟩ := m_chkE hf
  obtain ⟨-, hf⟩ := m_chkE hf
  obtain ⟨b1, -, hf⟩ := m_calE hf
  obtain ⟨-, hf⟩ := m_chkE hf
  obtain ⟨v2, e1, hf⟩ := m_bndE hf
  rcases m_ifE hf with ⟨-, hf⟩ | ⟨-, hf⟩
  ·
    exact fra_t h_S (fa_X6_put_43  hf) (fun _ h => h)
  ·
    obtain ⟨-, hf⟩ := m_chkE hf
    obtain ⟨v3, e2, hf⟩ := m_bndE hf
    obtain ⟨v4, e3, hf⟩ := m_bndE hf
    obtain ⟨-, hf⟩ := m_chkE hf
    obtain ⟨q5, e4, hf⟩ := m_bndE hf
    obtain ⟨S6, e5, hf⟩ := m_bndE hf
    have h_S6 := fra_nA h_S e4 e5
    obtain ⟨-, hf⟩ := m_chkE hf
    obtain ⟨b9, -, hf⟩ := m_calE hf
    obtain ⟨-, hf⟩ := m_chkE hf
    obtain ⟨q6, hf⟩ := m_chkE hf
    obtain ⟨-, hf⟩ := m_chkE hf
    obtain ⟨S10, e7, hf⟩ := m_bndE hf
    have h_S10 := fra_D h_S6 q6 e7 (by decide)
    obtain ⟨-, hf⟩ := m_chkE hf
    obtain ⟨S11, e8, hf⟩ := m_bndE hf
    have h_S11 := fra_P h_S10 e8
    exact fra_t h_S11 (fa_X6_put_43  hf) (fun _ h => h)
theorem fa_X6_put {o : Int32 × ZS} {x0 : Nat} {x1 : Int32} {S : ZS}  (hf : d_X6_put x0 x1 S = some o) : FrA [13] S o.2 := by
  have h_S : FrA [13] S S := fra_0
  unfold d_X6_put at hf
  exact fra_t h_S (fa_X6_put_0  hf) (fun _ h => h)
theorem fa_X6_putAll_2s {o : Int32 × ZS} {self2 : Nat → Nat → Int32 → ZS → Option (Int32 × ZS)} {x0 : Nat} {x1 : Nat} {x2 : Int32} {S : ZS} (hself2 : ∀ (z0 : Nat) (z1 : Nat) (z2 : Int32) (S : ZS) (o : Int32 × ZS), self2 z0 z1 z2 S = some o → FrA [13] S o.2) (hf : d_X6_putAll_2s self2 x0 x1 x2 S = some o) : FrA [13] S o.2 := by
  have h_S : FrA [13] S S := fra_0
  unfold d_X6_putAll_2s at hf
  obtain ⟨-, hf⟩ := m_chkE hf
  rcases m_ifE hf with ⟨-, hf⟩ | ⟨-, hf⟩
  ·
    cases hf
    exact h_S
  ·
    obtain ⟨-, hf⟩ := m_chkE hf
    obtain ⟨o1, ho, hf⟩ := m_calE hf
    have h_o1 := fra_t h_S (fa_X6_at ho) (by decide)
    clear ho
    obtain ⟨-, hf⟩ := m_chkE hf
    obtain ⟨-, hf⟩ := m_chkE hf
    obtain ⟨⟨r3, S4⟩, ho, hf⟩ := m_cal2E hf
    have h_S4 := fra_t h_o1 (fa_X6_put ho) (by decide)
    clear ho
    obtain ⟨v7, e1, hf⟩ := m_bndE hf
    exact fra_t h_S4 (hself2 _ _ _ _ _ hf) (fun _ h => h)
theorem fa_X6_putAll_2   (n : Nat) : ∀ (y0 : Nat) (y1 : Nat) (y2 : Int32) (S : ZS) (o : Int32 × ZS), d_X6_putAll_2  n y0 y1 y2 S = some o → FrA [13] S o.2 := by
  induction n with
  | zero => intro y0 y1 y2 S o hf; cases hf
  | succ n ih => intro y0 y1 y2 S o hf; exact fa_X6_putAll_2s  ih hf
theorem fa_X6_putAll_0 {o : Int32 × ZS} {x0 : Nat} {x1 : Nat} {S : ZS}  (hf : d_X6_putAll_0 x0 x1 S = some o) : FrA [13] S o.2 := by
  have h_S : FrA [13] S S := fra_0
  unfold d_X6_putAll_0 at hf
  exact fra_t h_S (fa_X6_putAll_2  _ _ _ _ _ _ hf) (fun _ h => h)
theorem fa_X6_putAll {o : Int32 × ZS} {x0 : Nat} {x1 : Nat} {S : ZS}  (hf : d_X6_putAll x0 x1 S = some o) : FrA [13] S o.2 := by
  have h_S : FrA [13] S S := fra_0
  unfold d_X6_putAll at hf
  exact fra_t h_S (fa_X6_putAll_0  hf) (fun _ h => h)
theorem fa_X6_copyFrom_0 {o : Int32 × ZS} {x0 : Nat} {x1 : Nat} {S : ZS}  (hf : d_X6_copyFrom_0 x0 x1 S = some o) : FrA [13] S o.2 := by
  have h_S : FrA [13] S S := fra_0
  unfold d_X6_copyFrom_0 at hf
  obtain ⟨-, hf⟩ := m_chkE hf
  obtain ⟨S1, e1, hf⟩ := m_bndE hf
  have h_S1 := fra_I h_S e1
  obtain ⟨-, hf⟩ := m_chkE hf
  obtain ⟨⟨r3, S4⟩, ho, hf⟩ := m_cal2E hf
  have h_S4 := fra_t h_S1 (fa_X6_putAll ho) (by decide)
  clear ho
  cases hf
  exact h_S4
theorem fa_X6_copyFrom {o : Int32 × ZS} {x0 : Nat} {x1 : Nat} {S : ZS}  (hf : d_X6_copyFrom x0 x1 S = some o) : FrA [13] S o.2 := by
  have h_S : FrA [13] S S := fra_0
  unfold d_X6_copyFrom at hf
  exact fra_t h_S (fa_X6_copyFrom_0  hf) (fun _ h => h)
theorem fa_X1_putTag_38 {o : Int32 × ZS} {x0 : Nat} {x1 : Nat} {x2 : Nat} {S : ZS}  (hf : d_X1_putTag_38 x0 x1 x2 S = some o) : FrA [13] S o.2 := by
  have h_S : FrA [13] S S := fra_0
  unfold d_X1_putTag_38 at hf
  obtain ⟨-, hf⟩ := m_chkE hf
  obtain ⟨v1, e1, hf⟩ := m_bndE hf
  obtain ⟨-, hf⟩ := m_chkE hf
  obtain ⟨S2, e2, hf⟩ := m_bndE hf
  have h_S2 := fra_I h_S e2
  obtain ⟨-, hf⟩ := m_chkE hf
  obtain ⟨v3, e3, hf⟩ := m_bndE hf
  obtain ⟨-, hf⟩ := m_chkE hf
  obtain ⟨⟨r5, S6⟩, ho, hf⟩ := m_cal2E hf
  have h_S6 := fra_t h_S2 (fa_X1_tagAt ho) (by decide)
  clear ho
  obtain ⟨-, hf⟩ := m_chkE hf
  obtain ⟨b9, -, hf⟩ := m_calE hf
  obtain ⟨-, hf⟩ := m_chkE hf
  obtain ⟨⟨r11, S12⟩, ho, hf⟩ := m_cal2E hf
  have h_S12 := fra_t h_S6 (fa_X6_copyFrom ho) (by decide)
  clear ho
  obtain ⟨-, hf⟩ := m_chkE hf
  obtain ⟨v15, e4, hf⟩ := m_bndE hf
  obtain ⟨-, hf⟩ := m_chkE hf
  obtain ⟨⟨r17, S18⟩, ho, hf⟩ := m_cal2E hf
  have h_S18 := fra_t h_S12 (fa_X1_tagAt ho) (by decide)
  clear ho
  obtain ⟨-, hf⟩ := m_chkE hf
  obtain ⟨b21, -, hf⟩ := m_calE hf
  obtain ⟨-, hf⟩ := m_chkE hf
  obtain ⟨⟨r23, S24⟩, ho, hf⟩ := m_cal2E hf
  have h_S24 := fra_t h_S18 (fa_X6_copyFrom ho) (by decide)
  clear ho
  cases hf
  exact h_S24
theorem fa_X1_putTag_0 {o : Int32 × ZS} {x0 : Nat} {x1 : Nat} {x2 : Nat} {S : ZS}  (hf : d_X1_putTag_0 x0 x1 x2 S = some o) : FrA [13] S o.2 := by
  have h_S : FrA [13] S S := fra_0
  unfold d_X1_putTag_0 at hf
  obtain ⟨-, hf⟩ := m_chkE hf
  rcases m_ifE hf with ⟨-, hf⟩ | ⟨-, hf⟩
  ·
    obtain ⟨-, hf⟩ := m_chkE hf
    obtain ⟨b1, -, hf⟩ := m_calE hf
    obtain ⟨-, hf⟩ := m_chkE hf
    obtain ⟨-, hf⟩ := m_chkE hf
    obtain ⟨-, hf⟩ := m_chkE hf
    obtain ⟨v2, e1, hf⟩ := m_bndE hf
    rcases m_optE hf with ⟨-, hf⟩ | ⟨b3, -, hf⟩
    ·
      obtain ⟨-, hf⟩ := m_chkE hf
      obtain ⟨b4, -, hf⟩ := m_calE hf
      obtain ⟨-, hf⟩ := m_chkE hf
      obtain ⟨q5, e2, hf⟩ := m_bndE hf
      obtain ⟨S6, e3, hf⟩ := m_bndE hf
      have h_S6 := fra_nO h_S e2 e3
      obtain ⟨⟨r10, S11⟩, ho, hf⟩ := m_cal2E hf
      have h_S11 := fra_t h_S6 (fa_X10_init ho) (by decide)
      clear ho
      obtain ⟨-, hf⟩ := m_chkE hf
      obtain ⟨-, hf⟩ := m_chkE hf
      obtain ⟨-, hf⟩ := m_chkE hf
      obtain ⟨S14, e4, hf⟩ := m_bndE hf
      have h_S14 := fra_B h_S11 e4
      exact fra_t h_S14 (fa_X1_putTag_38  hf) (fun _ h => h)
    ·
      exact fra_t h_S (fa_X1_putTag_38  hf) (fun _ h => h)
  ·
    cases hf
    exact h_S
theorem fa_X1_putTag {o : Int32 × ZS} {x0 : Nat} {x1 : Nat} {x2 : Nat} {S : ZS}  (hf : d_X1_putTag x0 x1 x2 S = some o) : FrA [13] S o.2 := by
  have h_S : FrA [13] S S := fra_0
  unfold d_X1_putTag at hf
  exact fra_t h_S (fa_X1_putTag_0  hf) (fun _ h => h)
theorem fa_X1_agreesWith_46 {o : Int32 × ZS} {self2 : Nat → Int32 → Int32 → ZS → Option (Int32 × ZS)} {x0 : Nat} {x1 : Int32} {x2 : Int32} {S : ZS} (hself2 : ∀ (z0 : Nat) (z1 : Int32) (z2 : Int32) (S : ZS) (o : Int32 × ZS), self2 z0 z1 z2 S = some o → FrA [] S o.2) (hf : d_X1_agreesWith_46 self2 x0 x1 x2 S = some o) : FrA [] S o.2 := by
  have h_S : FrA [] S S := fra_0
  unfold d_X1_agreesWith_46 at hf
  obtain ⟨v1, e1, hf⟩ := m_bndE hf
  exact fra_t h_S (hself2 _ _ _ _ _ hf) (fun _ h => h)
theorem fa_X1_agreesWith_2s {o : Int32 × ZS} {self2 : Nat → Int32 → Int32 → ZS → Option (Int32 × ZS)} {x0 : Nat} {x1 : Int32} {x2 : Int32} {S : ZS} (hself2 : ∀ (z0 : Nat) (z1 : Int32) (z2 : Int32) (S : ZS) (o : Int32 × ZS), self2 z0 z1 z2 S = some o → FrA [] S o.2) (hf : d_X1_agreesWith_2s self2 x0 x1 x2 S = some o) : FrA [] S o.2 := by
  have h_S : FrA [] S S := fra_0
  unfold d_X1_agreesWith_2s at hf
  obtain ⟨-, hf⟩ := m_chkE hf
  rcases m_ifE hf with ⟨-, hf⟩ | ⟨-, hf⟩
  ·
    obtain ⟨-, hf⟩ := m_chkE hf
    cases hf
    exact h_S
  ·
    obtain ⟨-, hf⟩ := m_chkE hf
    obtain ⟨⟨r2, S3⟩, ho, hf⟩ := m_cal2E hf
    have h_S3 := fra_t h_S (fa_X1_tagAt ho) (by decide)
    clear ho
    obtain ⟨-, hf⟩ := m_chkE hf
    obtain ⟨b6, -, hf⟩ := m_calE hf
    obtain ⟨-, hf⟩ := m_chkE hf
    obtain ⟨o7, ho, hf⟩ := m_calE hf
    have h_o7 := fra_t h_S3 (fa_X6_is ho) (by decide)
    clear ho
    obtain ⟨-, hf⟩ := m_chkE hf
    rcases m_ifE hf with ⟨-, hf⟩ | ⟨-, hf⟩
    ·
      exact fra_t h_o7 (fa_X1_agreesWith_46 hself2 hf) (fun _ h => h)
    ·
      obtain ⟨-, hf⟩ := m_chkE hf
      obtain ⟨⟨r9, S10⟩, ho, hf⟩ := m_cal2E hf
      have h_S10 := fra_t h_o7 (fa_X1_tagAt ho) (by decide)
      clear ho
      obtain ⟨-, hf⟩ := m_chkE hf
      obtain ⟨b13, -, hf⟩ := m_calE hf
      obtain ⟨o14, ho, hf⟩ := m_calE hf
      have h_o14 := fra_t h_S10 (fa_X11_resultSign ho) (by decide)
      clear ho
      obtain ⟨-, hf⟩ := m_chkE hf
      obtain ⟨-, hf⟩ := m_chkE hf
      obtain ⟨o15, ho, hf⟩ := m_calE hf
      have h_o15 := fra_t h_o14 (fa_X6_is ho) (by decide)
      clear ho
      obtain ⟨-, hf⟩ := m_chkE hf
      rcases m_ifE hf with ⟨-, hf⟩ | ⟨-, hf⟩
      ·
        obtain ⟨-, hf⟩ := m_chkE hf
        cases hf
        exact h_o15
      ·
        exact fra_t h_o15 (fa_X1_agreesWith_46 hself2 hf) (fun _ h => h)
theorem fa_X1_agreesWith_2   (n : Nat) : ∀ (y0 : Nat) (y1 : Int32) (y2 : Int32) (S : ZS) (o : Int32 × ZS), d_X1_agreesWith_2  n y0 y1 y2 S = some o → FrA [] S o.2 := by
  induction n with
  | zero => intro y0 y1 y2 S o hf; cases hf
  | succ n ih => intro y0 y1 y2 S o hf; exact fa_X1_agreesWith_2s  ih hf
theorem fa_X1_agreesWith_0 {o : Int32 × ZS} {x0 : Nat} {x1 : Int32} {S : ZS}  (hf : d_X1_agreesWith_0 x0 x1 S = some o) : FrA [] S o.2 := by
  have h_S : FrA [] S S := fra_0
  unfold d_X1_agreesWith_0 at hf
  exact fra_t h_S (fa_X1_agreesWith_2  _ _ _ _ _ _ hf) (fun _ h => h)
theorem fa_X1_agreesWith {o : Int32 × ZS} {x0 : Nat} {x1 : Int32} {S : ZS}  (hf : d_X1_agreesWith x0 x1 S = some o) : FrA [] S o.2 := by
  have h_S : FrA [] S S := fra_0
  unfold d_X1_agreesWith at hf
  exact fra_t h_S (fa_X1_agreesWith_0  hf) (fun _ h => h)
theorem fa_X7_init_0 {o : Int32 × ZS} {x0 : Nat} {S : ZS}  (hf : d_X7_init_0 x0 S = some o) : FrA [] S o.2 := by
  have h_S : FrA [] S S := fra_0
  unfold d_X7_init_0 at hf
  obtain ⟨q1, e1, hf⟩ := m_bndE hf
  obtain ⟨S2, e2, hf⟩ := m_bndE hf
  have h_S2 := fra_nO h_S e1 e2
  obtain ⟨⟨r6, S7⟩, ho, hf⟩ := m_cal2E hf
  have h_S7 := fra_t h_S2 (fa_X0_init ho) (by decide)
  clear ho
  obtain ⟨-, hf⟩ := m_chkE hf
  obtain ⟨S10, e3, hf⟩ := m_bndE hf
  have h_S10 := fra_P h_S7 e3
  obtain ⟨q11, e4, hf⟩ := m_bndE hf
  obtain ⟨S12, e5, hf⟩ := m_bndE hf
  have h_S12 := fra_nO h_S10 e4 e5
  obtain ⟨⟨r16, S17⟩, ho, hf⟩ := m_cal2E hf
  have h_S17 := fra_t h_S12 (fa_X0_init ho) (by decide)
  clear ho
  obtain ⟨-, hf⟩ := m_chkE hf
  obtain ⟨S20, e6, hf⟩ := m_bndE hf
  have h_S20 := fra_P h_S17 e6
  cases hf
  exact h_S20
theorem fa_X7_init {o : Int32 × ZS} {x0 : Nat} {S : ZS}  (hf : d_X7_init x0 S = some o) : FrA [] S o.2 := by
  have h_S : FrA [] S S := fra_0
  unfold d_X7_init at hf
  exact fra_t h_S (fa_X7_init_0  hf) (fun _ h => h)
theorem fa_X8_init_0 {o : Int32 × ZS} {x0 : Nat} {S : ZS}  (hf : d_X8_init_0 x0 S = some o) : FrA [] S o.2 := by
  have h_S : FrA [] S S := fra_0
  unfold d_X8_init_0 at hf
  obtain ⟨q1, e1, hf⟩ := m_bndE hf
  obtain ⟨S2, e2, hf⟩ := m_bndE hf
  have h_S2 := fra_nO h_S e1 e2
  obtain ⟨⟨r6, S7⟩, ho, hf⟩ := m_cal2E hf
  have h_S7 := fra_t h_S2 (fa_X7_init ho) (by decide)
  clear ho
  obtain ⟨-, hf⟩ := m_chkE hf
  obtain ⟨S10, e3, hf⟩ := m_bndE hf
  have h_S10 := fra_P h_S7 e3
  obtain ⟨q11, e4, hf⟩ := m_bndE hf
  obtain ⟨S12, e5, hf⟩ := m_bndE hf
  have h_S12 := fra_nO h_S10 e4 e5
  obtain ⟨o15, ho, hf⟩ := m_calE hf
  have h_o15 := fra_t h_S12 (fa_X6_init ho) (by decide)
  clear ho
  obtain ⟨-, hf⟩ := m_chkE hf
  obtain ⟨-, hf⟩ := m_chkE hf
  obtain ⟨S16, e6, hf⟩ := m_bndE hf
  have h_S16 := fra_P h_o15 e6
  obtain ⟨-, hf⟩ := m_chkE hf
  obtain ⟨q17, e7, hf⟩ := m_bndE hf
  obtain ⟨S18, e8, hf⟩ := m_bndE hf
  have h_S18 := fra_nA h_S16 e7 e8
  obtain ⟨-, hf⟩ := m_chkE hf
  obtain ⟨S21, e9, hf⟩ := m_bndE hf
  have h_S21 := fra_P h_S18 e9
  cases hf
  exact h_S21
theorem fa_X8_init {o : Int32 × ZS} {x0 : Nat} {S : ZS}  (hf : d_X8_init x0 S = some o) : FrA [] S o.2 := by
  have h_S : FrA [] S S := fra_0
  unfold d_X8_init at hf
  exact fra_t h_S (fa_X8_init_0  hf) (fun _ h => h)
theorem fa_X5_init_0 {o : Int32 × ZS} {x0 : Nat} {S : ZS}  (hf : d_X5_init_0 x0 S = some o) : FrA [] S o.2 := by
  have h_S : FrA [] S S := fra_0
  unfold d_X5_init_0 at hf
  obtain ⟨q1, e1, hf⟩ := m_bndE hf
  obtain ⟨S2, e2, hf⟩ := m_bndE hf
  have h_S2 := fra_nO h_S e1 e2
  obtain ⟨o5, ho, hf⟩ := m_calE hf
  have h_o5 := fra_t h_S2 (fa_X6_init ho) (by decide)
  clear ho
  obtain ⟨-, hf⟩ := m_chkE hf
  obtain ⟨-, hf⟩ := m_chkE hf
  obtain ⟨S6, e3, hf⟩ := m_bndE hf
  have h_S6 := fra_P h_o5 e3
  obtain ⟨-, hf⟩ := m_chkE hf
  obtain ⟨S7, e4, hf⟩ := m_bndE hf
  have h_S7 := fra_I h_S6 e4
  cases hf
  exact h_S7
theorem fa_X5_init {o : Int32 × ZS} {x0 : Nat} {S : ZS}  (hf : d_X5_init x0 S = some o) : FrA [] S o.2 := by
  have h_S : FrA [] S S := fra_0
  unfold d_X5_init at hf
  exact fra_t h_S (fa_X5_init_0  hf) (fun _ h => h)
theorem fa_X2_init_116s {o : Int32 × ZS} {self116 : Nat → Int32 → ZS → Option (Int32 × ZS)} {x0 : Nat} {x1 : Int32} {S : ZS} (hself116 : ∀ (z0 : Nat) (z1 : Int32) (S : ZS) (o : Int32 × ZS), self116 z0 z1 S = some o → FrA [14] S o.2) (hf : d_X2_init_116s self116 x0 x1 S = some o) : FrA [14] S o.2 := by
  have h_S : FrA [14] S S := fra_0
  unfold d_X2_init_116s at hf
  rcases m_ifE hf with ⟨-, hf⟩ | ⟨-, hf⟩
  ·
    cases hf
    exact h_S
  ·
    obtain ⟨-, hf⟩ := m_chkE hf
    obtain ⟨b1, -, hf⟩ := m_calE hf
    obtain ⟨q2, e1, hf⟩ := m_bndE hf
    obtain ⟨S3, e2, hf⟩ := m_bndE hf
    have h_S3 := fra_nO h_S e1 e2
    obtain ⟨⟨r7, S8⟩, ho, hf⟩ := m_cal2E hf
    have h_S8 := fra_t h_S3 (fa_X0_init ho) (by decide)
    clear ho
    obtain ⟨-, hf⟩ := m_chkE hf
    obtain ⟨-, hf⟩ := m_chkE hf
    obtain ⟨-, hf⟩ := m_chkE hf
    obtain ⟨S11, e3, hf⟩ := m_bndE hf
    have h_S11 := fra_B h_S8 e3
    obtain ⟨-, hf⟩ := m_chkE hf
    obtain ⟨b12, -, hf⟩ := m_calE hf
    obtain ⟨q13, e4, hf⟩ := m_bndE hf
    obtain ⟨S14, e5, hf⟩ := m_bndE hf
    have h_S14 := fra_nO h_S11 e4 e5
    obtain ⟨⟨r18, S19⟩, ho, hf⟩ := m_cal2E hf
    have h_S19 := fra_t h_S14 (fa_X0_init ho) (by decide)
    clear ho
    obtain ⟨-, hf⟩ := m_chkE hf
    obtain ⟨-, hf⟩ := m_chkE hf
    obtain ⟨-, hf⟩ := m_chkE hf
    obtain ⟨S22, e6, hf⟩ := m_bndE hf
    have h_S22 := fra_B h_S19 e6
    obtain ⟨v23, e7, hf⟩ := m_bndE hf
    exact fra_t h_S22 (hself116 _ _ _ _ hf) (fun _ h => h)
theorem fa_X2_init_116   (n : Nat) : ∀ (y0 : Nat) (y1 : Int32) (S : ZS) (o : Int32 × ZS), d_X2_init_116  n y0 y1 S = some o → FrA [14] S o.2 := by
  induction n with
  | zero => intro y0 y1 S o hf; cases hf
  | succ n ih => intro y0 y1 S o hf; exact fa_X2_init_116s  ih hf
theorem fa_X2_init_0 {o : Int32 × ZS} {x0 : Nat} {S : ZS}  (hf : d_X2_init_0 x0 S = some o) : FrA [14] S o.2 := by
  have h_S : FrA [14] S S := fra_0
  unfold d_X2_init_0 at hf
  obtain ⟨q1, e1, hf⟩ := m_bndE hf
  obtain ⟨S2, e2, hf⟩ := m_bndE hf
  have h_S2 := fra_nO h_S e1 e2
  obtain ⟨⟨r6, S7⟩, ho, hf⟩ := m_cal2E hf
  have h_S7 := fra_t h_S2 (fa_X8_init ho) (by decide)
  clear ho
  obtain ⟨-, hf⟩ := m_chkE hf
  obtain ⟨S10, e3, hf⟩ := m_bndE hf
  have h_S10 := fra_P h_S7 e3
  obtain ⟨q11, e4, hf⟩ := m_bndE hf
  obtain ⟨S12, e5, hf⟩ := m_bndE hf
  have h_S12 := fra_nO h_S10 e4 e5
  obtain ⟨⟨r16, S17⟩, ho, hf⟩ := m_cal2E hf
  have h_S17 := fra_t h_S12 (fa_X5_init ho) (by decide)
  clear ho
  obtain ⟨-, hf⟩ := m_chkE hf
  obtain ⟨S20, e6, hf⟩ := m_bndE hf
  have h_S20 := fra_P h_S17 e6
  obtain ⟨q21, e7, hf⟩ := m_bndE hf
  obtain ⟨S22, e8, hf⟩ := m_bndE hf
  have h_S22 := fra_nO h_S20 e7 e8
  obtain ⟨o25, ho, hf⟩ := m_calE hf
  have h_o25 := fra_t h_S22 (fa_X6_init ho) (by decide)
  clear ho
  obtain ⟨-, hf⟩ := m_chkE hf
  obtain ⟨-, hf⟩ := m_chkE hf
  obtain ⟨S26, e9, hf⟩ := m_bndE hf
  have h_S26 := fra_P h_o25 e9
  obtain ⟨q27, e10, hf⟩ := m_bndE hf
  obtain ⟨S28, e11, hf⟩ := m_bndE hf
  have h_S28 := fra_nO h_S26 e10 e11
  obtain ⟨⟨r32, S33⟩, ho, hf⟩ := m_cal2E hf
  have h_S33 := fra_t h_S28 (fa_X1_init ho) (by decide)
  clear ho
  obtain ⟨-, hf⟩ := m_chkE hf
  obtain ⟨S36, e12, hf⟩ := m_bndE hf
  have h_S36 := fra_P h_S33 e12
  obtain ⟨-, hf⟩ := m_chkE hf
  obtain ⟨S37, e13, hf⟩ := m_bndE hf
  have h_S37 := fra_I h_S36 e13
  obtain ⟨-, hf⟩ := m_chkE hf
  obtain ⟨S38, e14, hf⟩ := m_bndE hf
  have h_S38 := fra_I h_S37 e14
  obtain ⟨q39, e15, hf⟩ := m_bndE hf
  obtain ⟨S40, e16, hf⟩ := m_bndE hf
  have h_S40 := fra_nO h_S38 e15 e16
  obtain ⟨o43, ho, hf⟩ := m_calE hf
  have h_o43 := fra_t h_S40 (fa_X6_init ho) (by decide)
  clear ho
  obtain ⟨-, hf⟩ := m_chkE hf
  obtain ⟨-, hf⟩ := m_chkE hf
  obtain ⟨S44, e17, hf⟩ := m_bndE hf
  have h_S44 := fra_P h_o43 e17
  obtain ⟨q45, e18, hf⟩ := m_bndE hf
  obtain ⟨S46, e19, hf⟩ := m_bndE hf
  have h_S46 := fra_nO h_S44 e18 e19
  obtain ⟨o49, ho, hf⟩ := m_calE hf
  have h_o49 := fra_t h_S46 (fa_X6_init ho) (by decide)
  clear ho
  obtain ⟨-, hf⟩ := m_chkE hf
  obtain ⟨-, hf⟩ := m_chkE hf
  obtain ⟨S50, e20, hf⟩ := m_bndE hf
  have h_S50 := fra_P h_o49 e20
  obtain ⟨-, hf⟩ := m_chkE hf
  obtain ⟨q51, e21, hf⟩ := m_bndE hf
  obtain ⟨S52, e22, hf⟩ := m_bndE hf
  have h_S52 := fra_nA h_S50 e21 e22
  obtain ⟨-, hf⟩ := m_chkE hf
  obtain ⟨S55, e23, hf⟩ := m_bndE hf
  have h_S55 := fra_P h_S52 e23
  obtain ⟨-, hf⟩ := m_chkE hf
  obtain ⟨q56, e24, hf⟩ := m_bndE hf
  obtain ⟨S57, e25, hf⟩ := m_bndE hf
  have h_S57 := fra_nA h_S55 e24 e25
  obtain ⟨-, hf⟩ := m_chkE hf
  obtain ⟨S60, e26, hf⟩ := m_bndE hf
  have h_S60 := fra_P h_S57 e26
  obtain ⟨-, hf⟩ := m_chkE hf
  obtain ⟨q61, e27, hf⟩ := m_bndE hf
  obtain ⟨S62, e28, hf⟩ := m_bndE hf
  have h_S62 := fra_nA h_S60 e27 e28
  obtain ⟨-, hf⟩ := m_chkE hf
  obtain ⟨S65, e29, hf⟩ := m_bndE hf
  have h_S65 := fra_P h_S62 e29
  obtain ⟨-, hf⟩ := m_chkE hf
  obtain ⟨q66, e30, hf⟩ := m_bndE hf
  obtain ⟨S67, e31, hf⟩ := m_bndE hf
  have h_S67 := fra_nA h_S65 e30 e31
  obtain ⟨-, hf⟩ := m_chkE hf
  obtain ⟨S70, e32, hf⟩ := m_bndE hf
  have h_S70 := fra_P h_S67 e32
  exact fra_t h_S70 (fa_X2_init_116  _ _ _ _ _ hf) (fun _ h => h)
theorem fa_X2_init {o : Int32 × ZS} {x0 : Nat} {S : ZS}  (hf : d_X2_init x0 S = some o) : FrA [14] S o.2 := by
  have h_S : FrA [14] S S := fra_0
  unfold d_X2_init at hf
  exact fra_t h_S (fa_X2_init_0  hf) (fun _ h => h)
theorem fa_X2_readName_128 {o : Int32 × ZS} {t0 : Int32} {S : ZS}  (hf : d_X2_readName_128 t0 S = some o) : FrA [13] S o.2 := by
  have h_S : FrA [13] S S := fra_0
  unfold d_X2_readName_128 at hf
  obtain ⟨-, hf⟩ := m_chkE hf
  cases hf
  exact h_S
theorem fa_X2_readName_123 {o : Int32 × ZS} {S : ZS}  (hf : d_X2_readName_123 S = some o) : FrA [13] S o.2 := by
  have h_S : FrA [13] S S := fra_0
  unfold d_X2_readName_123 at hf
  exact fra_t h_S (fa_X2_readName_128  hf) (fun _ h => h)
theorem fa_X2_readName_101 {o : Int32 × ZS} {x0 : Nat} {S : ZS}  (hf : d_X2_readName_101 x0 S = some o) : FrA [13] S o.2 := by
  have h_S : FrA [13] S S := fra_0
  unfold d_X2_readName_101 at hf
  obtain ⟨-, hf⟩ := m_chkE hf
  obtain ⟨b1, -, hf⟩ := m_calE hf
  obtain ⟨-, hf⟩ := m_chkE hf
  obtain ⟨o2, ho, hf⟩ := m_calE hf
  have h_o2 := fra_t h_S (fa_X6_size ho) (by decide)
  clear ho
  obtain ⟨-, hf⟩ := m_chkE hf
  rcases m_ifE hf with ⟨-, hf⟩ | ⟨-, hf⟩
  ·
    exact fra_t h_o2 (fa_X2_readName_123  hf) (fun _ h => h)
  ·
    obtain ⟨-, hf⟩ := m_chkE hf
    obtain ⟨-, hf⟩ := m_chkE hf
    obtain ⟨o3, ho, hf⟩ := m_calE hf
    have h_o3 := fra_t h_o2 (fa_X2_refuse ho) (by decide)
    clear ho
    obtain ⟨-, hf⟩ := m_chkE hf
    rcases m_ifE hf with ⟨-, hf⟩ | ⟨-, hf⟩
    ·
      exact fra_t h_o3 (fa_X2_readName_128  hf) (fun _ h => h)
    ·
      exact fra_t h_o3 (fa_X2_readName_123  hf) (fun _ h => h)
theorem fa_X2_readName_70 {o : Int32 × ZS} {self22 : Nat → ZS → Option (Int32 × ZS)} {x0 : Nat} {S : ZS} (hself22 : ∀ (z0 : Nat) (S : ZS) (o : Int32 × ZS), self22 z0 S = some o → FrA [13] S o.2) (hf : d_X2_readName_70 self22 x0 S = some o) : FrA [13] S o.2 := by
  have h_S : FrA [13] S S := fra_0
  unfold d_X2_readName_70 at hf
  obtain ⟨-, hf⟩ := m_chkE hf
  obtain ⟨b1, -, hf⟩ := m_calE hf
  obtain ⟨-, hf⟩ := m_chkE hf
  obtain ⟨b2, -, hf⟩ := m_calE hf
  obtain ⟨-, hf⟩ := m_chkE hf
  obtain ⟨-, hf⟩ := m_chkE hf
  obtain ⟨o3, ho, hf⟩ := m_calE hf
  have h_o3 := fra_t h_S (fa_X6_at ho) (by decide)
  clear ho
  obtain ⟨-, hf⟩ := m_chkE hf
  obtain ⟨-, hf⟩ := m_chkE hf
  obtain ⟨⟨r5, S6⟩, ho, hf⟩ := m_cal2E hf
  have h_S6 := fra_t h_o3 (fa_X6_put ho) (by decide)
  clear ho
  obtain ⟨-, hf⟩ := m_chkE hf
  obtain ⟨v9, e1, hf⟩ := m_bndE hf
  obtain ⟨-, hf⟩ := m_chkE hf
  obtain ⟨S10, e2, hf⟩ := m_bndE hf
  have h_S10 := fra_I h_S6 e2
  exact fra_t h_S10 (hself22 _ _ _ hf) (fun _ h => h)
theorem fa_X2_readName_22s {o : Int32 × ZS} {self22 : Nat → ZS → Option (Int32 × ZS)} {x0 : Nat} {S : ZS} (hself22 : ∀ (z0 : Nat) (S : ZS) (o : Int32 × ZS), self22 z0 S = some o → FrA [13] S o.2) (hf : d_X2_readName_22s self22 x0 S = some o) : FrA [13] S o.2 := by
  have h_S : FrA [13] S S := fra_0
  unfold d_X2_readName_22s at hf
  obtain ⟨-, hf⟩ := m_chkE hf
  obtain ⟨-, hf⟩ := m_chkE hf
  obtain ⟨b1, -, hf⟩ := m_calE hf
  obtain ⟨-, hf⟩ := m_chkE hf
  obtain ⟨o2, ho, hf⟩ := m_calE hf
  have h_o2 := fra_t h_S (fa_X6_size ho) (by decide)
  clear ho
  obtain ⟨-, hf⟩ := m_chkE hf
  rcases m_ifE hf with ⟨-, hf⟩ | ⟨-, hf⟩
  ·
    exact fra_t h_o2 (fa_X2_readName_101  hf) (fun _ h => h)
  ·
    obtain ⟨-, hf⟩ := m_chkE hf
    obtain ⟨b3, -, hf⟩ := m_calE hf
    obtain ⟨-, hf⟩ := m_chkE hf
    obtain ⟨-, hf⟩ := m_chkE hf
    obtain ⟨o4, ho, hf⟩ := m_calE hf
    have h_o4 := fra_t h_o2 (fa_X6_at ho) (by decide)
    clear ho
    obtain ⟨-, hf⟩ := m_chkE hf
    obtain ⟨o5, ho, hf⟩ := m_calE hf
    have h_o5 := fra_t h_o4 (fa_X11_isLetter ho) (by decide)
    clear ho
    obtain ⟨-, hf⟩ := m_chkE hf
    rcases m_ifE hf with ⟨-, hf⟩ | ⟨-, hf⟩
    ·
      obtain ⟨-, hf⟩ := m_chkE hf
      obtain ⟨b6, -, hf⟩ := m_calE hf
      obtain ⟨-, hf⟩ := m_chkE hf
      obtain ⟨-, hf⟩ := m_chkE hf
      obtain ⟨o7, ho, hf⟩ := m_calE hf
      have h_o7 := fra_t h_o5 (fa_X6_at ho) (by decide)
      clear ho
      obtain ⟨-, hf⟩ := m_chkE hf
      obtain ⟨o8, ho, hf⟩ := m_calE hf
      have h_o8 := fra_t h_o7 (fa_X11_isDigit ho) (by decide)
      clear ho
      obtain ⟨-, hf⟩ := m_chkE hf
      rcases m_ifE hf with ⟨-, hf⟩ | ⟨-, hf⟩
      ·
        exact fra_t h_o8 (fa_X2_readName_101  hf) (fun _ h => h)
      ·
        exact fra_t h_o8 (fa_X2_readName_70 hself22 hf) (fun _ h => h)
    ·
      exact fra_t h_o5 (fa_X2_readName_70 hself22 hf) (fun _ h => h)
theorem fa_X2_readName_22   (n : Nat) : ∀ (y0 : Nat) (S : ZS) (o : Int32 × ZS), d_X2_readName_22  n y0 S = some o → FrA [13] S o.2 := by
  induction n with
  | zero => intro y0 S o hf; cases hf
  | succ n ih => intro y0 S o hf; exact fa_X2_readName_22s  ih hf
theorem fa_X2_readName_0 {o : Int32 × ZS} {x0 : Nat} {S : ZS}  (hf : d_X2_readName_0 x0 S = some o) : FrA [13] S o.2 := by
  have h_S : FrA [13] S S := fra_0
  unfold d_X2_readName_0 at hf
  obtain ⟨-, hf⟩ := m_chkE hf
  obtain ⟨v1, e1, hf⟩ := m_bndE hf
  obtain ⟨-, hf⟩ := m_chkE hf
  obtain ⟨S2, e2, hf⟩ := m_bndE hf
  have h_S2 := fra_I h_S e2
  obtain ⟨-, hf⟩ := m_chkE hf
  obtain ⟨o3, ho, hf⟩ := m_calE hf
  have h_o3 := fra_t h_S2 (fa_X2_skipBlanks ho) (by decide)
  clear ho
  obtain ⟨-, hf⟩ := m_chkE hf
  obtain ⟨-, hf⟩ := m_chkE hf
  obtain ⟨b4, -, hf⟩ := m_calE hf
  obtain ⟨-, hf⟩ := m_chkE hf
  obtain ⟨o5, ho, hf⟩ := m_calE hf
  have h_o5 := fra_t h_o3 (fa_X6_keep ho) (by decide)
  clear ho
  obtain ⟨-, hf⟩ := m_chkE hf
  exact fra_t h_o5 (fa_X2_readName_22  _ _ _ _ hf) (fun _ h => h)
theorem fa_X2_readName {o : Int32 × ZS} {x0 : Nat} {S : ZS}  (hf : d_X2_readName x0 S = some o) : FrA [13] S o.2 := by
  have h_S : FrA [13] S S := fra_0
  unfold d_X2_readName at hf
  exact fra_t h_S (fa_X2_readName_0  hf) (fun _ h => h)
theorem fa_X2_readValue_142 {o : Int32 × ZS} {self48 : Nat → ZS → Option (Int32 × ZS)} {x0 : Nat} {x1 : Int32} {S : ZS} (hself48 : ∀ (z0 : Nat) (S : ZS) (o : Int32 × ZS), self48 z0 S = some o → FrA [13] S o.2) (hf : d_X2_readValue_142 self48 x0 x1 S = some o) : FrA [13] S o.2 := by
  have h_S : FrA [13] S S := fra_0
  unfold d_X2_readValue_142 at hf
  rcases m_ifE hf with ⟨-, hf⟩ | ⟨-, hf⟩
  ·
    obtain ⟨-, hf⟩ := m_chkE hf
    obtain ⟨-, hf⟩ := m_chkE hf
    obtain ⟨o9, ho, hf⟩ := m_calE hf
    have h_o9 := fra_t h_S (fa_X2_refuse ho) (by decide)
    clear ho
    obtain ⟨-, hf⟩ := m_chkE hf
    obtain ⟨-, hf⟩ := m_chkE hf
    cases hf
    exact h_o9
  ·
    obtain ⟨-, hf⟩ := m_chkE hf
    obtain ⟨b1, -, hf⟩ := m_calE hf
    obtain ⟨-, hf⟩ := m_chkE hf
    obtain ⟨⟨r3, S4⟩, ho, hf⟩ := m_cal2E hf
    have h_S4 := fra_t h_S (fa_X6_put ho) (by decide)
    clear ho
    obtain ⟨-, hf⟩ := m_chkE hf
    obtain ⟨v7, e1, hf⟩ := m_bndE hf
    obtain ⟨-, hf⟩ := m_chkE hf
    obtain ⟨S8, e2, hf⟩ := m_bndE hf
    have h_S8 := fra_I h_S4 e2
    exact fra_t h_S8 (hself48 _ _ _ hf) (fun _ h => h)
theorem fa_X2_readValue_48s {o : Int32 × ZS} {self48 : Nat → ZS → Option (Int32 × ZS)} {x0 : Nat} {S : ZS} (hself48 : ∀ (z0 : Nat) (S : ZS) (o : Int32 × ZS), self48 z0 S = some o → FrA [13] S o.2) (hf : d_X2_readValue_48s self48 x0 S = some o) : FrA [13] S o.2 := by
  have h_S : FrA [13] S S := fra_0
  unfold d_X2_readValue_48s at hf
  obtain ⟨-, hf⟩ := m_chkE hf
  obtain ⟨-, hf⟩ := m_chkE hf
  obtain ⟨b1, -, hf⟩ := m_calE hf
  obtain ⟨-, hf⟩ := m_chkE hf
  obtain ⟨o2, ho, hf⟩ := m_calE hf
  have h_o2 := fra_t h_S (fa_X6_size ho) (by decide)
  clear ho
  obtain ⟨-, hf⟩ := m_chkE hf
  rcases m_ifE hf with ⟨-, hf⟩ | ⟨-, hf⟩
  ·
    obtain ⟨-, hf⟩ := m_chkE hf
    obtain ⟨-, hf⟩ := m_chkE hf
    obtain ⟨o3, ho, hf⟩ := m_calE hf
    have h_o3 := fra_t h_o2 (fa_X2_refuse ho) (by decide)
    clear ho
    obtain ⟨-, hf⟩ := m_chkE hf
    obtain ⟨-, hf⟩ := m_chkE hf
    cases hf
    exact h_o3
  ·
    obtain ⟨-, hf⟩ := m_chkE hf
    obtain ⟨b4, -, hf⟩ := m_calE hf
    obtain ⟨-, hf⟩ := m_chkE hf
    obtain ⟨-, hf⟩ := m_chkE hf
    obtain ⟨o5, ho, hf⟩ := m_calE hf
    have h_o5 := fra_t h_o2 (fa_X6_at ho) (by decide)
    clear ho
    obtain ⟨-, hf⟩ := m_chkE hf
    rcases m_ifE hf with ⟨-, hf⟩ | ⟨-, hf⟩
    ·
      obtain ⟨-, hf⟩ := m_chkE hf
      obtain ⟨v11, e1, hf⟩ := m_bndE hf
      obtain ⟨-, hf⟩ := m_chkE hf
      obtain ⟨S12, e2, hf⟩ := m_bndE hf
      have h_S12 := fra_I h_o5 e2
      obtain ⟨-, hf⟩ := m_chkE hf
      cases hf
      exact h_S12
    ·
      rcases m_ifE hf with ⟨-, hf⟩ | ⟨-, hf⟩
      ·
        obtain ⟨-, hf⟩ := m_chkE hf
        obtain ⟨v6, e3, hf⟩ := m_bndE hf
        obtain ⟨-, hf⟩ := m_chkE hf
        obtain ⟨S7, e4, hf⟩ := m_bndE hf
        have h_S7 := fra_I h_o5 e4
        obtain ⟨-, hf⟩ := m_chkE hf
        obtain ⟨b8, -, hf⟩ := m_calE hf
        obtain ⟨-, hf⟩ := m_chkE hf
        obtain ⟨-, hf⟩ := m_chkE hf
        obtain ⟨o9, ho, hf⟩ := m_calE hf
        have h_o9 := fra_t h_S7 (fa_X6_at ho) (by decide)
        clear ho
        obtain ⟨-, hf⟩ := m_chkE hf
        rcases m_ifE hf with ⟨-, hf⟩ | ⟨-, hf⟩
        ·
          exact fra_t h_o9 (fa_X2_readValue_142 hself48 hf) (fun _ h => h)
        ·
          rcases m_ifE hf with ⟨-, hf⟩ | ⟨-, hf⟩
          ·
            exact fra_t h_o9 (fa_X2_readValue_142 hself48 hf) (fun _ h => h)
          ·
            obtain ⟨-, hf⟩ := m_chkE hf
            obtain ⟨-, hf⟩ := m_chkE hf
            obtain ⟨o10, ho, hf⟩ := m_calE hf
            have h_o10 := fra_t h_o9 (fa_X2_refuse ho) (by decide)
            clear ho
            obtain ⟨-, hf⟩ := m_chkE hf
            obtain ⟨-, hf⟩ := m_chkE hf
            cases hf
            exact h_o10
      ·
        exact fra_t h_o5 (fa_X2_readValue_142 hself48 hf) (fun _ h => h)
theorem fa_X2_readValue_48   (n : Nat) : ∀ (y0 : Nat) (S : ZS) (o : Int32 × ZS), d_X2_readValue_48  n y0 S = some o → FrA [13] S o.2 := by
  induction n with
  | zero => intro y0 S o hf; cases hf
  | succ n ih => intro y0 S o hf; exact fa_X2_readValue_48s  ih hf
theorem fa_X2_readValue_0 {o : Int32 × ZS} {x0 : Nat} {S : ZS}  (hf : d_X2_readValue_0 x0 S = some o) : FrA [13] S o.2 := by
  have h_S : FrA [13] S S := fra_0
  unfold d_X2_readValue_0 at hf
  obtain ⟨-, hf⟩ := m_chkE hf
  obtain ⟨o1, ho, hf⟩ := m_calE hf
  have h_o1 := fra_t h_S (fa_X2_skipBlanks ho) (by decide)
  clear ho
  obtain ⟨-, hf⟩ := m_chkE hf
  obtain ⟨-, hf⟩ := m_chkE hf
  obtain ⟨b2, -, hf⟩ := m_calE hf
  obtain ⟨-, hf⟩ := m_chkE hf
  obtain ⟨-, hf⟩ := m_chkE hf
  obtain ⟨o3, ho, hf⟩ := m_calE hf
  have h_o3 := fra_t h_o1 (fa_X6_at ho) (by decide)
  clear ho
  obtain ⟨-, hf⟩ := m_chkE hf
  rcases m_ifE hf with ⟨-, hf⟩ | ⟨-, hf⟩
  ·
    obtain ⟨-, hf⟩ := m_chkE hf
    obtain ⟨b4, -, hf⟩ := m_calE hf
    obtain ⟨-, hf⟩ := m_chkE hf
    obtain ⟨o5, ho, hf⟩ := m_calE hf
    have h_o5 := fra_t h_o3 (fa_X6_keep ho) (by decide)
    clear ho
    obtain ⟨-, hf⟩ := m_chkE hf
    obtain ⟨-, hf⟩ := m_chkE hf
    obtain ⟨v6, e1, hf⟩ := m_bndE hf
    obtain ⟨-, hf⟩ := m_chkE hf
    obtain ⟨S7, e2, hf⟩ := m_bndE hf
    have h_S7 := fra_I h_o5 e2
    exact fra_t h_S7 (fa_X2_readValue_48  _ _ _ _ hf) (fun _ h => h)
  ·
    obtain ⟨-, hf⟩ := m_chkE hf
    obtain ⟨-, hf⟩ := m_chkE hf
    obtain ⟨o8, ho, hf⟩ := m_calE hf
    have h_o8 := fra_t h_o3 (fa_X2_refuse ho) (by decide)
    clear ho
    obtain ⟨-, hf⟩ := m_chkE hf
    obtain ⟨-, hf⟩ := m_chkE hf
    cases hf
    exact h_o8
theorem fa_X2_readValue {o : Int32 × ZS} {x0 : Nat} {S : ZS}  (hf : d_X2_readValue x0 S = some o) : FrA [13] S o.2 := by
  have h_S : FrA [13] S S := fra_0
  unfold d_X2_readValue at hf
  exact fra_t h_S (fa_X2_readValue_0  hf) (fun _ h => h)
theorem fa_X2_readTag_19 {o : Int32 × ZS} {S : ZS}  (hf : d_X2_readTag_19 S = some o) : FrA [13, 14] S o.2 := by
  have h_S : FrA [13, 14] S S := fra_0
  unfold d_X2_readTag_19 at hf
  obtain ⟨-, hf⟩ := m_chkE hf
  cases hf
  exact h_S
theorem fa_X2_readTag_111 {o : Int32 × ZS} {x0 : Nat} {x1 : Int32} {S : ZS}  (hf : d_X2_readTag_111 x0 x1 S = some o) : FrA [13, 14] S o.2 := by
  have h_S : FrA [13, 14] S S := fra_0
  unfold d_X2_readTag_111 at hf
  obtain ⟨-, hf⟩ := m_chkE hf
  obtain ⟨o1, ho, hf⟩ := m_calE hf
  have h_o1 := fra_t h_S (fa_X2_refuse ho) (by decide)
  clear ho
  obtain ⟨-, hf⟩ := m_chkE hf
  obtain ⟨-, hf⟩ := m_chkE hf
  cases hf
  exact h_o1
theorem fa_X2_readTag_158 {o : Int32 × ZS} {x0 : Nat} {S : ZS}  (hf : d_X2_readTag_158 x0 S = some o) : FrA [13, 14] S o.2 := by
  have h_S : FrA [13, 14] S S := fra_0
  unfold d_X2_readTag_158 at hf
  obtain ⟨-, hf⟩ := m_chkE hf
  obtain ⟨b1, -, hf⟩ := m_calE hf
  obtain ⟨-, hf⟩ := m_chkE hf
  obtain ⟨b2, -, hf⟩ := m_calE hf
  obtain ⟨-, hf⟩ := m_chkE hf
  obtain ⟨b3, -, hf⟩ := m_calE hf
  obtain ⟨-, hf⟩ := m_chkE hf
  obtain ⟨⟨r5, S6⟩, ho, hf⟩ := m_cal2E hf
  have h_S6 := fra_t h_S (fa_X1_putTag ho) (by decide)
  clear ho
  obtain ⟨-, hf⟩ := m_chkE hf
  cases hf
  exact h_S6
theorem fa_X2_readTag_0 {o : Int32 × ZS} {x0 : Nat} {S : ZS}  (hf : d_X2_readTag_0 x0 S = some o) : FrA [13, 14] S o.2 := by
  have h_S : FrA [13, 14] S S := fra_0
  unfold d_X2_readTag_0 at hf
  obtain ⟨-, hf⟩ := m_chkE hf
  obtain ⟨-, hf⟩ := m_chkE hf
  obtain ⟨⟨r2, S3⟩, ho, hf⟩ := m_cal2E hf
  have h_S3 := fra_t h_S (fa_X2_readName ho) (by decide)
  clear ho
  rcases m_ifE hf with ⟨-, hf⟩ | ⟨-, hf⟩
  ·
    exact fra_t h_S3 (fa_X2_readTag_19  hf) (fun _ h => h)
  ·
    obtain ⟨-, hf⟩ := m_chkE hf
    obtain ⟨⟨r7, S8⟩, ho, hf⟩ := m_cal2E hf
    have h_S8 := fra_t h_S3 (fa_X2_readValue ho) (by decide)
    clear ho
    rcases m_ifE hf with ⟨-, hf⟩ | ⟨-, hf⟩
    ·
      exact fra_t h_S8 (fa_X2_readTag_19  hf) (fun _ h => h)
    ·
      obtain ⟨-, hf⟩ := m_chkE hf
      obtain ⟨o11, ho, hf⟩ := m_calE hf
      have h_o11 := fra_t h_S8 (fa_X2_skipBlanks ho) (by decide)
      clear ho
      obtain ⟨-, hf⟩ := m_chkE hf
      obtain ⟨-, hf⟩ := m_chkE hf
      obtain ⟨b12, -, hf⟩ := m_calE hf
      obtain ⟨-, hf⟩ := m_chkE hf
      obtain ⟨-, hf⟩ := m_chkE hf
      obtain ⟨o13, ho, hf⟩ := m_calE hf
      have h_o13 := fra_t h_o11 (fa_X6_at ho) (by decide)
      clear ho
      obtain ⟨-, hf⟩ := m_chkE hf
      rcases m_ifE hf with ⟨-, hf⟩ | ⟨-, hf⟩
      ·
        obtain ⟨-, hf⟩ := m_chkE hf
        obtain ⟨v14, e1, hf⟩ := m_bndE hf
        obtain ⟨-, hf⟩ := m_chkE hf
        obtain ⟨S15, e2, hf⟩ := m_bndE hf
        have h_S15 := fra_I h_o13 e2
        obtain ⟨-, hf⟩ := m_chkE hf
        obtain ⟨b16, -, hf⟩ := m_calE hf
        obtain ⟨-, hf⟩ := m_chkE hf
        rcases m_ifE hf with ⟨-, hf⟩ | ⟨-, hf⟩
        ·
          exact fra_t h_S15 (fa_X2_readTag_111  hf) (fun _ h => h)
        ·
          obtain ⟨-, hf⟩ := m_chkE hf
          obtain ⟨b17, -, hf⟩ := m_calE hf
          obtain ⟨-, hf⟩ := m_chkE hf
          obtain ⟨o18, ho, hf⟩ := m_calE hf
          have h_o18 := fra_t h_S15 (fa_X6_size ho) (by decide)
          clear ho
          obtain ⟨-, hf⟩ := m_chkE hf
          rcases m_ifE hf with ⟨-, hf⟩ | ⟨-, hf⟩
          ·
            exact fra_t h_o18 (fa_X2_readTag_111  hf) (fun _ h => h)
          ·
            obtain ⟨-, hf⟩ := m_chkE hf
            obtain ⟨b19, -, hf⟩ := m_calE hf
            obtain ⟨-, hf⟩ := m_chkE hf
            obtain ⟨b20, -, hf⟩ := m_calE hf
            obtain ⟨-, hf⟩ := m_chkE hf
            obtain ⟨⟨r22, S23⟩, ho, hf⟩ := m_cal2E hf
            have h_S23 := fra_t h_o18 (fa_X1_hasTag ho) (by decide)
            clear ho
            rcases m_ifE hf with ⟨-, hf⟩ | ⟨-, hf⟩
            ·
              obtain ⟨-, hf⟩ := m_chkE hf
              obtain ⟨b26, -, hf⟩ := m_calE hf
              obtain ⟨-, hf⟩ := m_chkE hf
              obtain ⟨o27, ho, hf⟩ := m_calE hf
              have h_o27 := fra_t h_S23 (fa_X6_size ho) (by decide)
              clear ho
              obtain ⟨-, hf⟩ := m_chkE hf
              rcases m_ifE hf with ⟨-, hf⟩ | ⟨-, hf⟩
              ·
                obtain ⟨-, hf⟩ := m_chkE hf
                obtain ⟨b28, -, hf⟩ := m_calE hf
                obtain ⟨-, hf⟩ := m_chkE hf
                obtain ⟨o29, ho, hf⟩ := m_calE hf
                have h_o29 := fra_t h_o27 (fa_X6_is ho) (by decide)
                clear ho
                obtain ⟨-, hf⟩ := m_chkE hf
                rcases m_ifE hf with ⟨-, hf⟩ | ⟨-, hf⟩
                ·
                  exact fra_t h_o29 (fa_X2_readTag_158  hf) (fun _ h => h)
                ·
                  obtain ⟨-, hf⟩ := m_chkE hf
                  obtain ⟨b30, -, hf⟩ := m_calE hf
                  obtain ⟨-, hf⟩ := m_chkE hf
                  obtain ⟨b31, -, hf⟩ := m_calE hf
                  obtain ⟨-, hf⟩ := m_chkE hf
                  obtain ⟨b32, -, hf⟩ := m_calE hf
                  obtain ⟨-, hf⟩ := m_chkE hf
                  obtain ⟨b33, -, hf⟩ := m_calE hf
                  obtain ⟨-, hf⟩ := m_chkE hf
                  obtain ⟨o34, ho, hf⟩ := m_calE hf
                  have h_o34 := fra_t h_o29 (fa_X5_readInto ho) (by decide)
                  clear ho
                  obtain ⟨-, hf⟩ := m_chkE hf
                  rcases m_ifE hf with ⟨-, hf⟩ | ⟨-, hf⟩
                  ·
                    obtain ⟨-, hf⟩ := m_chkE hf
                    obtain ⟨o35, ho, hf⟩ := m_calE hf
                    have h_o35 := fra_t h_o34 (fa_X2_refuse ho) (by decide)
                    clear ho
                    obtain ⟨-, hf⟩ := m_chkE hf
                    obtain ⟨-, hf⟩ := m_chkE hf
                    cases hf
                    exact h_o35
                  ·
                    exact fra_t h_o34 (fa_X2_readTag_158  hf) (fun _ h => h)
              ·
                exact fra_t h_o27 (fa_X2_readTag_111  hf) (fun _ h => h)
            ·
              exact fra_t h_S23 (fa_X2_readTag_111  hf) (fun _ h => h)
      ·
        obtain ⟨-, hf⟩ := m_chkE hf
        obtain ⟨-, hf⟩ := m_chkE hf
        obtain ⟨o36, ho, hf⟩ := m_calE hf
        have h_o36 := fra_t h_o13 (fa_X2_refuse ho) (by decide)
        clear ho
        obtain ⟨-, hf⟩ := m_chkE hf
        obtain ⟨-, hf⟩ := m_chkE hf
        cases hf
        exact h_o36
theorem fa_X2_readTag {o : Int32 × ZS} {x0 : Nat} {S : ZS}  (hf : d_X2_readTag x0 S = some o) : FrA [13, 14] S o.2 := by
  have h_S : FrA [13, 14] S S := fra_0
  unfold d_X2_readTag at hf
  exact fra_t h_S (fa_X2_readTag_0  hf) (fun _ h => h)
theorem fa_X4_joinRemark_96 {o : Int32 × ZS} {self64 : Nat → Nat → Int32 → Int32 → ZS → Option (Int32 × ZS)} {x0 : Nat} {x1 : Nat} {x3 : Int32} {x5 : Int32} {t0 : Int32} {t1 : Nat} {S : ZS} (hself64 : ∀ (z0 : Nat) (z1 : Nat) (z2 : Int32) (z3 : Int32) (S : ZS) (o : Int32 × ZS), self64 z0 z1 z2 z3 S = some o → FrA [13] S o.2) (hf : d_X4_joinRemark_96 self64 x0 x1 x3 x5 t0 t1 S = some o) : FrA [13] S o.2 := by
  have h_S : FrA [13] S S := fra_0
  unfold d_X4_joinRemark_96 at hf
  obtain ⟨-, hf⟩ := m_chkE hf
  obtain ⟨⟨r2, S3⟩, ho, hf⟩ := m_cal2E hf
  have h_S3 := fra_t h_S (fa_X6_put ho) (by decide)
  clear ho
  obtain ⟨v6, e1, hf⟩ := m_bndE hf
  exact fra_t h_S3 (hself64 _ _ _ _ _ _ hf) (fun _ h => h)
theorem fa_X4_joinRemark_64s {o : Int32 × ZS} {self64 : Nat → Nat → Int32 → Int32 → ZS → Option (Int32 × ZS)} {x0 : Nat} {x1 : Nat} {x3 : Int32} {x5 : Int32} {S : ZS} (hself64 : ∀ (z0 : Nat) (z1 : Nat) (z2 : Int32) (z3 : Int32) (S : ZS) (o : Int32 × ZS), self64 z0 z1 z2 z3 S = some o → FrA [13] S o.2) (hf : d_X4_joinRemark_64s self64 x0 x1 x3 x5 S = some o) : FrA [13] S o.2 := by
  have h_S : FrA [13] S S := fra_0
  unfold d_X4_joinRemark_64s at hf
  rcases m_ifE hf with ⟨-, hf⟩ | ⟨-, hf⟩
  ·
    obtain ⟨-, hf⟩ := m_chkE hf
    cases hf
    exact h_S
  ·
    obtain ⟨-, hf⟩ := m_chkE hf
    obtain ⟨b1, -, hf⟩ := m_calE hf
    obtain ⟨-, hf⟩ := m_chkE hf
    obtain ⟨o2, ho, hf⟩ := m_calE hf
    have h_o2 := fra_t h_S (fa_X6_at ho) (by decide)
    clear ho
    obtain ⟨-, hf⟩ := m_chkE hf
    rcases m_ifE hf with ⟨-, hf⟩ | ⟨-, hf⟩
    ·
      exact fra_t h_o2 (fa_X4_joinRemark_96 hself64 hf) (fun _ h => h)
    ·
      obtain ⟨-, hf⟩ := m_chkE hf
      obtain ⟨o3, ho, hf⟩ := m_calE hf
      have h_o3 := fra_t h_o2 (fa_X6_at ho) (by decide)
      clear ho
      obtain ⟨-, hf⟩ := m_chkE hf
      exact fra_t h_o3 (fa_X4_joinRemark_96 hself64 hf) (fun _ h => h)
theorem fa_X4_joinRemark_64   (n : Nat) : ∀ (y0 : Nat) (y1 : Nat) (y2 : Int32) (y3 : Int32) (S : ZS) (o : Int32 × ZS), d_X4_joinRemark_64  n y0 y1 y2 y3 S = some o → FrA [13] S o.2 := by
  induction n with
  | zero => intro y0 y1 y2 y3 S o hf; cases hf
  | succ n ih => intro y0 y1 y2 y3 S o hf; exact fa_X4_joinRemark_64s  ih hf
theorem fa_X4_joinRemark_61 {o : Int32 × ZS} {x0 : Nat} {x1 : Nat} {x2 : Int32} {x3 : Int32} {S : ZS}  (hf : d_X4_joinRemark_61 x0 x1 x2 x3 S = some o) : FrA [13] S o.2 := by
  have h_S : FrA [13] S S := fra_0
  unfold d_X4_joinRemark_61 at hf
  exact fra_t h_S (fa_X4_joinRemark_64  _ _ _ _ _ _ _ hf) (fun _ h => h)
theorem fa_X4_joinRemark_22 {o : Int32 × ZS} {x0 : Nat} {x1 : Nat} {x2 : Int32} {x3 : Int32} {t0 : Int32} {S : ZS}  (hf : d_X4_joinRemark_22 x0 x1 x2 x3 t0 S = some o) : FrA [13] S o.2 := by
  have h_S : FrA [13] S S := fra_0
  unfold d_X4_joinRemark_22 at hf
  obtain ⟨-, hf⟩ := m_chkE hf
  obtain ⟨b1, -, hf⟩ := m_calE hf
  obtain ⟨-, hf⟩ := m_chkE hf
  obtain ⟨o2, ho, hf⟩ := m_calE hf
  have h_o2 := fra_t h_S (fa_X6_size ho) (by decide)
  clear ho
  obtain ⟨-, hf⟩ := m_chkE hf
  obtain ⟨v3, e1, hf⟩ := m_bndE hf
  obtain ⟨v4, e2, hf⟩ := m_bndE hf
  obtain ⟨v5, e3, hf⟩ := m_bndE hf
  rcases m_ifE hf with ⟨-, hf⟩ | ⟨-, hf⟩
  ·
    rcases m_ifE hf with ⟨-, hf⟩ | ⟨-, hf⟩
    ·
      obtain ⟨-, hf⟩ := m_chkE hf
      obtain ⟨b6, -, hf⟩ := m_calE hf
      obtain ⟨-, hf⟩ := m_chkE hf
      obtain ⟨⟨r8, S9⟩, ho, hf⟩ := m_cal2E hf
      have h_S9 := fra_t h_o2 (fa_X6_put ho) (by decide)
      clear ho
      exact fra_t h_S9 (fa_X4_joinRemark_61  hf) (fun _ h => h)
    ·
      exact fra_t h_o2 (fa_X4_joinRemark_61  hf) (fun _ h => h)
  ·
    obtain ⟨-, hf⟩ := m_chkE hf
    cases hf
    exact h_o2
theorem fa_X4_joinRemark_0 {o : Int32 × ZS} {x0 : Nat} {x1 : Nat} {x2 : Int32} {x3 : Int32} {S : ZS}  (hf : d_X4_joinRemark_0 x0 x1 x2 x3 S = some o) : FrA [13] S o.2 := by
  have h_S : FrA [13] S S := fra_0
  unfold d_X4_joinRemark_0 at hf
  rcases m_ifE hf with ⟨-, hf⟩ | ⟨-, hf⟩
  ·
    obtain ⟨-, hf⟩ := m_chkE hf
    obtain ⟨b1, -, hf⟩ := m_calE hf
    obtain ⟨-, hf⟩ := m_chkE hf
    obtain ⟨o2, ho, hf⟩ := m_calE hf
    have h_o2 := fra_t h_S (fa_X6_size ho) (by decide)
    clear ho
    obtain ⟨-, hf⟩ := m_chkE hf
    rcases m_ifE hf with ⟨-, hf⟩ | ⟨-, hf⟩
    ·
      exact fra_t h_o2 (fa_X4_joinRemark_22  hf) (fun _ h => h)
    ·
      exact fra_t h_o2 (fa_X4_joinRemark_22  hf) (fun _ h => h)
  ·
    obtain ⟨-, hf⟩ := m_chkE hf
    cases hf
    exact h_S
theorem fa_X4_joinRemark {o : Int32 × ZS} {x0 : Nat} {x1 : Nat} {x2 : Int32} {x3 : Int32} {S : ZS}  (hf : d_X4_joinRemark x0 x1 x2 x3 S = some o) : FrA [13] S o.2 := by
  have h_S : FrA [13] S S := fra_0
  unfold d_X4_joinRemark at hf
  exact fra_t h_S (fa_X4_joinRemark_0  hf) (fun _ h => h)
theorem fa_X2_readRemark_91 {o : Int32 × ZS} {x0 : Nat} {x1 : Nat} {x2 : Int32} {x5 : Int32} {S : ZS}  (hf : d_X2_readRemark_91 x0 x1 x2 x5 S = some o) : FrA [13] S o.2 := by
  have h_S : FrA [13] S S := fra_0
  unfold d_X2_readRemark_91 at hf
  obtain ⟨-, hf⟩ := m_chkE hf
  obtain ⟨b1, -, hf⟩ := m_calE hf
  obtain ⟨v2, e1, hf⟩ := m_bndE hf
  obtain ⟨-, hf⟩ := m_chkE hf
  obtain ⟨⟨r4, S5⟩, ho, hf⟩ := m_cal2E hf
  have h_S5 := fra_t h_S (fa_X4_joinRemark ho) (by decide)
  clear ho
  rcases m_ifE hf with ⟨-, hf⟩ | ⟨-, hf⟩
  ·
    obtain ⟨-, hf⟩ := m_chkE hf
    obtain ⟨o13, ho, hf⟩ := m_calE hf
    have h_o13 := fra_t h_S5 (fa_X2_refuse ho) (by decide)
    clear ho
    obtain ⟨-, hf⟩ := m_chkE hf
    obtain ⟨-, hf⟩ := m_chkE hf
    cases hf
    exact h_o13
  ·
    obtain ⟨v8, e2, hf⟩ := m_bndE hf
    obtain ⟨-, hf⟩ := m_chkE hf
    obtain ⟨b9, -, hf⟩ := m_calE hf
    obtain ⟨-, hf⟩ := m_chkE hf
    obtain ⟨o10, ho, hf⟩ := m_calE hf
    have h_o10 := fra_t h_S5 (fa_X6_size ho) (by decide)
    clear ho
    obtain ⟨-, hf⟩ := m_chkE hf
    obtain ⟨v11, e3, hf⟩ := m_bndE hf
    obtain ⟨-, hf⟩ := m_chkE hf
    obtain ⟨S12, e4, hf⟩ := m_bndE hf
    have h_S12 := fra_I h_o10 e4
    obtain ⟨-, hf⟩ := m_chkE hf
    cases hf
    exact h_S12
theorem fa_X2_readRemark_83 {o : Int32 × ZS} {x0 : Nat} {x4 : Int32} {S : ZS}  (hf : d_X2_readRemark_83 x0 x4 S = some o) : FrA [13] S o.2 := by
  have h_S : FrA [13] S S := fra_0
  unfold d_X2_readRemark_83 at hf
  obtain ⟨-, hf⟩ := m_chkE hf
  obtain ⟨o1, ho, hf⟩ := m_calE hf
  have h_o1 := fra_t h_S (fa_X2_refuse ho) (by decide)
  clear ho
  obtain ⟨-, hf⟩ := m_chkE hf
  obtain ⟨-, hf⟩ := m_chkE hf
  cases hf
  exact h_o1
theorem fa_X2_readRemark_55 {o : Int32 × ZS} {x0 : Nat} {x1 : Nat} {x2 : Int32} {x3 : Int32} {x4 : Int32} {t0 : Int32} {S : ZS}  (hf : d_X2_readRemark_55 x0 x1 x2 x3 x4 t0 S = some o) : FrA [13] S o.2 := by
  have h_S : FrA [13] S S := fra_0
  unfold d_X2_readRemark_55 at hf
  rcases m_ifE hf with ⟨-, hf⟩ | ⟨-, hf⟩
  ·
    rcases m_ifE hf with ⟨-, hf⟩ | ⟨-, hf⟩
    ·
      exact fra_t h_S (fa_X2_readRemark_91  hf) (fun _ h => h)
    ·
      exact fra_t h_S (fa_X2_readRemark_83  hf) (fun _ h => h)
  ·
    obtain ⟨-, hf⟩ := m_chkE hf
    obtain ⟨b1, -, hf⟩ := m_calE hf
    obtain ⟨-, hf⟩ := m_chkE hf
    obtain ⟨o2, ho, hf⟩ := m_calE hf
    have h_o2 := fra_t h_S (fa_X6_size ho) (by decide)
    clear ho
    obtain ⟨-, hf⟩ := m_chkE hf
    rcases m_ifE hf with ⟨-, hf⟩ | ⟨-, hf⟩
    ·
      exact fra_t h_o2 (fa_X2_readRemark_83  hf) (fun _ h => h)
    ·
      exact fra_t h_o2 (fa_X2_readRemark_91  hf) (fun _ h => h)
theorem fa_X2_readRemark_23 {o : Int32 × ZS} {x0 : Nat} {x1 : Nat} {x2 : Int32} {t0 : Int32} {S : ZS}  (hf : d_X2_readRemark_23 x0 x1 x2 t0 S = some o) : FrA [13] S o.2 := by
  have h_S : FrA [13] S S := fra_0
  unfold d_X2_readRemark_23 at hf
  obtain ⟨-, hf⟩ := m_chkE hf
  obtain ⟨b1, -, hf⟩ := m_calE hf
  obtain ⟨-, hf⟩ := m_chkE hf
  obtain ⟨o2, ho, hf⟩ := m_calE hf
  have h_o2 := fra_t h_S (fa_X6_indexOf ho) (by decide)
  clear ho
  obtain ⟨-, hf⟩ := m_chkE hf
  rcases m_ifE hf with ⟨-, hf⟩ | ⟨-, hf⟩
  ·
    obtain ⟨-, hf⟩ := m_chkE hf
    obtain ⟨b3, -, hf⟩ := m_calE hf
    obtain ⟨-, hf⟩ := m_chkE hf
    obtain ⟨o4, ho, hf⟩ := m_calE hf
    have h_o4 := fra_t h_o2 (fa_X6_indexOf ho) (by decide)
    clear ho
    obtain ⟨-, hf⟩ := m_chkE hf
    exact fra_t h_o4 (fa_X2_readRemark_55  hf) (fun _ h => h)
  ·
    exact fra_t h_o2 (fa_X2_readRemark_55  hf) (fun _ h => h)
theorem fa_X2_readRemark_0 {o : Int32 × ZS} {x0 : Nat} {x1 : Nat} {S : ZS}  (hf : d_X2_readRemark_0 x0 x1 S = some o) : FrA [13] S o.2 := by
  have h_S : FrA [13] S S := fra_0
  unfold d_X2_readRemark_0 at hf
  obtain ⟨-, hf⟩ := m_chkE hf
  obtain ⟨-, hf⟩ := m_chkE hf
  obtain ⟨b1, -, hf⟩ := m_calE hf
  obtain ⟨-, hf⟩ := m_chkE hf
  obtain ⟨o2, ho, hf⟩ := m_calE hf
  have h_o2 := fra_t h_S (fa_X6_at ho) (by decide)
  clear ho
  obtain ⟨-, hf⟩ := m_chkE hf
  rcases m_ifE hf with ⟨-, hf⟩ | ⟨-, hf⟩
  ·
    exact fra_t h_o2 (fa_X2_readRemark_23  hf) (fun _ h => h)
  ·
    exact fra_t h_o2 (fa_X2_readRemark_23  hf) (fun _ h => h)
theorem fa_X2_readRemark {o : Int32 × ZS} {x0 : Nat} {x1 : Nat} {S : ZS}  (hf : d_X2_readRemark x0 x1 S = some o) : FrA [13] S o.2 := by
  have h_S : FrA [13] S S := fra_0
  unfold d_X2_readRemark at hf
  exact fra_t h_S (fa_X2_readRemark_0  hf) (fun _ h => h)
theorem fa_X2_readRemarks_67 {o : Int32 × ZS} {x2 : Int32} {S : ZS}  (hf : d_X2_readRemarks_67 x2 S = some o) : FrA [13] S o.2 := by
  have h_S : FrA [13] S S := fra_0
  unfold d_X2_readRemarks_67 at hf
  obtain ⟨-, hf⟩ := m_chkE hf
  cases hf
  exact h_S
theorem fa_X2_readRemarks_51 {o : Int32 × ZS} {self8 : Nat → Nat → Int32 → Int32 → ZS → Option (Int32 × ZS)} {x0 : Nat} {x1 : Nat} {x3 : Int32} {S : ZS} (hself8 : ∀ (z0 : Nat) (z1 : Nat) (z2 : Int32) (z3 : Int32) (S : ZS) (o : Int32 × ZS), self8 z0 z1 z2 z3 S = some o → FrA [13] S o.2) (hf : d_X2_readRemarks_51 self8 x0 x1 x3 S = some o) : FrA [13] S o.2 := by
  have h_S : FrA [13] S S := fra_0
  unfold d_X2_readRemarks_51 at hf
  obtain ⟨-, hf⟩ := m_chkE hf
  obtain ⟨⟨r2, S3⟩, ho, hf⟩ := m_cal2E hf
  have h_S3 := fra_t h_S (fa_X2_readRemark ho) (by decide)
  clear ho
  obtain ⟨-, hf⟩ := m_chkE hf
  obtain ⟨o6, ho, hf⟩ := m_calE hf
  have h_o6 := fra_t h_S3 (fa_X2_skipBlanks ho) (by decide)
  clear ho
  obtain ⟨-, hf⟩ := m_chkE hf
  obtain ⟨v7, e1, hf⟩ := m_bndE hf
  exact fra_t h_o6 (hself8 _ _ _ _ _ _ hf) (fun _ h => h)
theorem fa_X2_readRemarks_8s {o : Int32 × ZS} {self8 : Nat → Nat → Int32 → Int32 → ZS → Option (Int32 × ZS)} {x0 : Nat} {x1 : Nat} {x2 : Int32} {x3 : Int32} {S : ZS} (hself8 : ∀ (z0 : Nat) (z1 : Nat) (z2 : Int32) (z3 : Int32) (S : ZS) (o : Int32 × ZS), self8 z0 z1 z2 z3 S = some o → FrA [13] S o.2) (hf : d_X2_readRemarks_8s self8 x0 x1 x2 x3 S = some o) : FrA [13] S o.2 := by
  have h_S : FrA [13] S S := fra_0
  unfold d_X2_readRemarks_8s at hf
  rcases m_ifE hf with ⟨-, hf⟩ | ⟨-, hf⟩
  ·
    exact fra_t h_S (fa_X2_readRemarks_67  hf) (fun _ h => h)
  ·
    rcases m_ifE hf with ⟨-, hf⟩ | ⟨-, hf⟩
    ·
      exact fra_t h_S (fa_X2_readRemarks_67  hf) (fun _ h => h)
    ·
      obtain ⟨-, hf⟩ := m_chkE hf
      obtain ⟨b1, -, hf⟩ := m_calE hf
      obtain ⟨-, hf⟩ := m_chkE hf
      obtain ⟨-, hf⟩ := m_chkE hf
      obtain ⟨o2, ho, hf⟩ := m_calE hf
      have h_o2 := fra_t h_S (fa_X6_at ho) (by decide)
      clear ho
      obtain ⟨-, hf⟩ := m_chkE hf
      rcases m_ifE hf with ⟨-, hf⟩ | ⟨-, hf⟩
      ·
        exact fra_t h_o2 (fa_X2_readRemarks_51 hself8 hf) (fun _ h => h)
      ·
        obtain ⟨-, hf⟩ := m_chkE hf
        obtain ⟨b3, -, hf⟩ := m_calE hf
        obtain ⟨-, hf⟩ := m_chkE hf
        obtain ⟨-, hf⟩ := m_chkE hf
        obtain ⟨o4, ho, hf⟩ := m_calE hf
        have h_o4 := fra_t h_o2 (fa_X6_at ho) (by decide)
        clear ho
        obtain ⟨-, hf⟩ := m_chkE hf
        rcases m_ifE hf with ⟨-, hf⟩ | ⟨-, hf⟩
        ·
          exact fra_t h_o4 (fa_X2_readRemarks_51 hself8 hf) (fun _ h => h)
        ·
          exact fra_t h_o4 (fa_X2_readRemarks_67  hf) (fun _ h => h)
theorem fa_X2_readRemarks_8   (n : Nat) : ∀ (y0 : Nat) (y1 : Nat) (y2 : Int32) (y3 : Int32) (S : ZS) (o : Int32 × ZS), d_X2_readRemarks_8  n y0 y1 y2 y3 S = some o → FrA [13] S o.2 := by
  induction n with
  | zero => intro y0 y1 y2 y3 S o hf; cases hf
  | succ n ih => intro y0 y1 y2 y3 S o hf; exact fa_X2_readRemarks_8s  ih hf
theorem fa_X2_readRemarks_0 {o : Int32 × ZS} {x0 : Nat} {x1 : Nat} {S : ZS}  (hf : d_X2_readRemarks_0 x0 x1 S = some o) : FrA [13] S o.2 := by
  have h_S : FrA [13] S S := fra_0
  unfold d_X2_readRemarks_0 at hf
  obtain ⟨-, hf⟩ := m_chkE hf
  obtain ⟨o1, ho, hf⟩ := m_calE hf
  have h_o1 := fra_t h_S (fa_X2_skipBlanks ho) (by decide)
  clear ho
  obtain ⟨-, hf⟩ := m_chkE hf
  exact fra_t h_o1 (fa_X2_readRemarks_8  _ _ _ _ _ _ _ hf) (fun _ h => h)
theorem fa_X2_readRemarks {o : Int32 × ZS} {x0 : Nat} {x1 : Nat} {S : ZS}  (hf : d_X2_readRemarks x0 x1 S = some o) : FrA [13] S o.2 := by
  have h_S : FrA [13] S S := fra_0
  unfold d_X2_readRemarks at hf
  exact fra_t h_S (fa_X2_readRemarks_0  hf) (fun _ h => h)
theorem fa_X2_readHead_74 {o : Int32 × ZS} {t0 : Int32} {S : ZS}  (hf : d_X2_readHead_74 t0 S = some o) : FrA [13, 14] S o.2 := by
  have h_S : FrA [13, 14] S S := fra_0
  unfold d_X2_readHead_74 at hf
  obtain ⟨-, hf⟩ := m_chkE hf
  cases hf
  exact h_S
theorem fa_X2_readHead_73 {o : Int32 × ZS} {S : ZS}  (hf : d_X2_readHead_73 S = some o) : FrA [13, 14] S o.2 := by
  have h_S : FrA [13, 14] S S := fra_0
  unfold d_X2_readHead_73 at hf
  exact fra_t h_S (fa_X2_readHead_74  hf) (fun _ h => h)
theorem fa_X2_readHead_50 {o : Int32 × ZS} {x0 : Nat} {x1 : Int32} {S : ZS}  (hf : d_X2_readHead_50 x0 x1 S = some o) : FrA [13, 14] S o.2 := by
  have h_S : FrA [13, 14] S S := fra_0
  unfold d_X2_readHead_50 at hf
  rcases m_ifE hf with ⟨-, hf⟩ | ⟨-, hf⟩
  ·
    exact fra_t h_S (fa_X2_readHead_73  hf) (fun _ h => h)
  ·
    obtain ⟨-, hf⟩ := m_chkE hf
    obtain ⟨b1, -, hf⟩ := m_calE hf
    obtain ⟨-, hf⟩ := m_chkE hf
    obtain ⟨o2, ho, hf⟩ := m_calE hf
    have h_o2 := fra_t h_S (fa_X1_at ho) (by decide)
    clear ho
    obtain ⟨-, hf⟩ := m_chkE hf
    obtain ⟨-, hf⟩ := m_chkE hf
    obtain ⟨⟨r4, S5⟩, ho, hf⟩ := m_cal2E hf
    have h_S5 := fra_t h_o2 (fa_X2_readRemarks ho) (by decide)
    clear ho
    rcases m_ifE hf with ⟨-, hf⟩ | ⟨-, hf⟩
    ·
      exact fra_t h_S5 (fa_X2_readHead_73  hf) (fun _ h => h)
    ·
      exact fra_t h_S5 (fa_X2_readHead_74  hf) (fun _ h => h)
theorem fa_X2_readHead_8s {o : Int32 × ZS} {self8 : Nat → Int32 → Int32 → ZS → Option (Int32 × ZS)} {x0 : Nat} {x1 : Int32} {x2 : Int32} {S : ZS} (hself8 : ∀ (z0 : Nat) (z1 : Int32) (z2 : Int32) (S : ZS) (o : Int32 × ZS), self8 z0 z1 z2 S = some o → FrA [13, 14] S o.2) (hf : d_X2_readHead_8s self8 x0 x1 x2 S = some o) : FrA [13, 14] S o.2 := by
  have h_S : FrA [13, 14] S S := fra_0
  unfold d_X2_readHead_8s at hf
  rcases m_ifE hf with ⟨-, hf⟩ | ⟨-, hf⟩
  ·
    exact fra_t h_S (fa_X2_readHead_50  hf) (fun _ h => h)
  ·
    rcases m_ifE hf with ⟨-, hf⟩ | ⟨-, hf⟩
    ·
      exact fra_t h_S (fa_X2_readHead_50  hf) (fun _ h => h)
    ·
      obtain ⟨-, hf⟩ := m_chkE hf
      obtain ⟨b1, -, hf⟩ := m_calE hf
      obtain ⟨-, hf⟩ := m_chkE hf
      obtain ⟨-, hf⟩ := m_chkE hf
      obtain ⟨o2, ho, hf⟩ := m_calE hf
      have h_o2 := fra_t h_S (fa_X6_at ho) (by decide)
      clear ho
      obtain ⟨-, hf⟩ := m_chkE hf
      rcases m_ifE hf with ⟨-, hf⟩ | ⟨-, hf⟩
      ·
        obtain ⟨-, hf⟩ := m_chkE hf
        obtain ⟨⟨r4, S5⟩, ho, hf⟩ := m_cal2E hf
        have h_S5 := fra_t h_o2 (fa_X2_readTag ho) (by decide)
        clear ho
        obtain ⟨-, hf⟩ := m_chkE hf
        obtain ⟨o8, ho, hf⟩ := m_calE hf
        have h_o8 := fra_t h_S5 (fa_X2_skipBlanks ho) (by decide)
        clear ho
        obtain ⟨-, hf⟩ := m_chkE hf
        obtain ⟨v9, e1, hf⟩ := m_bndE hf
        exact fra_t h_o8 (hself8 _ _ _ _ _ hf) (fun _ h => h)
      ·
        exact fra_t h_o2 (fa_X2_readHead_50  hf) (fun _ h => h)
theorem fa_X2_readHead_8   (n : Nat) : ∀ (y0 : Nat) (y1 : Int32) (y2 : Int32) (S : ZS) (o : Int32 × ZS), d_X2_readHead_8  n y0 y1 y2 S = some o → FrA [13, 14] S o.2 := by
  induction n with
  | zero => intro y0 y1 y2 S o hf; cases hf
  | succ n ih => intro y0 y1 y2 S o hf; exact fa_X2_readHead_8s  ih hf
theorem fa_X2_readHead_0 {o : Int32 × ZS} {x0 : Nat} {S : ZS}  (hf : d_X2_readHead_0 x0 S = some o) : FrA [13, 14] S o.2 := by
  have h_S : FrA [13, 14] S S := fra_0
  unfold d_X2_readHead_0 at hf
  obtain ⟨-, hf⟩ := m_chkE hf
  obtain ⟨o1, ho, hf⟩ := m_calE hf
  have h_o1 := fra_t h_S (fa_X2_skipBlanks ho) (by decide)
  clear ho
  obtain ⟨-, hf⟩ := m_chkE hf
  exact fra_t h_o1 (fa_X2_readHead_8  _ _ _ _ _ _ hf) (fun _ h => h)
theorem fa_X2_readHead {o : Int32 × ZS} {x0 : Nat} {S : ZS}  (hf : d_X2_readHead x0 S = some o) : FrA [13, 14] S o.2 := by
  have h_S : FrA [13, 14] S S := fra_0
  unfold d_X2_readHead at hf
  exact fra_t h_S (fa_X2_readHead_0  hf) (fun _ h => h)
theorem fa_X8_copyWhole_113 {o : Int32 × ZS} {S : ZS}  (hf : d_X8_copyWhole_113 S = some o) : FrA [13] S o.2 := by
  have h_S : FrA [13] S S := fra_0
  unfold d_X8_copyWhole_113 at hf
  cases hf
  exact h_S
theorem fa_X8_copyWhole_87 {o : Int32 × ZS} {x0 : Nat} {t0 : Int32} {t1 : Nat} {S : ZS}  (hf : d_X8_copyWhole_87 x0 t0 t1 S = some o) : FrA [13] S o.2 := by
  have h_S : FrA [13] S S := fra_0
  unfold d_X8_copyWhole_87 at hf
  obtain ⟨-, hf⟩ := m_chkE hf
  obtain ⟨-, hf⟩ := m_chkE hf
  obtain ⟨S1, e1, hf⟩ := m_bndE hf
  have h_S1 := fra_I h_S e1
  obtain ⟨-, hf⟩ := m_chkE hf
  rcases m_ifE hf with ⟨-, hf⟩ | ⟨-, hf⟩
  ·
    exact fra_t h_S1 (fa_X8_copyWhole_113  hf) (fun _ h => h)
  ·
    obtain ⟨-, hf⟩ := m_chkE hf
    obtain ⟨b2, -, hf⟩ := m_calE hf
    obtain ⟨-, hf⟩ := m_chkE hf
    obtain ⟨b3, -, hf⟩ := m_calE hf
    obtain ⟨-, hf⟩ := m_chkE hf
    obtain ⟨o4, ho, hf⟩ := m_calE hf
    have h_o4 := fra_t h_S1 (fa_X6_size ho) (by decide)
    clear ho
    obtain ⟨-, hf⟩ := m_chkE hf
    obtain ⟨v5, e2, hf⟩ := m_bndE hf
    obtain ⟨-, hf⟩ := m_chkE hf
    obtain ⟨o6, ho, hf⟩ := m_calE hf
    have h_o6 := fra_t h_o4 (fa_X6_keep ho) (by decide)
    clear ho
    obtain ⟨-, hf⟩ := m_chkE hf
    exact fra_t h_o6 (fa_X8_copyWhole_113  hf) (fun _ h => h)
theorem fa_X8_copyWhole_81 {o : Int32 × ZS} {x0 : Nat} {x4 : Int32} {t0 : Nat} {S : ZS}  (hf : d_X8_copyWhole_81 x0 x4 t0 S = some o) : FrA [13] S o.2 := by
  have h_S : FrA [13] S S := fra_0
  unfold d_X8_copyWhole_81 at hf
  exact fra_t h_S (fa_X8_copyWhole_87  hf) (fun _ h => h)
theorem fa_X8_copyWhole_48 {o : Int32 × ZS} {x0 : Nat} {S : ZS}  (hf : d_X8_copyWhole_48 x0 S = some o) : FrA [13] S o.2 := by
  have h_S : FrA [13] S S := fra_0
  unfold d_X8_copyWhole_48 at hf
  obtain ⟨-, hf⟩ := m_chkE hf
  obtain ⟨b1, -, hf⟩ := m_calE hf
  obtain ⟨-, hf⟩ := m_chkE hf
  obtain ⟨b2, -, hf⟩ := m_calE hf
  obtain ⟨-, hf⟩ := m_chkE hf
  obtain ⟨o3, ho, hf⟩ := m_calE hf
  have h_o3 := fra_t h_S (fa_X6_size ho) (by decide)
  clear ho
  obtain ⟨-, hf⟩ := m_chkE hf
  obtain ⟨v4, e1, hf⟩ := m_bndE hf
  obtain ⟨-, hf⟩ := m_chkE hf
  obtain ⟨o5, ho, hf⟩ := m_calE hf
  have h_o5 := fra_t h_o3 (fa_X6_at ho) (by decide)
  clear ho
  obtain ⟨-, hf⟩ := m_chkE hf
  rcases m_ifE hf with ⟨-, hf⟩ | ⟨-, hf⟩
  ·
    exact fra_t h_o5 (fa_X8_copyWhole_81  hf) (fun _ h => h)
  ·
    rcases m_ifE hf with ⟨-, hf⟩ | ⟨-, hf⟩
    ·
      exact fra_t h_o5 (fa_X8_copyWhole_81  hf) (fun _ h => h)
    ·
      exact fra_t h_o5 (fa_X8_copyWhole_87  hf) (fun _ h => h)
theorem fa_X8_copyWhole_11s {o : Int32 × ZS} {self11 : Nat → Nat → Int32 → Int32 → ZS → Option (Int32 × ZS)} {x0 : Nat} {x1 : Nat} {x3 : Int32} {x4 : Int32} {S : ZS} (hself11 : ∀ (z0 : Nat) (z1 : Nat) (z2 : Int32) (z3 : Int32) (S : ZS) (o : Int32 × ZS), self11 z0 z1 z2 z3 S = some o → FrA [13] S o.2) (hf : d_X8_copyWhole_11s self11 x0 x1 x3 x4 S = some o) : FrA [13] S o.2 := by
  have h_S : FrA [13] S S := fra_0
  unfold d_X8_copyWhole_11s at hf
  rcases m_ifE hf with ⟨-, hf⟩ | ⟨-, hf⟩
  ·
    exact fra_t h_S (fa_X8_copyWhole_48  hf) (fun _ h => h)
  ·
    obtain ⟨-, hf⟩ := m_chkE hf
    obtain ⟨b1, -, hf⟩ := m_calE hf
    obtain ⟨-, hf⟩ := m_chkE hf
    obtain ⟨o2, ho, hf⟩ := m_calE hf
    have h_o2 := fra_t h_S (fa_X6_size ho) (by decide)
    clear ho
    obtain ⟨-, hf⟩ := m_chkE hf
    rcases m_ifE hf with ⟨-, hf⟩ | ⟨-, hf⟩
    ·
      exact fra_t h_o2 (fa_X8_copyWhole_48  hf) (fun _ h => h)
    ·
      obtain ⟨-, hf⟩ := m_chkE hf
      obtain ⟨b3, -, hf⟩ := m_calE hf
      obtain ⟨-, hf⟩ := m_chkE hf
      obtain ⟨o4, ho, hf⟩ := m_calE hf
      have h_o4 := fra_t h_o2 (fa_X6_at ho) (by decide)
      clear ho
      obtain ⟨-, hf⟩ := m_chkE hf
      obtain ⟨-, hf⟩ := m_chkE hf
      obtain ⟨⟨r6, S7⟩, ho, hf⟩ := m_cal2E hf
      have h_S7 := fra_t h_o4 (fa_X6_put ho) (by decide)
      clear ho
      obtain ⟨v10, e1, hf⟩ := m_bndE hf
      exact fra_t h_S7 (hself11 _ _ _ _ _ _ hf) (fun _ h => h)
theorem fa_X8_copyWhole_11   (n : Nat) : ∀ (y0 : Nat) (y1 : Nat) (y2 : Int32) (y3 : Int32) (S : ZS) (o : Int32 × ZS), d_X8_copyWhole_11  n y0 y1 y2 y3 S = some o → FrA [13] S o.2 := by
  induction n with
  | zero => intro y0 y1 y2 y3 S o hf; cases hf
  | succ n ih => intro y0 y1 y2 y3 S o hf; exact fa_X8_copyWhole_11s  ih hf
theorem fa_X8_copyWhole_0 {o : Int32 × ZS} {x0 : Nat} {x1 : Nat} {x2 : Int32} {x3 : Int32} {S : ZS}  (hf : d_X8_copyWhole_0 x0 x1 x2 x3 S = some o) : FrA [13] S o.2 := by
  have h_S : FrA [13] S S := fra_0
  unfold d_X8_copyWhole_0 at hf
  obtain ⟨-, hf⟩ := m_chkE hf
  obtain ⟨b1, -, hf⟩ := m_calE hf
  obtain ⟨-, hf⟩ := m_chkE hf
  obtain ⟨o2, ho, hf⟩ := m_calE hf
  have h_o2 := fra_t h_S (fa_X6_keep ho) (by decide)
  clear ho
  obtain ⟨-, hf⟩ := m_chkE hf
  exact fra_t h_o2 (fa_X8_copyWhole_11  _ _ _ _ _ _ _ hf) (fun _ h => h)
theorem fa_X8_copyWhole {o : Int32 × ZS} {x0 : Nat} {x1 : Nat} {x2 : Int32} {x3 : Int32} {S : ZS}  (hf : d_X8_copyWhole x0 x1 x2 x3 S = some o) : FrA [13] S o.2 := by
  have h_S : FrA [13] S S := fra_0
  unfold d_X8_copyWhole at hf
  exact fra_t h_S (fa_X8_copyWhole_0  hf) (fun _ h => h)
theorem fa_X8_copyBare_73 {o : Int32 × ZS} {S : ZS}  (hf : d_X8_copyBare_73 S = some o) : FrA [13] S o.2 := by
  have h_S : FrA [13] S S := fra_0
  unfold d_X8_copyBare_73 at hf
  cases hf
  exact h_S
theorem fa_X8_copyBare_67 {o : Int32 × ZS} {self11 : Nat → Nat → Int32 → Int32 → ZS → Option (Int32 × ZS)} {x0 : Nat} {x1 : Nat} {x3 : Int32} {x4 : Int32} {S : ZS} (hself11 : ∀ (z0 : Nat) (z1 : Nat) (z2 : Int32) (z3 : Int32) (S : ZS) (o : Int32 × ZS), self11 z0 z1 z2 z3 S = some o → FrA [13] S o.2) (hf : d_X8_copyBare_67 self11 x0 x1 x3 x4 S = some o) : FrA [13] S o.2 := by
  have h_S : FrA [13] S S := fra_0
  unfold d_X8_copyBare_67 at hf
  obtain ⟨v1, e1, hf⟩ := m_bndE hf
  exact fra_t h_S (hself11 _ _ _ _ _ _ hf) (fun _ h => h)
theorem fa_X8_copyBare_11s {o : Int32 × ZS} {self11 : Nat → Nat → Int32 → Int32 → ZS → Option (Int32 × ZS)} {x0 : Nat} {x1 : Nat} {x3 : Int32} {x4 : Int32} {S : ZS} (hself11 : ∀ (z0 : Nat) (z1 : Nat) (z2 : Int32) (z3 : Int32) (S : ZS) (o : Int32 × ZS), self11 z0 z1 z2 z3 S = some o → FrA [13] S o.2) (hf : d_X8_copyBare_11s self11 x0 x1 x3 x4 S = some o) : FrA [13] S o.2 := by
  have h_S : FrA [13] S S := fra_0
  unfold d_X8_copyBare_11s at hf
  rcases m_ifE hf with ⟨-, hf⟩ | ⟨-, hf⟩
  ·
    exact fra_t h_S (fa_X8_copyBare_73  hf) (fun _ h => h)
  ·
    obtain ⟨-, hf⟩ := m_chkE hf
    obtain ⟨b1, -, hf⟩ := m_calE hf
    obtain ⟨-, hf⟩ := m_chkE hf
    obtain ⟨o2, ho, hf⟩ := m_calE hf
    have h_o2 := fra_t h_S (fa_X6_size ho) (by decide)
    clear ho
    obtain ⟨-, hf⟩ := m_chkE hf
    rcases m_ifE hf with ⟨-, hf⟩ | ⟨-, hf⟩
    ·
      exact fra_t h_o2 (fa_X8_copyBare_73  hf) (fun _ h => h)
    ·
      obtain ⟨-, hf⟩ := m_chkE hf
      obtain ⟨o3, ho, hf⟩ := m_calE hf
      have h_o3 := fra_t h_o2 (fa_X6_at ho) (by decide)
      clear ho
      obtain ⟨-, hf⟩ := m_chkE hf
      rcases m_ifE hf with ⟨-, hf⟩ | ⟨-, hf⟩
      ·
        exact fra_t h_o3 (fa_X8_copyBare_67 hself11 hf) (fun _ h => h)
      ·
        rcases m_ifE hf with ⟨-, hf⟩ | ⟨-, hf⟩
        ·
          exact fra_t h_o3 (fa_X8_copyBare_67 hself11 hf) (fun _ h => h)
        ·
          rcases m_ifE hf with ⟨-, hf⟩ | ⟨-, hf⟩
          ·
            exact fra_t h_o3 (fa_X8_copyBare_67 hself11 hf) (fun _ h => h)
          ·
            obtain ⟨-, hf⟩ := m_chkE hf
            obtain ⟨b4, -, hf⟩ := m_calE hf
            obtain ⟨-, hf⟩ := m_chkE hf
            obtain ⟨⟨r6, S7⟩, ho, hf⟩ := m_cal2E hf
            have h_S7 := fra_t h_o3 (fa_X6_put ho) (by decide)
            clear ho
            exact fra_t h_S7 (fa_X8_copyBare_67 hself11 hf) (fun _ h => h)
theorem fa_X8_copyBare_11   (n : Nat) : ∀ (y0 : Nat) (y1 : Nat) (y2 : Int32) (y3 : Int32) (S : ZS) (o : Int32 × ZS), d_X8_copyBare_11  n y0 y1 y2 y3 S = some o → FrA [13] S o.2 := by
  induction n with
  | zero => intro y0 y1 y2 y3 S o hf; cases hf
  | succ n ih => intro y0 y1 y2 y3 S o hf; exact fa_X8_copyBare_11s  ih hf
theorem fa_X8_copyBare_0 {o : Int32 × ZS} {x0 : Nat} {x1 : Nat} {x2 : Int32} {x3 : Int32} {S : ZS}  (hf : d_X8_copyBare_0 x0 x1 x2 x3 S = some o) : FrA [13] S o.2 := by
  have h_S : FrA [13] S S := fra_0
  unfold d_X8_copyBare_0 at hf
  obtain ⟨-, hf⟩ := m_chkE hf
  obtain ⟨b1, -, hf⟩ := m_calE hf
  obtain ⟨-, hf⟩ := m_chkE hf
  obtain ⟨o2, ho, hf⟩ := m_calE hf
  have h_o2 := fra_t h_S (fa_X6_keep ho) (by decide)
  clear ho
  obtain ⟨-, hf⟩ := m_chkE hf
  exact fra_t h_o2 (fa_X8_copyBare_11  _ _ _ _ _ _ _ hf) (fun _ h => h)
theorem fa_X8_copyBare {o : Int32 × ZS} {x0 : Nat} {x1 : Nat} {x2 : Int32} {x3 : Int32} {S : ZS}  (hf : d_X8_copyBare x0 x1 x2 x3 S = some o) : FrA [13] S o.2 := by
  have h_S : FrA [13] S S := fra_0
  unfold d_X8_copyBare at hf
  exact fra_t h_S (fa_X8_copyBare_0  hf) (fun _ h => h)
theorem fa_X8_matched_144 {o : Int32 × ZS} {t0 : Int32} {S : ZS}  (hf : d_X8_matched_144 t0 S = some o) : FrA [13, 14] S o.2 := by
  have h_S : FrA [13, 14] S S := fra_0
  unfold d_X8_matched_144 at hf
  cases hf
  exact h_S
theorem fa_X8_matched_103 {o : Int32 × ZS} {x0 : Nat} {x1 : Nat} {x2 : Nat} {x3 : Int32} {x4 : Int32} {S : ZS}  (hf : d_X8_matched_103 x0 x1 x2 x3 x4 S = some o) : FrA [13, 14] S o.2 := by
  have h_S : FrA [13, 14] S S := fra_0
  unfold d_X8_matched_103 at hf
  obtain ⟨-, hf⟩ := m_chkE hf
  obtain ⟨⟨r2, S3⟩, ho, hf⟩ := m_cal2E hf
  have h_S3 := fra_t h_S (fa_X8_copyBare ho) (by decide)
  clear ho
  obtain ⟨-, hf⟩ := m_chkE hf
  obtain ⟨o6, ho, hf⟩ := m_calE hf
  have h_o6 := fra_t h_S3 (fa_X8_parse ho) (by decide)
  clear ho
  obtain ⟨-, hf⟩ := m_chkE hf
  rcases m_ifE hf with ⟨-, hf⟩ | ⟨-, hf⟩
  ·
    cases hf
    exact h_o6
  ·
    obtain ⟨-, hf⟩ := m_chkE hf
    obtain ⟨S7, e1, hf⟩ := m_bndE hf
    have h_S7 := fra_I h_o6 e1
    obtain ⟨-, hf⟩ := m_chkE hf
    obtain ⟨o8, ho, hf⟩ := m_calE hf
    have h_o8 := fra_t h_S7 (fa_X8_gather ho) (by decide)
    clear ho
    obtain ⟨-, hf⟩ := m_chkE hf
    obtain ⟨-, hf⟩ := m_chkE hf
    rcases m_ifE hf with ⟨-, hf⟩ | ⟨-, hf⟩
    ·
      exact fra_t h_o8 (fa_X8_matched_144  hf) (fun _ h => h)
    ·
      exact fra_t h_o8 (fa_X8_matched_144  hf) (fun _ h => h)
theorem fa_X8_matched_102 {o : Int32 × ZS} {t0 : Int32} {S : ZS}  (hf : d_X8_matched_102 t0 S = some o) : FrA [13, 14] S o.2 := by
  have h_S : FrA [13, 14] S S := fra_0
  unfold d_X8_matched_102 at hf
  cases hf
  exact h_S
theorem fa_X8_matched_79 {o : Int32 × ZS} {self29 : Nat → Nat → Nat → Int32 → Int32 → Int32 → Int32 → Int32 → ZS → Option (Int32 × ZS)} {x0 : Nat} {x1 : Nat} {x2 : Nat} {x3 : Int32} {x4 : Int32} {x5 : Int32} {x6 : Int32} {x7 : Int32} {S : ZS} (hself29 : ∀ (z0 : Nat) (z1 : Nat) (z2 : Nat) (z3 : Int32) (z4 : Int32) (z5 : Int32) (z6 : Int32) (z7 : Int32) (S : ZS) (o : Int32 × ZS), self29 z0 z1 z2 z3 z4 z5 z6 z7 S = some o → FrA [13, 14] S o.2) (hf : d_X8_matched_79 self29 x0 x1 x2 x3 x4 x5 x6 x7 S = some o) : FrA [13, 14] S o.2 := by
  have h_S : FrA [13, 14] S S := fra_0
  unfold d_X8_matched_79 at hf
  obtain ⟨v1, e1, hf⟩ := m_bndE hf
  exact fra_t h_S (hself29 _ _ _ _ _ _ _ _ _ _ hf) (fun _ h => h)
theorem fa_X8_matched_67 {o : Int32 × ZS} {self29 : Nat → Nat → Nat → Int32 → Int32 → Int32 → Int32 → Int32 → ZS → Option (Int32 × ZS)} {x0 : Nat} {x1 : Nat} {x2 : Nat} {x3 : Int32} {x4 : Int32} {x6 : Int32} {x7 : Int32} {S : ZS} (hself29 : ∀ (z0 : Nat) (z1 : Nat) (z2 : Nat) (z3 : Int32) (z4 : Int32) (z5 : Int32) (z6 : Int32) (z7 : Int32) (S : ZS) (o : Int32 × ZS), self29 z0 z1 z2 z3 z4 z5 z6 z7 S = some o → FrA [13, 14] S o.2) (hf : d_X8_matched_67 self29 x0 x1 x2 x3 x4 x6 x7 S = some o) : FrA [13, 14] S o.2 := by
  have h_S : FrA [13, 14] S S := fra_0
  unfold d_X8_matched_67 at hf
  obtain ⟨-, hf⟩ := m_chkE hf
  obtain ⟨b1, -, hf⟩ := m_calE hf
  obtain ⟨q1, hf⟩ := m_chkE hf
  obtain ⟨-, hf⟩ := m_chkE hf
  obtain ⟨v2, e2, hf⟩ := m_bndE hf
  obtain ⟨v3, e3, hf⟩ := m_bndE hf
  exact fra_t h_S (fa_X8_matched_79 hself29 hf) (fun _ h => h)
theorem fa_X8_matched_29s {o : Int32 × ZS} {self29 : Nat → Nat → Nat → Int32 → Int32 → Int32 → Int32 → Int32 → ZS → Option (Int32 × ZS)} {x0 : Nat} {x1 : Nat} {x2 : Nat} {x3 : Int32} {x4 : Int32} {x5 : Int32} {x6 : Int32} {x7 : Int32} {S : ZS} (hself29 : ∀ (z0 : Nat) (z1 : Nat) (z2 : Nat) (z3 : Int32) (z4 : Int32) (z5 : Int32) (z6 : Int32) (z7 : Int32) (S : ZS) (o : Int32 × ZS), self29 z0 z1 z2 z3 z4 z5 z6 z7 S = some o → FrA [13, 14] S o.2) (hf : d_X8_matched_29s self29 x0 x1 x2 x3 x4 x5 x6 x7 S = some o) : FrA [13, 14] S o.2 := by
  have h_S : FrA [13, 14] S S := fra_0
  unfold d_X8_matched_29s at hf
  obtain ⟨-, hf⟩ := m_chkE hf
  rcases m_ifE hf with ⟨-, hf⟩ | ⟨-, hf⟩
  ·
    rcases m_ifE hf with ⟨-, hf⟩ | ⟨-, hf⟩
    ·
      exact fra_t h_S (fa_X8_matched_103  hf) (fun _ h => h)
    ·
      rcases m_ifE hf with ⟨-, hf⟩ | ⟨-, hf⟩
      ·
        exact fra_t h_S (fa_X8_matched_102  hf) (fun _ h => h)
      ·
        exact fra_t h_S (fa_X8_matched_102  hf) (fun _ h => h)
  ·
    obtain ⟨-, hf⟩ := m_chkE hf
    rcases m_ifE hf with ⟨-, hf⟩ | ⟨-, hf⟩
    ·
      exact fra_t h_S (fa_X8_matched_67 hself29 hf) (fun _ h => h)
    ·
      obtain ⟨-, hf⟩ := m_chkE hf
      obtain ⟨-, hf⟩ := m_chkE hf
      obtain ⟨b1, -, hf⟩ := m_calE hf
      obtain ⟨-, hf⟩ := m_chkE hf
      obtain ⟨b2, -, hf⟩ := m_calE hf
      obtain ⟨q1, hf⟩ := m_chkE hf
      obtain ⟨-, hf⟩ := m_chkE hf
      obtain ⟨v3, e2, hf⟩ := m_bndE hf
      obtain ⟨-, hf⟩ := m_chkE hf
      obtain ⟨o4, ho, hf⟩ := m_calE hf
      have h_o4 := fra_t h_S (fa_X7_checkSign ho) (by decide)
      clear ho
      obtain ⟨-, hf⟩ := m_chkE hf
      rcases m_ifE hf with ⟨-, hf⟩ | ⟨-, hf⟩
      ·
        exact fra_t h_o4 (fa_X8_matched_67 hself29 hf) (fun _ h => h)
      ·
        exact fra_t h_o4 (fa_X8_matched_79 hself29 hf) (fun _ h => h)
theorem fa_X8_matched_29   (n : Nat) : ∀ (y0 : Nat) (y1 : Nat) (y2 : Nat) (y3 : Int32) (y4 : Int32) (y5 : Int32) (y6 : Int32) (y7 : Int32) (S : ZS) (o : Int32 × ZS), d_X8_matched_29  n y0 y1 y2 y3 y4 y5 y6 y7 S = some o → FrA [13, 14] S o.2 := by
  induction n with
  | zero => intro y0 y1 y2 y3 y4 y5 y6 y7 S o hf; cases hf
  | succ n ih => intro y0 y1 y2 y3 y4 y5 y6 y7 S o hf; exact fa_X8_matched_29s  ih hf
theorem fa_X8_matched_0 {o : Int32 × ZS} {x0 : Nat} {x1 : Nat} {x2 : Nat} {x3 : Int32} {x4 : Int32} {S : ZS}  (hf : d_X8_matched_0 x0 x1 x2 x3 x4 S = some o) : FrA [13, 14] S o.2 := by
  have h_S : FrA [13, 14] S S := fra_0
  unfold d_X8_matched_0 at hf
  obtain ⟨-, hf⟩ := m_chkE hf
  obtain ⟨⟨r2, S3⟩, ho, hf⟩ := m_cal2E hf
  have h_S3 := fra_t h_S (fa_X8_copyWhole ho) (by decide)
  clear ho
  obtain ⟨-, hf⟩ := m_chkE hf
  obtain ⟨o6, ho, hf⟩ := m_calE hf
  have h_o6 := fra_t h_S3 (fa_X8_parse ho) (by decide)
  clear ho
  obtain ⟨-, hf⟩ := m_chkE hf
  rcases m_ifE hf with ⟨-, hf⟩ | ⟨-, hf⟩
  ·
    exact fra_t h_o6 (fa_X8_matched_103  hf) (fun _ h => h)
  ·
    obtain ⟨-, hf⟩ := m_chkE hf
    obtain ⟨o7, ho, hf⟩ := m_calE hf
    have h_o7 := fra_t h_o6 (fa_X8_gather ho) (by decide)
    clear ho
    obtain ⟨-, hf⟩ := m_chkE hf
    exact fra_t h_o7 (fa_X8_matched_29  _ _ _ _ _ _ _ _ _ _ _ hf) (fun _ h => h)
theorem fa_X8_matched {o : Int32 × ZS} {x0 : Nat} {x1 : Nat} {x2 : Nat} {x3 : Int32} {x4 : Int32} {S : ZS}  (hf : d_X8_matched x0 x1 x2 x3 x4 S = some o) : FrA [13, 14] S o.2 := by
  have h_S : FrA [13, 14] S S := fra_0
  unfold d_X8_matched at hf
  exact fra_t h_S (fa_X8_matched_0  hf) (fun _ h => h)
theorem fa_X2_readMove_234 {o : Int32 × ZS} {t0 : Int32} {S : ZS}  (hf : d_X2_readMove_234 t0 S = some o) : FrA [13, 14] S o.2 := by
  have h_S : FrA [13, 14] S S := fra_0
  unfold d_X2_readMove_234 at hf
  obtain ⟨-, hf⟩ := m_chkE hf
  cases hf
  exact h_S
theorem fa_X2_readMove_233 {o : Int32 × ZS} {S : ZS}  (hf : d_X2_readMove_233 S = some o) : FrA [13, 14] S o.2 := by
  have h_S : FrA [13, 14] S S := fra_0
  unfold d_X2_readMove_233 at hf
  exact fra_t h_S (fa_X2_readMove_234  hf) (fun _ h => h)
theorem fa_X2_readMove_110 {o : Int32 × ZS} {x3 : Int32} {t0 : Int32} {t1 : Nat} {S : ZS}  (hf : d_X2_readMove_110 x3 t0 t1 S = some o) : FrA [13, 14] S o.2 := by
  have h_S : FrA [13, 14] S S := fra_0
  unfold d_X2_readMove_110 at hf
  obtain ⟨-, hf⟩ := m_chkE hf
  obtain ⟨o1, ho, hf⟩ := m_calE hf
  have h_o1 := fra_t h_S (fa_X2_refuse ho) (by decide)
  clear ho
  obtain ⟨-, hf⟩ := m_chkE hf
  obtain ⟨-, hf⟩ := m_chkE hf
  cases hf
  exact h_o1
theorem fa_X2_readMove_37 {o : Int32 × ZS} {x0 : Nat} {x1 : Int32} {x2 : Nat} {S : ZS}  (hf : d_X2_readMove_37 x0 x1 x2 S = some o) : FrA [13, 14] S o.2 := by
  have h_S : FrA [13, 14] S S := fra_0
  unfold d_X2_readMove_37 at hf
  obtain ⟨-, hf⟩ := m_chkE hf
  obtain ⟨b1, -, hf⟩ := m_calE hf
  obtain ⟨-, hf⟩ := m_chkE hf
  obtain ⟨-, hf⟩ := m_chkE hf
  obtain ⟨o2, ho, hf⟩ := m_calE hf
  have h_o2 := fra_t h_S (fa_X6_at ho) (by decide)
  clear ho
  obtain ⟨-, hf⟩ := m_chkE hf
  obtain ⟨o3, ho, hf⟩ := m_calE hf
  have h_o3 := fra_t h_o2 (fa_X11_isLetter ho) (by decide)
  clear ho
  obtain ⟨-, hf⟩ := m_chkE hf
  rcases m_ifE hf with ⟨-, hf⟩ | ⟨-, hf⟩
  ·
    obtain ⟨-, hf⟩ := m_chkE hf
    obtain ⟨-, hf⟩ := m_chkE hf
    obtain ⟨o42, ho, hf⟩ := m_calE hf
    have h_o42 := fra_t h_o3 (fa_X2_refuse ho) (by decide)
    clear ho
    obtain ⟨-, hf⟩ := m_chkE hf
    obtain ⟨-, hf⟩ := m_chkE hf
    cases hf
    exact h_o42
  ·
    obtain ⟨-, hf⟩ := m_chkE hf
    obtain ⟨-, hf⟩ := m_chkE hf
    obtain ⟨o4, ho, hf⟩ := m_calE hf
    have h_o4 := fra_t h_o3 (fa_X2_skipSigns ho) (by decide)
    clear ho
    obtain ⟨-, hf⟩ := m_chkE hf
    obtain ⟨-, hf⟩ := m_chkE hf
    obtain ⟨b5, -, hf⟩ := m_calE hf
    obtain ⟨-, hf⟩ := m_chkE hf
    obtain ⟨b6, -, hf⟩ := m_calE hf
    obtain ⟨-, hf⟩ := m_chkE hf
    obtain ⟨-, hf⟩ := m_chkE hf
    obtain ⟨⟨r8, S9⟩, ho, hf⟩ := m_cal2E hf
    have h_S9 := fra_t h_o4 (fa_X8_matched ho) (by decide)
    clear ho
    rcases m_ifE hf with ⟨-, hf⟩ | ⟨-, hf⟩
    ·
      obtain ⟨-, hf⟩ := m_chkE hf
      obtain ⟨b12, -, hf⟩ := m_calE hf
      obtain ⟨-, hf⟩ := m_chkE hf
      obtain ⟨b13, -, hf⟩ := m_calE hf
      obtain ⟨q1, hf⟩ := m_chkE hf
      obtain ⟨-, hf⟩ := m_chkE hf
      obtain ⟨v14, e2, hf⟩ := m_bndE hf
      obtain ⟨-, hf⟩ := m_chkE hf
      obtain ⟨o15, ho, hf⟩ := m_calE hf
      have h_o15 := fra_t h_S9 (fa_X1_childWith ho) (by decide)
      clear ho
      obtain ⟨-, hf⟩ := m_chkE hf
      rcases m_ifE hf with ⟨-, hf⟩ | ⟨-, hf⟩
      ·
        obtain ⟨-, hf⟩ := m_chkE hf
        obtain ⟨b16, -, hf⟩ := m_calE hf
        obtain ⟨-, hf⟩ := m_chkE hf
        obtain ⟨b17, -, hf⟩ := m_calE hf
        obtain ⟨q3, hf⟩ := m_chkE hf
        obtain ⟨-, hf⟩ := m_chkE hf
        obtain ⟨v18, e4, hf⟩ := m_bndE hf
        obtain ⟨-, hf⟩ := m_chkE hf
        obtain ⟨⟨r20, S21⟩, ho, hf⟩ := m_cal2E hf
        have h_S21 := fra_t h_o15 (fa_X1_grow ho) (by decide)
        clear ho
        rcases m_ifE hf with ⟨-, hf⟩ | ⟨-, hf⟩
        ·
          obtain ⟨-, hf⟩ := m_chkE hf
          obtain ⟨o40, ho, hf⟩ := m_calE hf
          have h_o40 := fra_t h_S21 (fa_X2_refuse ho) (by decide)
          clear ho
          obtain ⟨-, hf⟩ := m_chkE hf
          obtain ⟨-, hf⟩ := m_chkE hf
          cases hf
          exact h_o40
        ·
          obtain ⟨-, hf⟩ := m_chkE hf
          obtain ⟨b24, -, hf⟩ := m_calE hf
          obtain ⟨q5, hf⟩ := m_chkE hf
          obtain ⟨-, hf⟩ := m_chkE hf
          obtain ⟨S25, e6, hf⟩ := m_bndE hf
          have h_S25 := fra_A h_S21 q5 e6 (by decide)
          obtain ⟨-, hf⟩ := m_chkE hf
          obtain ⟨b26, -, hf⟩ := m_calE hf
          obtain ⟨-, hf⟩ := m_chkE hf
          obtain ⟨-, hf⟩ := m_chkE hf
          obtain ⟨b27, -, hf⟩ := m_calE hf
          obtain ⟨-, hf⟩ := m_chkE hf
          obtain ⟨o28, ho, hf⟩ := m_calE hf
          have h_o28 := fra_t h_S25 (fa_X0_copyFrom ho) (by decide)
          clear ho
          obtain ⟨-, hf⟩ := m_chkE hf
          obtain ⟨-, hf⟩ := m_chkE hf
          obtain ⟨o29, ho, hf⟩ := m_calE hf
          have h_o29 := fra_t h_o28 (fa_X0_play ho) (by decide)
          clear ho
          obtain ⟨-, hf⟩ := m_chkE hf
          obtain ⟨-, hf⟩ := m_chkE hf
          obtain ⟨b30, -, hf⟩ := m_calE hf
          obtain ⟨-, hf⟩ := m_chkE hf
          obtain ⟨o31, ho, hf⟩ := m_calE hf
          have h_o31 := fra_t h_o29 (fa_X1_at ho) (by decide)
          clear ho
          obtain ⟨-, hf⟩ := m_chkE hf
          obtain ⟨-, hf⟩ := m_chkE hf
          obtain ⟨o32, ho, hf⟩ := m_calE hf
          have h_o32 := fra_t h_o31 (fa_X2_readMarks ho) (by decide)
          clear ho
          obtain ⟨-, hf⟩ := m_chkE hf
          rcases m_ifE hf with ⟨-, hf⟩ | ⟨-, hf⟩
          ·
            exact fra_t h_o32 (fa_X2_readMove_233  hf) (fun _ h => h)
          ·
            obtain ⟨-, hf⟩ := m_chkE hf
            obtain ⟨b33, -, hf⟩ := m_calE hf
            obtain ⟨-, hf⟩ := m_chkE hf
            obtain ⟨o34, ho, hf⟩ := m_calE hf
            have h_o34 := fra_t h_o32 (fa_X1_at ho) (by decide)
            clear ho
            obtain ⟨-, hf⟩ := m_chkE hf
            obtain ⟨-, hf⟩ := m_chkE hf
            obtain ⟨⟨r36, S37⟩, ho, hf⟩ := m_cal2E hf
            have h_S37 := fra_t h_o34 (fa_X2_readRemarks ho) (by decide)
            clear ho
            rcases m_ifE hf with ⟨-, hf⟩ | ⟨-, hf⟩
            ·
              exact fra_t h_S37 (fa_X2_readMove_233  hf) (fun _ h => h)
            ·
              exact fra_t h_S37 (fa_X2_readMove_234  hf) (fun _ h => h)
      ·
        obtain ⟨-, hf⟩ := m_chkE hf
        obtain ⟨o41, ho, hf⟩ := m_calE hf
        have h_o41 := fra_t h_o15 (fa_X2_refuse ho) (by decide)
        clear ho
        obtain ⟨-, hf⟩ := m_chkE hf
        obtain ⟨-, hf⟩ := m_chkE hf
        cases hf
        exact h_o41
    ·
      rcases m_ifE hf with ⟨-, hf⟩ | ⟨-, hf⟩
      ·
        exact fra_t h_S9 (fa_X2_readMove_110  hf) (fun _ h => h)
      ·
        exact fra_t h_S9 (fa_X2_readMove_110  hf) (fun _ h => h)
theorem fa_X2_readMove_0 {o : Int32 × ZS} {x0 : Nat} {x1 : Int32} {S : ZS}  (hf : d_X2_readMove_0 x0 x1 S = some o) : FrA [13, 14] S o.2 := by
  have h_S : FrA [13, 14] S S := fra_0
  unfold d_X2_readMove_0 at hf
  obtain ⟨-, hf⟩ := m_chkE hf
  obtain ⟨b1, -, hf⟩ := m_calE hf
  obtain ⟨-, hf⟩ := m_chkE hf
  obtain ⟨-, hf⟩ := m_chkE hf
  obtain ⟨b2, -, hf⟩ := m_calE hf
  obtain ⟨-, hf⟩ := m_chkE hf
  obtain ⟨b3, -, hf⟩ := m_calE hf
  obtain ⟨-, hf⟩ := m_chkE hf
  obtain ⟨-, hf⟩ := m_chkE hf
  obtain ⟨o4, ho, hf⟩ := m_calE hf
  have h_o4 := fra_t h_S (fa_X6_at ho) (by decide)
  clear ho
  obtain ⟨-, hf⟩ := m_chkE hf
  obtain ⟨o5, ho, hf⟩ := m_calE hf
  have h_o5 := fra_t h_o4 (fa_X11_isDigit ho) (by decide)
  clear ho
  obtain ⟨-, hf⟩ := m_chkE hf
  rcases m_ifE hf with ⟨-, hf⟩ | ⟨-, hf⟩
  ·
    exact fra_t h_o5 (fa_X2_readMove_37  hf) (fun _ h => h)
  ·
    obtain ⟨-, hf⟩ := m_chkE hf
    obtain ⟨-, hf⟩ := m_chkE hf
    obtain ⟨o6, ho, hf⟩ := m_calE hf
    have h_o6 := fra_t h_o5 (fa_X2_readNumber ho) (by decide)
    clear ho
    obtain ⟨-, hf⟩ := m_chkE hf
    rcases m_ifE hf with ⟨-, hf⟩ | ⟨-, hf⟩
    ·
      obtain ⟨-, hf⟩ := m_chkE hf
      cases hf
      exact h_o6
    ·
      exact fra_t h_o6 (fa_X2_readMove_37  hf) (fun _ h => h)
theorem fa_X2_readMove {o : Int32 × ZS} {x0 : Nat} {x1 : Int32} {S : ZS}  (hf : d_X2_readMove x0 x1 S = some o) : FrA [13, 14] S o.2 := by
  have h_S : FrA [13, 14] S S := fra_0
  unfold d_X2_readMove at hf
  exact fra_t h_S (fa_X2_readMove_0  hf) (fun _ h => h)
theorem fa_X2_readMoves_197 {o : Int32 × ZS} {self34 : Nat → Int32 → Int32 → ZS → Option (Int32 × ZS)} {x0 : Nat} {x1 : Int32} {x2 : Int32} {S : ZS} (hself34 : ∀ (z0 : Nat) (z1 : Int32) (z2 : Int32) (S : ZS) (o : Int32 × ZS), self34 z0 z1 z2 S = some o → FrA [13, 14] S o.2) (hf : d_X2_readMoves_197 self34 x0 x1 x2 S = some o) : FrA [13, 14] S o.2 := by
  have h_S : FrA [13, 14] S S := fra_0
  unfold d_X2_readMoves_197 at hf
  obtain ⟨v1, e1, hf⟩ := m_bndE hf
  exact fra_t h_S (hself34 _ _ _ _ _ hf) (fun _ h => h)
theorem fa_X2_readMoves_187 {o : Int32 × ZS} {self34 : Nat → Int32 → Int32 → ZS → Option (Int32 × ZS)} {x0 : Nat} {x1 : Int32} {x2 : Int32} {S : ZS} (hself34 : ∀ (z0 : Nat) (z1 : Int32) (z2 : Int32) (S : ZS) (o : Int32 × ZS), self34 z0 z1 z2 S = some o → FrA [13, 14] S o.2) (hf : d_X2_readMoves_187 self34 x0 x1 x2 S = some o) : FrA [13, 14] S o.2 := by
  have h_S : FrA [13, 14] S S := fra_0
  unfold d_X2_readMoves_187 at hf
  obtain ⟨-, hf⟩ := m_chkE hf
  obtain ⟨⟨r2, S3⟩, ho, hf⟩ := m_cal2E hf
  have h_S3 := fra_t h_S (fa_X2_readMove ho) (by decide)
  clear ho
  rcases m_ifE hf with ⟨-, hf⟩ | ⟨-, hf⟩
  ·
    obtain ⟨-, hf⟩ := m_chkE hf
    cases hf
    exact h_S3
  ·
    exact fra_t h_S3 (fa_X2_readMoves_197 hself34 hf) (fun _ h => h)
theorem fa_X2_readMoves_128 {o : Int32 × ZS} {self34 : Nat → Int32 → Int32 → ZS → Option (Int32 × ZS)} {x0 : Nat} {x1 : Int32} {x2 : Int32} {x3 : Int32} {S : ZS} (hself34 : ∀ (z0 : Nat) (z1 : Int32) (z2 : Int32) (S : ZS) (o : Int32 × ZS), self34 z0 z1 z2 S = some o → FrA [13, 14] S o.2) (hf : d_X2_readMoves_128 self34 x0 x1 x2 x3 S = some o) : FrA [13, 14] S o.2 := by
  have h_S : FrA [13, 14] S S := fra_0
  unfold d_X2_readMoves_128 at hf
  rcases m_ifE hf with ⟨-, hf⟩ | ⟨-, hf⟩
  ·
    exact fra_t h_S (fa_X2_readMoves_187 hself34 hf) (fun _ h => h)
  ·
    rcases m_ifE hf with ⟨-, hf⟩ | ⟨-, hf⟩
    ·
      exact fra_t h_S (fa_X2_readMoves_187 hself34 hf) (fun _ h => h)
    ·
      obtain ⟨-, hf⟩ := m_chkE hf
      obtain ⟨b1, -, hf⟩ := m_calE hf
      obtain ⟨-, hf⟩ := m_chkE hf
      obtain ⟨-, hf⟩ := m_chkE hf
      obtain ⟨o2, ho, hf⟩ := m_calE hf
      have h_o2 := fra_t h_S (fa_X6_at ho) (by decide)
      clear ho
      obtain ⟨-, hf⟩ := m_chkE hf
      rcases m_ifE hf with ⟨-, hf⟩ | ⟨-, hf⟩
      ·
        obtain ⟨v3, e1, hf⟩ := m_bndE hf
        obtain ⟨-, hf⟩ := m_chkE hf
        obtain ⟨v4, e2, hf⟩ := m_bndE hf
        obtain ⟨-, hf⟩ := m_chkE hf
        obtain ⟨S5, e3, hf⟩ := m_bndE hf
        have h_S5 := fra_I h_o2 e3
        obtain ⟨-, hf⟩ := m_chkE hf
        obtain ⟨b6, -, hf⟩ := m_calE hf
        obtain ⟨-, hf⟩ := m_chkE hf
        obtain ⟨b7, -, hf⟩ := m_calE hf
        obtain ⟨q4, hf⟩ := m_chkE hf
        obtain ⟨-, hf⟩ := m_chkE hf
        obtain ⟨v8, e5, hf⟩ := m_bndE hf
        obtain ⟨-, hf⟩ := m_chkE hf
        obtain ⟨o9, ho, hf⟩ := m_calE hf
        have h_o9 := fra_t h_S5 (fa_X1_at ho) (by decide)
        clear ho
        obtain ⟨-, hf⟩ := m_chkE hf
        obtain ⟨-, hf⟩ := m_chkE hf
        obtain ⟨⟨r11, S12⟩, ho, hf⟩ := m_cal2E hf
        have h_S12 := fra_t h_o9 (fa_X2_readRemarks ho) (by decide)
        clear ho
        rcases m_ifE hf with ⟨-, hf⟩ | ⟨-, hf⟩
        ·
          obtain ⟨-, hf⟩ := m_chkE hf
          cases hf
          exact h_S12
        ·
          exact fra_t h_S12 (fa_X2_readMoves_197 hself34 hf) (fun _ h => h)
      ·
        exact fra_t h_o2 (fa_X2_readMoves_187 hself34 hf) (fun _ h => h)
theorem fa_X2_readMoves_80 {o : Int32 × ZS} {self34 : Nat → Int32 → Int32 → ZS → Option (Int32 × ZS)} {x0 : Nat} {x1 : Int32} {x2 : Int32} {x3 : Int32} {S : ZS} (hself34 : ∀ (z0 : Nat) (z1 : Int32) (z2 : Int32) (S : ZS) (o : Int32 × ZS), self34 z0 z1 z2 S = some o → FrA [13, 14] S o.2) (hf : d_X2_readMoves_80 self34 x0 x1 x2 x3 S = some o) : FrA [13, 14] S o.2 := by
  have h_S : FrA [13, 14] S S := fra_0
  unfold d_X2_readMoves_80 at hf
  rcases m_ifE hf with ⟨-, hf⟩ | ⟨-, hf⟩
  ·
    exact fra_t h_S (fa_X2_readMoves_128 hself34 hf) (fun _ h => h)
  ·
    obtain ⟨-, hf⟩ := m_chkE hf
    obtain ⟨b1, -, hf⟩ := m_calE hf
    obtain ⟨-, hf⟩ := m_chkE hf
    obtain ⟨-, hf⟩ := m_chkE hf
    obtain ⟨o2, ho, hf⟩ := m_calE hf
    have h_o2 := fra_t h_S (fa_X6_at ho) (by decide)
    clear ho
    obtain ⟨-, hf⟩ := m_chkE hf
    rcases m_ifE hf with ⟨-, hf⟩ | ⟨-, hf⟩
    ·
      rcases m_ifE hf with ⟨-, hf⟩ | ⟨-, hf⟩
      ·
        obtain ⟨v3, e1, hf⟩ := m_bndE hf
        obtain ⟨-, hf⟩ := m_chkE hf
        obtain ⟨o4, ho, hf⟩ := m_calE hf
        have h_o4 := fra_t h_o2 (fa_X2_openLine ho) (by decide)
        clear ho
        obtain ⟨-, hf⟩ := m_chkE hf
        exact fra_t h_o4 (fa_X2_readMoves_197 hself34 hf) (fun _ h => h)
      ·
        obtain ⟨-, hf⟩ := m_chkE hf
        obtain ⟨-, hf⟩ := m_chkE hf
        obtain ⟨o5, ho, hf⟩ := m_calE hf
        have h_o5 := fra_t h_o2 (fa_X2_refuse ho) (by decide)
        clear ho
        obtain ⟨-, hf⟩ := m_chkE hf
        obtain ⟨-, hf⟩ := m_chkE hf
        cases hf
        exact h_o5
    ·
      exact fra_t h_o2 (fa_X2_readMoves_128 hself34 hf) (fun _ h => h)
theorem fa_X2_readMoves_65 {o : Int32 × ZS} {self34 : Nat → Int32 → Int32 → ZS → Option (Int32 × ZS)} {x0 : Nat} {x1 : Int32} {x2 : Int32} {t0 : Int32} {S : ZS} (hself34 : ∀ (z0 : Nat) (z1 : Int32) (z2 : Int32) (S : ZS) (o : Int32 × ZS), self34 z0 z1 z2 S = some o → FrA [13, 14] S o.2) (hf : d_X2_readMoves_65 self34 x0 x1 x2 t0 S = some o) : FrA [13, 14] S o.2 := by
  have h_S : FrA [13, 14] S S := fra_0
  unfold d_X2_readMoves_65 at hf
  rcases m_ifE hf with ⟨-, hf⟩ | ⟨-, hf⟩
  ·
    obtain ⟨-, hf⟩ := m_chkE hf
    obtain ⟨o1, ho, hf⟩ := m_calE hf
    have h_o1 := fra_t h_S (fa_X2_resultHere ho) (by decide)
    clear ho
    obtain ⟨-, hf⟩ := m_chkE hf
    rcases m_ifE hf with ⟨-, hf⟩ | ⟨-, hf⟩
    ·
      exact fra_t h_o1 (fa_X2_readMoves_80 hself34 hf) (fun _ h => h)
    ·
      obtain ⟨-, hf⟩ := m_chkE hf
      cases hf
      exact h_o1
  ·
    exact fra_t h_S (fa_X2_readMoves_80 hself34 hf) (fun _ h => h)
theorem fa_X2_readMoves_34s {o : Int32 × ZS} {self34 : Nat → Int32 → Int32 → ZS → Option (Int32 × ZS)} {x0 : Nat} {x1 : Int32} {x2 : Int32} {S : ZS} (hself34 : ∀ (z0 : Nat) (z1 : Int32) (z2 : Int32) (S : ZS) (o : Int32 × ZS), self34 z0 z1 z2 S = some o → FrA [13, 14] S o.2) (hf : d_X2_readMoves_34s self34 x0 x1 x2 S = some o) : FrA [13, 14] S o.2 := by
  have h_S : FrA [13, 14] S S := fra_0
  unfold d_X2_readMoves_34s at hf
  rcases m_ifE hf with ⟨-, hf⟩ | ⟨-, hf⟩
  ·
    obtain ⟨-, hf⟩ := m_chkE hf
    obtain ⟨-, hf⟩ := m_chkE hf
    obtain ⟨o1, ho, hf⟩ := m_calE hf
    have h_o1 := fra_t h_S (fa_X2_refuse ho) (by decide)
    clear ho
    obtain ⟨-, hf⟩ := m_chkE hf
    obtain ⟨-, hf⟩ := m_chkE hf
    cases hf
    exact h_o1
  ·
    obtain ⟨-, hf⟩ := m_chkE hf
    obtain ⟨o2, ho, hf⟩ := m_calE hf
    have h_o2 := fra_t h_S (fa_X2_skipBlanks ho) (by decide)
    clear ho
    obtain ⟨-, hf⟩ := m_chkE hf
    obtain ⟨-, hf⟩ := m_chkE hf
    obtain ⟨b3, -, hf⟩ := m_calE hf
    obtain ⟨q1, hf⟩ := m_chkE hf
    obtain ⟨-, hf⟩ := m_chkE hf
    obtain ⟨v4, e2, hf⟩ := m_bndE hf
    obtain ⟨-, hf⟩ := m_chkE hf
    obtain ⟨b5, -, hf⟩ := m_calE hf
    obtain ⟨q3, hf⟩ := m_chkE hf
    obtain ⟨-, hf⟩ := m_chkE hf
    obtain ⟨v6, e4, hf⟩ := m_bndE hf
    rcases m_ifE hf with ⟨-, hf⟩ | ⟨-, hf⟩
    ·
      exact fra_t h_o2 (fa_X2_readMoves_65 hself34 hf) (fun _ h => h)
    ·
      exact fra_t h_o2 (fa_X2_readMoves_65 hself34 hf) (fun _ h => h)
theorem fa_X2_readMoves_34   (n : Nat) : ∀ (y0 : Nat) (y1 : Int32) (y2 : Int32) (S : ZS) (o : Int32 × ZS), d_X2_readMoves_34  n y0 y1 y2 S = some o → FrA [13, 14] S o.2 := by
  induction n with
  | zero => intro y0 y1 y2 S o hf; cases hf
  | succ n ih => intro y0 y1 y2 S o hf; exact fa_X2_readMoves_34s  ih hf
theorem fa_X2_readMoves_0 {o : Int32 × ZS} {x0 : Nat} {S : ZS}  (hf : d_X2_readMoves_0 x0 S = some o) : FrA [13, 14] S o.2 := by
  have h_S : FrA [13, 14] S S := fra_0
  unfold d_X2_readMoves_0 at hf
  obtain ⟨-, hf⟩ := m_chkE hf
  obtain ⟨b1, -, hf⟩ := m_calE hf
  obtain ⟨q1, hf⟩ := m_chkE hf
  obtain ⟨-, hf⟩ := m_chkE hf
  obtain ⟨S2, e2, hf⟩ := m_bndE hf
  have h_S2 := fra_A h_S q1 e2 (by decide)
  obtain ⟨-, hf⟩ := m_chkE hf
  obtain ⟨b3, -, hf⟩ := m_calE hf
  obtain ⟨q3, hf⟩ := m_chkE hf
  obtain ⟨-, hf⟩ := m_chkE hf
  obtain ⟨S4, e4, hf⟩ := m_bndE hf
  have h_S4 := fra_A h_S2 q3 e4 (by decide)
  obtain ⟨-, hf⟩ := m_chkE hf
  obtain ⟨b5, -, hf⟩ := m_calE hf
  obtain ⟨-, hf⟩ := m_chkE hf
  obtain ⟨-, hf⟩ := m_chkE hf
  obtain ⟨b6, -, hf⟩ := m_calE hf
  obtain ⟨-, hf⟩ := m_chkE hf
  obtain ⟨b7, -, hf⟩ := m_calE hf
  obtain ⟨-, hf⟩ := m_chkE hf
  obtain ⟨b8, -, hf⟩ := m_calE hf
  obtain ⟨-, hf⟩ := m_chkE hf
  obtain ⟨o9, ho, hf⟩ := m_calE hf
  have h_o9 := fra_t h_S4 (fa_X0_copyFrom ho) (by decide)
  clear ho
  obtain ⟨-, hf⟩ := m_chkE hf
  exact fra_t h_o9 (fa_X2_readMoves_34  _ _ _ _ _ _ hf) (fun _ h => h)
theorem fa_X2_readMoves {o : Int32 × ZS} {x0 : Nat} {S : ZS}  (hf : d_X2_readMoves x0 S = some o) : FrA [13, 14] S o.2 := by
  have h_S : FrA [13, 14] S S := fra_0
  unfold d_X2_readMoves at hf
  exact fra_t h_S (fa_X2_readMoves_0  hf) (fun _ h => h)
theorem fa_X2_readEnd_86 {o : Int32 × ZS} {t0 : Int32} {S : ZS}  (hf : d_X2_readEnd_86 t0 S = some o) : FrA [] S o.2 := by
  have h_S : FrA [] S S := fra_0
  unfold d_X2_readEnd_86 at hf
  obtain ⟨-, hf⟩ := m_chkE hf
  cases hf
  exact h_S
theorem fa_X2_readEnd_81 {o : Int32 × ZS} {S : ZS}  (hf : d_X2_readEnd_81 S = some o) : FrA [] S o.2 := by
  have h_S : FrA [] S S := fra_0
  unfold d_X2_readEnd_81 at hf
  exact fra_t h_S (fa_X2_readEnd_86  hf) (fun _ h => h)
theorem fa_X2_readEnd_0 {o : Int32 × ZS} {x0 : Nat} {S : ZS}  (hf : d_X2_readEnd_0 x0 S = some o) : FrA [] S o.2 := by
  have h_S : FrA [] S S := fra_0
  unfold d_X2_readEnd_0 at hf
  obtain ⟨-, hf⟩ := m_chkE hf
  obtain ⟨o1, ho, hf⟩ := m_calE hf
  have h_o1 := fra_t h_S (fa_X2_resultHere ho) (by decide)
  clear ho
  obtain ⟨-, hf⟩ := m_chkE hf
  obtain ⟨-, hf⟩ := m_chkE hf
  obtain ⟨b2, -, hf⟩ := m_calE hf
  obtain ⟨-, hf⟩ := m_chkE hf
  obtain ⟨⟨r4, S5⟩, ho, hf⟩ := m_cal2E hf
  have h_S5 := fra_t h_o1 (fa_X1_agreesWith ho) (by decide)
  clear ho
  rcases m_ifE hf with ⟨-, hf⟩ | ⟨-, hf⟩
  ·
    obtain ⟨-, hf⟩ := m_chkE hf
    obtain ⟨-, hf⟩ := m_chkE hf
    obtain ⟨o18, ho, hf⟩ := m_calE hf
    have h_o18 := fra_t h_S5 (fa_X2_refuse ho) (by decide)
    clear ho
    obtain ⟨-, hf⟩ := m_chkE hf
    obtain ⟨-, hf⟩ := m_chkE hf
    cases hf
    exact h_o18
  ·
    obtain ⟨-, hf⟩ := m_chkE hf
    obtain ⟨b8, -, hf⟩ := m_calE hf
    obtain ⟨-, hf⟩ := m_chkE hf
    obtain ⟨S9, e1, hf⟩ := m_bndE hf
    have h_S9 := fra_I h_S5 e1
    obtain ⟨-, hf⟩ := m_chkE hf
    obtain ⟨o10, ho, hf⟩ := m_calE hf
    have h_o10 := fra_t h_S9 (fa_X11_resultSign ho) (by decide)
    clear ho
    obtain ⟨-, hf⟩ := m_chkE hf
    obtain ⟨-, hf⟩ := m_chkE hf
    obtain ⟨o11, ho, hf⟩ := m_calE hf
    have h_o11 := fra_t h_o10 (fa_J0_length_8abf5 ho) (by decide)
    clear ho
    obtain ⟨-, hf⟩ := m_chkE hf
    obtain ⟨v12, e2, hf⟩ := m_bndE hf
    obtain ⟨-, hf⟩ := m_chkE hf
    obtain ⟨S13, e3, hf⟩ := m_bndE hf
    have h_S13 := fra_I h_o11 e3
    obtain ⟨-, hf⟩ := m_chkE hf
    obtain ⟨o14, ho, hf⟩ := m_calE hf
    have h_o14 := fra_t h_S13 (fa_X2_skipBlanks ho) (by decide)
    clear ho
    obtain ⟨-, hf⟩ := m_chkE hf
    obtain ⟨-, hf⟩ := m_chkE hf
    obtain ⟨-, hf⟩ := m_chkE hf
    obtain ⟨b15, -, hf⟩ := m_calE hf
    obtain ⟨-, hf⟩ := m_chkE hf
    obtain ⟨o16, ho, hf⟩ := m_calE hf
    have h_o16 := fra_t h_o14 (fa_X6_size ho) (by decide)
    clear ho
    obtain ⟨-, hf⟩ := m_chkE hf
    rcases m_ifE hf with ⟨-, hf⟩ | ⟨-, hf⟩
    ·
      exact fra_t h_o16 (fa_X2_readEnd_81  hf) (fun _ h => h)
    ·
      obtain ⟨-, hf⟩ := m_chkE hf
      obtain ⟨-, hf⟩ := m_chkE hf
      obtain ⟨o17, ho, hf⟩ := m_calE hf
      have h_o17 := fra_t h_o16 (fa_X2_refuse ho) (by decide)
      clear ho
      obtain ⟨-, hf⟩ := m_chkE hf
      rcases m_ifE hf with ⟨-, hf⟩ | ⟨-, hf⟩
      ·
        exact fra_t h_o17 (fa_X2_readEnd_86  hf) (fun _ h => h)
      ·
        exact fra_t h_o17 (fa_X2_readEnd_81  hf) (fun _ h => h)
theorem fa_X2_readEnd {o : Int32 × ZS} {x0 : Nat} {S : ZS}  (hf : d_X2_readEnd x0 S = some o) : FrA [] S o.2 := by
  have h_S : FrA [] S S := fra_0
  unfold d_X2_readEnd at hf
  exact fra_t h_S (fa_X2_readEnd_0  hf) (fun _ h => h)
theorem fa_X9_init_0 {o : Int32 × ZS} {x0 : Nat} {S : ZS}  (hf : d_X9_init_0 x0 S = some o) : FrA [] S o.2 := by
  have h_S : FrA [] S S := fra_0
  unfold d_X9_init_0 at hf
  obtain ⟨q1, e1, hf⟩ := m_bndE hf
  obtain ⟨S2, e2, hf⟩ := m_bndE hf
  have h_S2 := fra_nO h_S e1 e2
  obtain ⟨⟨r6, S7⟩, ho, hf⟩ := m_cal2E hf
  have h_S7 := fra_t h_S2 (fa_X7_init ho) (by decide)
  clear ho
  obtain ⟨-, hf⟩ := m_chkE hf
  obtain ⟨S10, e3, hf⟩ := m_bndE hf
  have h_S10 := fra_P h_S7 e3
  cases hf
  exact h_S10
theorem fa_X9_init {o : Int32 × ZS} {x0 : Nat} {S : ZS}  (hf : d_X9_init x0 S = some o) : FrA [] S o.2 := by
  have h_S : FrA [] S S := fra_0
  unfold d_X9_init at hf
  exact fra_t h_S (fa_X9_init_0  hf) (fun _ h => h)
theorem fa_X3_init_26s {o : Int32 × ZS} {self26 : Nat → Int32 → ZS → Option (Int32 × ZS)} {x0 : Nat} {x1 : Int32} {S : ZS} (hself26 : ∀ (z0 : Nat) (z1 : Int32) (S : ZS) (o : Int32 × ZS), self26 z0 z1 S = some o → FrA [] S o.2) (hf : d_X3_init_26s self26 x0 x1 S = some o) : FrA [] S o.2 := by
  have h_S : FrA [] S S := fra_0
  unfold d_X3_init_26s at hf
  rcases m_ifE hf with ⟨-, hf⟩ | ⟨-, hf⟩
  ·
    cases hf
    exact h_S
  ·
    obtain ⟨-, hf⟩ := m_chkE hf
    obtain ⟨b1, -, hf⟩ := m_calE hf
    obtain ⟨q2, e1, hf⟩ := m_bndE hf
    obtain ⟨S3, e2, hf⟩ := m_bndE hf
    have h_S3 := fra_nO h_S e1 e2
    obtain ⟨⟨r7, S8⟩, ho, hf⟩ := m_cal2E hf
    have h_S8 := fra_t h_S3 (fa_X0_init ho) (by decide)
    clear ho
    obtain ⟨-, hf⟩ := m_chkE hf
    obtain ⟨-, hf⟩ := m_chkE hf
    obtain ⟨-, hf⟩ := m_chkE hf
    obtain ⟨S11, e3, hf⟩ := m_bndE hf
    have h_S11 := fra_B h_S8 e3
    obtain ⟨v12, e4, hf⟩ := m_bndE hf
    exact fra_t h_S11 (hself26 _ _ _ _ hf) (fun _ h => h)
theorem fa_X3_init_26   (n : Nat) : ∀ (y0 : Nat) (y1 : Int32) (S : ZS) (o : Int32 × ZS), d_X3_init_26  n y0 y1 S = some o → FrA [] S o.2 := by
  induction n with
  | zero => intro y0 y1 S o hf; cases hf
  | succ n ih => intro y0 y1 S o hf; exact fa_X3_init_26s  ih hf
theorem fa_X3_init_0 {o : Int32 × ZS} {x0 : Nat} {S : ZS}  (hf : d_X3_init_0 x0 S = some o) : FrA [] S o.2 := by
  have h_S : FrA [] S S := fra_0
  unfold d_X3_init_0 at hf
  obtain ⟨q1, e1, hf⟩ := m_bndE hf
  obtain ⟨S2, e2, hf⟩ := m_bndE hf
  have h_S2 := fra_nO h_S e1 e2
  obtain ⟨⟨r6, S7⟩, ho, hf⟩ := m_cal2E hf
  have h_S7 := fra_t h_S2 (fa_X9_init ho) (by decide)
  clear ho
  obtain ⟨-, hf⟩ := m_chkE hf
  obtain ⟨S10, e3, hf⟩ := m_bndE hf
  have h_S10 := fra_P h_S7 e3
  obtain ⟨-, hf⟩ := m_chkE hf
  obtain ⟨q11, e4, hf⟩ := m_bndE hf
  obtain ⟨S12, e5, hf⟩ := m_bndE hf
  have h_S12 := fra_nA h_S10 e4 e5
  obtain ⟨-, hf⟩ := m_chkE hf
  obtain ⟨S15, e6, hf⟩ := m_bndE hf
  have h_S15 := fra_P h_S12 e6
  exact fra_t h_S15 (fa_X3_init_26  _ _ _ _ _ hf) (fun _ h => h)
theorem fa_X3_init {o : Int32 × ZS} {x0 : Nat} {S : ZS}  (hf : d_X3_init x0 S = some o) : FrA [] S o.2 := by
  have h_S : FrA [] S S := fra_0
  unfold d_X3_init at hf
  exact fra_t h_S (fa_X3_init_0  hf) (fun _ h => h)
theorem fa_X6_putText_2s {o : Int32 × ZS} {self2 : Nat → Nat → Int32 → ZS → Option (Int32 × ZS)} {x0 : Nat} {x1 : Nat} {x2 : Int32} {S : ZS} (hself2 : ∀ (z0 : Nat) (z1 : Nat) (z2 : Int32) (S : ZS) (o : Int32 × ZS), self2 z0 z1 z2 S = some o → FrA [13] S o.2) (hf : d_X6_putText_2s self2 x0 x1 x2 S = some o) : FrA [13] S o.2 := by
  have h_S : FrA [13] S S := fra_0
  unfold d_X6_putText_2s at hf
  obtain ⟨-, hf⟩ := m_chkE hf
  obtain ⟨o1, ho, hf⟩ := m_calE hf
  have h_o1 := fra_t h_S (fa_J0_length_8abf5 ho) (by decide)
  clear ho
  obtain ⟨-, hf⟩ := m_chkE hf
  rcases m_ifE hf with ⟨-, hf⟩ | ⟨-, hf⟩
  ·
    cases hf
    exact h_o1
  ·
    obtain ⟨-, hf⟩ := m_chkE hf
    obtain ⟨o2, ho, hf⟩ := m_calE hf
    have h_o2 := fra_t h_o1 (fa_J0_charAt_5068e ho) (by decide)
    clear ho
    obtain ⟨-, hf⟩ := m_chkE hf
    obtain ⟨-, hf⟩ := m_chkE hf
    obtain ⟨⟨r4, S5⟩, ho, hf⟩ := m_cal2E hf
    have h_S5 := fra_t h_o2 (fa_X6_put ho) (by decide)
    clear ho
    obtain ⟨v8, e1, hf⟩ := m_bndE hf
    exact fra_t h_S5 (hself2 _ _ _ _ _ hf) (fun _ h => h)
theorem fa_X6_putText_2   (n : Nat) : ∀ (y0 : Nat) (y1 : Nat) (y2 : Int32) (S : ZS) (o : Int32 × ZS), d_X6_putText_2  n y0 y1 y2 S = some o → FrA [13] S o.2 := by
  induction n with
  | zero => intro y0 y1 y2 S o hf; cases hf
  | succ n ih => intro y0 y1 y2 S o hf; exact fa_X6_putText_2s  ih hf
theorem fa_X6_putText_0 {o : Int32 × ZS} {x0 : Nat} {x1 : Nat} {S : ZS}  (hf : d_X6_putText_0 x0 x1 S = some o) : FrA [13] S o.2 := by
  have h_S : FrA [13] S S := fra_0
  unfold d_X6_putText_0 at hf
  exact fra_t h_S (fa_X6_putText_2  _ _ _ _ _ _ hf) (fun _ h => h)
theorem fa_X6_putText {o : Int32 × ZS} {x0 : Nat} {x1 : Nat} {S : ZS}  (hf : d_X6_putText x0 x1 S = some o) : FrA [13] S o.2 := by
  have h_S : FrA [13] S S := fra_0
  unfold d_X6_putText at hf
  exact fra_t h_S (fa_X6_putText_0  hf) (fun _ h => h)
theorem fa_X3_putQuoted_34 {o : Int32 × ZS} {self2 : Nat → Nat → Int32 → ZS → Option (Int32 × ZS)} {x0 : Nat} {x1 : Nat} {x2 : Int32} {x3 : Int32} {S : ZS} (hself2 : ∀ (z0 : Nat) (z1 : Nat) (z2 : Int32) (S : ZS) (o : Int32 × ZS), self2 z0 z1 z2 S = some o → FrA [13] S o.2) (hf : d_X3_putQuoted_34 self2 x0 x1 x2 x3 S = some o) : FrA [13] S o.2 := by
  have h_S : FrA [13] S S := fra_0
  unfold d_X3_putQuoted_34 at hf
  obtain ⟨-, hf⟩ := m_chkE hf
  obtain ⟨⟨r2, S3⟩, ho, hf⟩ := m_cal2E hf
  have h_S3 := fra_t h_S (fa_X6_put ho) (by decide)
  clear ho
  obtain ⟨v6, e1, hf⟩ := m_bndE hf
  exact fra_t h_S3 (hself2 _ _ _ _ _ hf) (fun _ h => h)
theorem fa_X3_putQuoted_28 {o : Int32 × ZS} {self2 : Nat → Nat → Int32 → ZS → Option (Int32 × ZS)} {x0 : Nat} {x1 : Nat} {x2 : Int32} {x3 : Int32} {S : ZS} (hself2 : ∀ (z0 : Nat) (z1 : Nat) (z2 : Int32) (S : ZS) (o : Int32 × ZS), self2 z0 z1 z2 S = some o → FrA [13] S o.2) (hf : d_X3_putQuoted_28 self2 x0 x1 x2 x3 S = some o) : FrA [13] S o.2 := by
  have h_S : FrA [13] S S := fra_0
  unfold d_X3_putQuoted_28 at hf
  obtain ⟨-, hf⟩ := m_chkE hf
  obtain ⟨⟨r2, S3⟩, ho, hf⟩ := m_cal2E hf
  have h_S3 := fra_t h_S (fa_X6_put ho) (by decide)
  clear ho
  exact fra_t h_S3 (fa_X3_putQuoted_34 hself2 hf) (fun _ h => h)
theorem fa_X3_putQuoted_2s {o : Int32 × ZS} {self2 : Nat → Nat → Int32 → ZS → Option (Int32 × ZS)} {x0 : Nat} {x1 : Nat} {x2 : Int32} {S : ZS} (hself2 : ∀ (z0 : Nat) (z1 : Nat) (z2 : Int32) (S : ZS) (o : Int32 × ZS), self2 z0 z1 z2 S = some o → FrA [13] S o.2) (hf : d_X3_putQuoted_2s self2 x0 x1 x2 S = some o) : FrA [13] S o.2 := by
  have h_S : FrA [13] S S := fra_0
  unfold d_X3_putQuoted_2s at hf
  obtain ⟨-, hf⟩ := m_chkE hf
  obtain ⟨o1, ho, hf⟩ := m_calE hf
  have h_o1 := fra_t h_S (fa_X6_size ho) (by decide)
  clear ho
  obtain ⟨-, hf⟩ := m_chkE hf
  rcases m_ifE hf with ⟨-, hf⟩ | ⟨-, hf⟩
  ·
    cases hf
    exact h_o1
  ·
    obtain ⟨-, hf⟩ := m_chkE hf
    obtain ⟨o2, ho, hf⟩ := m_calE hf
    have h_o2 := fra_t h_o1 (fa_X6_at ho) (by decide)
    clear ho
    obtain ⟨-, hf⟩ := m_chkE hf
    rcases m_ifE hf with ⟨-, hf⟩ | ⟨-, hf⟩
    ·
      exact fra_t h_o2 (fa_X3_putQuoted_28 hself2 hf) (fun _ h => h)
    ·
      rcases m_ifE hf with ⟨-, hf⟩ | ⟨-, hf⟩
      ·
        exact fra_t h_o2 (fa_X3_putQuoted_28 hself2 hf) (fun _ h => h)
      ·
        exact fra_t h_o2 (fa_X3_putQuoted_34 hself2 hf) (fun _ h => h)
theorem fa_X3_putQuoted_2   (n : Nat) : ∀ (y0 : Nat) (y1 : Nat) (y2 : Int32) (S : ZS) (o : Int32 × ZS), d_X3_putQuoted_2  n y0 y1 y2 S = some o → FrA [13] S o.2 := by
  induction n with
  | zero => intro y0 y1 y2 S o hf; cases hf
  | succ n ih => intro y0 y1 y2 S o hf; exact fa_X3_putQuoted_2s  ih hf
theorem fa_X3_putQuoted_0 {o : Int32 × ZS} {x0 : Nat} {x1 : Nat} {S : ZS}  (hf : d_X3_putQuoted_0 x0 x1 S = some o) : FrA [13] S o.2 := by
  have h_S : FrA [13] S S := fra_0
  unfold d_X3_putQuoted_0 at hf
  exact fra_t h_S (fa_X3_putQuoted_2  _ _ _ _ _ _ hf) (fun _ h => h)
theorem fa_X3_putQuoted {o : Int32 × ZS} {x0 : Nat} {x1 : Nat} {S : ZS}  (hf : d_X3_putQuoted x0 x1 S = some o) : FrA [13] S o.2 := by
  have h_S : FrA [13] S S := fra_0
  unfold d_X3_putQuoted at hf
  exact fra_t h_S (fa_X3_putQuoted_0  hf) (fun _ h => h)
theorem fa_X3_putGap_33 {o : Int32 × ZS} {S : ZS}  (hf : d_X3_putGap_33 S = some o) : FrA [13] S o.2 := by
  have h_S : FrA [13] S S := fra_0
  unfold d_X3_putGap_33 at hf
  cases hf
  exact h_S
theorem fa_X3_putGap_0 {o : Int32 × ZS} {x0 : Nat} {S : ZS}  (hf : d_X3_putGap_0 x0 S = some o) : FrA [13] S o.2 := by
  have h_S : FrA [13] S S := fra_0
  unfold d_X3_putGap_0 at hf
  obtain ⟨-, hf⟩ := m_chkE hf
  obtain ⟨o1, ho, hf⟩ := m_calE hf
  have h_o1 := fra_t h_S (fa_X6_size ho) (by decide)
  clear ho
  obtain ⟨-, hf⟩ := m_chkE hf
  obtain ⟨v2, e1, hf⟩ := m_bndE hf
  obtain ⟨-, hf⟩ := m_chkE hf
  obtain ⟨o3, ho, hf⟩ := m_calE hf
  have h_o3 := fra_t h_o1 (fa_X6_at ho) (by decide)
  clear ho
  obtain ⟨-, hf⟩ := m_chkE hf
  rcases m_ifE hf with ⟨-, hf⟩ | ⟨-, hf⟩
  ·
    exact fra_t h_o3 (fa_X3_putGap_33  hf) (fun _ h => h)
  ·
    rcases m_ifE hf with ⟨-, hf⟩ | ⟨-, hf⟩
    ·
      exact fra_t h_o3 (fa_X3_putGap_33  hf) (fun _ h => h)
    ·
      rcases m_ifE hf with ⟨-, hf⟩ | ⟨-, hf⟩
      ·
        exact fra_t h_o3 (fa_X3_putGap_33  hf) (fun _ h => h)
      ·
        obtain ⟨-, hf⟩ := m_chkE hf
        obtain ⟨⟨r5, S6⟩, ho, hf⟩ := m_cal2E hf
        have h_S6 := fra_t h_o3 (fa_X6_put ho) (by decide)
        clear ho
        exact fra_t h_S6 (fa_X3_putGap_33  hf) (fun _ h => h)
theorem fa_X3_putGap {o : Int32 × ZS} {x0 : Nat} {S : ZS}  (hf : d_X3_putGap x0 S = some o) : FrA [13] S o.2 := by
  have h_S : FrA [13] S S := fra_0
  unfold d_X3_putGap at hf
  exact fra_t h_S (fa_X3_putGap_0  hf) (fun _ h => h)
theorem fa_X3_putRemark_0 {o : Int32 × ZS} {x0 : Nat} {x1 : Nat} {S : ZS}  (hf : d_X3_putRemark_0 x0 x1 S = some o) : FrA [13] S o.2 := by
  have h_S : FrA [13] S S := fra_0
  unfold d_X3_putRemark_0 at hf
  obtain ⟨-, hf⟩ := m_chkE hf
  obtain ⟨b1, -, hf⟩ := m_calE hf
  obtain ⟨-, hf⟩ := m_chkE hf
  obtain ⟨o2, ho, hf⟩ := m_calE hf
  have h_o2 := fra_t h_S (fa_X6_size ho) (by decide)
  clear ho
  obtain ⟨-, hf⟩ := m_chkE hf
  rcases m_ifE hf with ⟨-, hf⟩ | ⟨-, hf⟩
  ·
    cases hf
    exact h_o2
  ·
    obtain ⟨⟨r4, S5⟩, ho, hf⟩ := m_cal2E hf
    have h_S5 := fra_t h_o2 (fa_X3_putGap ho) (by decide)
    clear ho
    obtain ⟨-, hf⟩ := m_chkE hf
    obtain ⟨⟨r9, S10⟩, ho, hf⟩ := m_cal2E hf
    have h_S10 := fra_t h_S5 (fa_X6_put ho) (by decide)
    clear ho
    obtain ⟨-, hf⟩ := m_chkE hf
    obtain ⟨b13, -, hf⟩ := m_calE hf
    obtain ⟨-, hf⟩ := m_chkE hf
    obtain ⟨⟨r15, S16⟩, ho, hf⟩ := m_cal2E hf
    have h_S16 := fra_t h_S10 (fa_X6_putAll ho) (by decide)
    clear ho
    obtain ⟨-, hf⟩ := m_chkE hf
    obtain ⟨⟨r20, S21⟩, ho, hf⟩ := m_cal2E hf
    have h_S21 := fra_t h_S16 (fa_X6_put ho) (by decide)
    clear ho
    cases hf
    exact h_S21
theorem fa_X3_putRemark {o : Int32 × ZS} {x0 : Nat} {x1 : Nat} {S : ZS}  (hf : d_X3_putRemark x0 x1 S = some o) : FrA [13] S o.2 := by
  have h_S : FrA [13] S S := fra_0
  unfold d_X3_putRemark at hf
  exact fra_t h_S (fa_X3_putRemark_0  hf) (fun _ h => h)
theorem fa_X3_putHead_72 {o : Int32 × ZS} {x0 : Nat} {x1 : Nat} {x2 : Nat} {S : ZS}  (hf : d_X3_putHead_72 x0 x1 x2 S = some o) : FrA [13, 14] S o.2 := by
  have h_S : FrA [13, 14] S S := fra_0
  unfold d_X3_putHead_72 at hf
  obtain ⟨-, hf⟩ := m_chkE hf
  obtain ⟨o1, ho, hf⟩ := m_calE hf
  have h_o1 := fra_t h_S (fa_X1_at ho) (by decide)
  clear ho
  obtain ⟨-, hf⟩ := m_chkE hf
  obtain ⟨⟨r3, S4⟩, ho, hf⟩ := m_cal2E hf
  have h_S4 := fra_t h_o1 (fa_X3_putRemark ho) (by decide)
  clear ho
  obtain ⟨-, hf⟩ := m_chkE hf
  obtain ⟨b7, -, hf⟩ := m_calE hf
  obtain ⟨-, hf⟩ := m_chkE hf
  obtain ⟨-, hf⟩ := m_chkE hf
  obtain ⟨b8, -, hf⟩ := m_calE hf
  obtain ⟨-, hf⟩ := m_chkE hf
  obtain ⟨b9, -, hf⟩ := m_calE hf
  obtain ⟨-, hf⟩ := m_chkE hf
  obtain ⟨o10, ho, hf⟩ := m_calE hf
  have h_o10 := fra_t h_S4 (fa_X0_copyFrom ho) (by decide)
  clear ho
  obtain ⟨-, hf⟩ := m_chkE hf
  cases hf
  exact h_o10
theorem fa_X3_putHead_2s {o : Int32 × ZS} {self2 : Nat → Nat → Nat → Int32 → ZS → Option (Int32 × ZS)} {x0 : Nat} {x1 : Nat} {x2 : Nat} {x3 : Int32} {S : ZS} (hself2 : ∀ (z0 : Nat) (z1 : Nat) (z2 : Nat) (z3 : Int32) (S : ZS) (o : Int32 × ZS), self2 z0 z1 z2 z3 S = some o → FrA [13, 14] S o.2) (hf : d_X3_putHead_2s self2 x0 x1 x2 x3 S = some o) : FrA [13, 14] S o.2 := by
  have h_S : FrA [13, 14] S S := fra_0
  unfold d_X3_putHead_2s at hf
  obtain ⟨-, hf⟩ := m_chkE hf
  rcases m_ifE hf with ⟨-, hf⟩ | ⟨-, hf⟩
  ·
    obtain ⟨-, hf⟩ := m_chkE hf
    rcases m_ifE hf with ⟨-, hf⟩ | ⟨-, hf⟩
    ·
      exact fra_t h_S (fa_X3_putHead_72  hf) (fun _ h => h)
    ·
      obtain ⟨-, hf⟩ := m_chkE hf
      obtain ⟨⟨r2, S3⟩, ho, hf⟩ := m_cal2E hf
      have h_S3 := fra_t h_S (fa_X6_put ho) (by decide)
      clear ho
      exact fra_t h_S3 (fa_X3_putHead_72  hf) (fun _ h => h)
  ·
    obtain ⟨-, hf⟩ := m_chkE hf
    obtain ⟨⟨r7, S8⟩, ho, hf⟩ := m_cal2E hf
    have h_S8 := fra_t h_S (fa_X1_tagAt ho) (by decide)
    clear ho
    obtain ⟨-, hf⟩ := m_chkE hf
    obtain ⟨⟨r12, S13⟩, ho, hf⟩ := m_cal2E hf
    have h_S13 := fra_t h_S8 (fa_X6_put ho) (by decide)
    clear ho
    obtain ⟨-, hf⟩ := m_chkE hf
    obtain ⟨b16, -, hf⟩ := m_calE hf
    obtain ⟨-, hf⟩ := m_chkE hf
    obtain ⟨⟨r18, S19⟩, ho, hf⟩ := m_cal2E hf
    have h_S19 := fra_t h_S13 (fa_X6_putAll ho) (by decide)
    clear ho
    obtain ⟨-, hf⟩ := m_chkE hf
    obtain ⟨⟨r23, S24⟩, ho, hf⟩ := m_cal2E hf
    have h_S24 := fra_t h_S19 (fa_X6_putText ho) (by decide)
    clear ho
    obtain ⟨-, hf⟩ := m_chkE hf
    obtain ⟨b27, -, hf⟩ := m_calE hf
    obtain ⟨⟨r29, S30⟩, ho, hf⟩ := m_cal2E hf
    have h_S30 := fra_t h_S24 (fa_X3_putQuoted ho) (by decide)
    clear ho
    obtain ⟨-, hf⟩ := m_chkE hf
    obtain ⟨⟨r34, S35⟩, ho, hf⟩ := m_cal2E hf
    have h_S35 := fra_t h_S30 (fa_X6_putText ho) (by decide)
    clear ho
    obtain ⟨v38, e1, hf⟩ := m_bndE hf
    exact fra_t h_S35 (hself2 _ _ _ _ _ _ hf) (fun _ h => h)
theorem fa_X3_putHead_2   (n : Nat) : ∀ (y0 : Nat) (y1 : Nat) (y2 : Nat) (y3 : Int32) (S : ZS) (o : Int32 × ZS), d_X3_putHead_2  n y0 y1 y2 y3 S = some o → FrA [13, 14] S o.2 := by
  induction n with
  | zero => intro y0 y1 y2 y3 S o hf; cases hf
  | succ n ih => intro y0 y1 y2 y3 S o hf; exact fa_X3_putHead_2s  ih hf
theorem fa_X3_putHead_0 {o : Int32 × ZS} {x0 : Nat} {x1 : Nat} {x2 : Nat} {S : ZS}  (hf : d_X3_putHead_0 x0 x1 x2 S = some o) : FrA [13, 14] S o.2 := by
  have h_S : FrA [13, 14] S S := fra_0
  unfold d_X3_putHead_0 at hf
  exact fra_t h_S (fa_X3_putHead_2  _ _ _ _ _ _ _ hf) (fun _ h => h)
theorem fa_X3_putHead {o : Int32 × ZS} {x0 : Nat} {x1 : Nat} {x2 : Nat} {S : ZS}  (hf : d_X3_putHead x0 x1 x2 S = some o) : FrA [13, 14] S o.2 := by
  have h_S : FrA [13, 14] S S := fra_0
  unfold d_X3_putHead at hf
  exact fra_t h_S (fa_X3_putHead_0  hf) (fun _ h => h)
theorem fa_X3_putEnd_0 {o : Int32 × ZS} {x1 : Nat} {x2 : Nat} {S : ZS}  (hf : d_X3_putEnd_0 x1 x2 S = some o) : FrA [13] S o.2 := by
  have h_S : FrA [13] S S := fra_0
  unfold d_X3_putEnd_0 at hf
  obtain ⟨⟨r2, S3⟩, ho, hf⟩ := m_cal2E hf
  have h_S3 := fra_t h_S (fa_X3_putGap ho) (by decide)
  clear ho
  obtain ⟨-, hf⟩ := m_chkE hf
  obtain ⟨o6, ho, hf⟩ := m_calE hf
  have h_o6 := fra_t h_S3 (fa_X11_resultSign ho) (by decide)
  clear ho
  obtain ⟨-, hf⟩ := m_chkE hf
  obtain ⟨-, hf⟩ := m_chkE hf
  obtain ⟨⟨r8, S9⟩, ho, hf⟩ := m_cal2E hf
  have h_S9 := fra_t h_o6 (fa_X6_putText ho) (by decide)
  clear ho
  cases hf
  exact h_S9
theorem fa_X3_putEnd {o : Int32 × ZS} {x0 : Nat} {x1 : Nat} {x2 : Nat} {S : ZS}  (hf : d_X3_putEnd x0 x1 x2 S = some o) : FrA [13] S o.2 := by
  have h_S : FrA [13] S S := fra_0
  unfold d_X3_putEnd at hf
  exact fra_t h_S (fa_X3_putEnd_0  hf) (fun _ h => h)
theorem fa_X6_putNumber_29s {o : Int32 × ZS} {self29 : Nat → Int32 → Int32 → ZS → Option (Int32 × ZS)} {x0 : Nat} {x1 : Int32} {x2 : Int32} {S : ZS} (hself29 : ∀ (z0 : Nat) (z1 : Int32) (z2 : Int32) (S : ZS) (o : Int32 × ZS), self29 z0 z1 z2 S = some o → FrA [13] S o.2) (hf : d_X6_putNumber_29s self29 x0 x1 x2 S = some o) : FrA [13] S o.2 := by
  have h_S : FrA [13] S S := fra_0
  unfold d_X6_putNumber_29s at hf
  rcases m_ifE hf with ⟨-, hf⟩ | ⟨-, hf⟩
  ·
    cases hf
    exact h_S
  ·
    obtain ⟨-, hf⟩ := m_chkE hf
    obtain ⟨v1, e1, hf⟩ := m_bndE hf
    obtain ⟨v2, e2, hf⟩ := m_bndE hf
    obtain ⟨v3, e3, hf⟩ := m_bndE hf
    obtain ⟨v4, e4, hf⟩ := m_bndE hf
    obtain ⟨-, hf⟩ := m_chkE hf
    obtain ⟨⟨r6, S7⟩, ho, hf⟩ := m_cal2E hf
    have h_S7 := fra_t h_S (fa_X6_put ho) (by decide)
    clear ho
    obtain ⟨v10, e5, hf⟩ := m_bndE hf
    exact fra_t h_S7 (hself29 _ _ _ _ _ hf) (fun _ h => h)
theorem fa_X6_putNumber_29   (n : Nat) : ∀ (y0 : Nat) (y1 : Int32) (y2 : Int32) (S : ZS) (o : Int32 × ZS), d_X6_putNumber_29  n y0 y1 y2 S = some o → FrA [13] S o.2 := by
  induction n with
  | zero => intro y0 y1 y2 S o hf; cases hf
  | succ n ih => intro y0 y1 y2 S o hf; exact fa_X6_putNumber_29s  ih hf
theorem fa_X6_putNumber_4s {o : Int32 × ZS} {self4 : Nat → Int32 → Int32 → Int32 → ZS → Option (Int32 × ZS)} {x0 : Nat} {x1 : Int32} {x2 : Int32} {x3 : Int32} {S : ZS} (hself4 : ∀ (z0 : Nat) (z1 : Int32) (z2 : Int32) (z3 : Int32) (S : ZS) (o : Int32 × ZS), self4 z0 z1 z2 z3 S = some o → FrA [13] S o.2) (hf : d_X6_putNumber_4s self4 x0 x1 x2 x3 S = some o) : FrA [13] S o.2 := by
  have h_S : FrA [13] S S := fra_0
  unfold d_X6_putNumber_4s at hf
  rcases m_ifE hf with ⟨-, hf⟩ | ⟨-, hf⟩
  ·
    exact fra_t h_S (fa_X6_putNumber_29  _ _ _ _ _ _ hf) (fun _ h => h)
  ·
    obtain ⟨-, hf⟩ := m_chkE hf
    obtain ⟨v1, e1, hf⟩ := m_bndE hf
    rcases m_ifE hf with ⟨-, hf⟩ | ⟨-, hf⟩
    ·
      exact fra_t h_S (fa_X6_putNumber_29  _ _ _ _ _ _ hf) (fun _ h => h)
    ·
      obtain ⟨v2, e2, hf⟩ := m_bndE hf
      obtain ⟨v3, e3, hf⟩ := m_bndE hf
      exact fra_t h_S (hself4 _ _ _ _ _ _ hf) (fun _ h => h)
theorem fa_X6_putNumber_4   (n : Nat) : ∀ (y0 : Nat) (y1 : Int32) (y2 : Int32) (y3 : Int32) (S : ZS) (o : Int32 × ZS), d_X6_putNumber_4  n y0 y1 y2 y3 S = some o → FrA [13] S o.2 := by
  induction n with
  | zero => intro y0 y1 y2 y3 S o hf; cases hf
  | succ n ih => intro y0 y1 y2 y3 S o hf; exact fa_X6_putNumber_4s  ih hf
theorem fa_X6_putNumber_0 {o : Int32 × ZS} {x0 : Nat} {x1 : Int32} {S : ZS}  (hf : d_X6_putNumber_0 x0 x1 S = some o) : FrA [13] S o.2 := by
  have h_S : FrA [13] S S := fra_0
  unfold d_X6_putNumber_0 at hf
  exact fra_t h_S (fa_X6_putNumber_4  _ _ _ _ _ _ _ hf) (fun _ h => h)
theorem fa_X6_putNumber {o : Int32 × ZS} {x0 : Nat} {x1 : Int32} {S : ZS}  (hf : d_X6_putNumber x0 x1 S = some o) : FrA [13] S o.2 := by
  have h_S : FrA [13] S S := fra_0
  unfold d_X6_putNumber at hf
  exact fra_t h_S (fa_X6_putNumber_0  hf) (fun _ h => h)
theorem fa_X9_putApart_162 {o : Int32 × ZS} {S : ZS}  (hf : d_X9_putApart_162 S = some o) : FrA [13, 14] S o.2 := by
  have h_S : FrA [13, 14] S S := fra_0
  unfold d_X9_putApart_162 at hf
  cases hf
  exact h_S
theorem fa_X9_putApart_148 {o : Int32 × ZS} {x2 : Int32} {x4 : Nat} {x6 : Int32} {S : ZS}  (hf : d_X9_putApart_148 x2 x4 x6 S = some o) : FrA [13, 14] S o.2 := by
  have h_S : FrA [13, 14] S S := fra_0
  unfold d_X9_putApart_148 at hf
  rcases m_ifE hf with ⟨-, hf⟩ | ⟨-, hf⟩
  ·
    exact fra_t h_S (fa_X9_putApart_162  hf) (fun _ h => h)
  ·
    obtain ⟨o1, ho, hf⟩ := m_calE hf
    have h_o1 := fra_t h_S (fa_X11_rankDigit ho) (by decide)
    clear ho
    obtain ⟨-, hf⟩ := m_chkE hf
    obtain ⟨-, hf⟩ := m_chkE hf
    obtain ⟨⟨r3, S4⟩, ho, hf⟩ := m_cal2E hf
    have h_S4 := fra_t h_o1 (fa_X6_put ho) (by decide)
    clear ho
    exact fra_t h_S4 (fa_X9_putApart_162  hf) (fun _ h => h)
theorem fa_X9_putApart_139 {o : Int32 × ZS} {x2 : Int32} {x4 : Nat} {x6 : Int32} {S : ZS}  (hf : d_X9_putApart_139 x2 x4 x6 S = some o) : FrA [13, 14] S o.2 := by
  have h_S : FrA [13, 14] S S := fra_0
  unfold d_X9_putApart_139 at hf
  obtain ⟨o1, ho, hf⟩ := m_calE hf
  have h_o1 := fra_t h_S (fa_X11_fileLetter ho) (by decide)
  clear ho
  obtain ⟨-, hf⟩ := m_chkE hf
  obtain ⟨-, hf⟩ := m_chkE hf
  obtain ⟨⟨r3, S4⟩, ho, hf⟩ := m_cal2E hf
  have h_S4 := fra_t h_o1 (fa_X6_put ho) (by decide)
  clear ho
  exact fra_t h_S4 (fa_X9_putApart_148  hf) (fun _ h => h)
theorem fa_X9_putApart_118 {o : Int32 × ZS} {self12 : Nat → Nat → Int32 → Int32 → Nat → Int32 → Int32 → Int32 → Int32 → ZS → Option (Int32 × ZS)} {x0 : Nat} {x1 : Nat} {x2 : Int32} {x3 : Int32} {x4 : Nat} {x5 : Int32} {x6 : Int32} {x7 : Int32} {x8 : Int32} {S : ZS} (hself12 : ∀ (z0 : Nat) (z1 : Nat) (z2 : Int32) (z3 : Int32) (z4 : Nat) (z5 : Int32) (z6 : Int32) (z7 : Int32) (z8 : Int32) (S : ZS) (o : Int32 × ZS), self12 z0 z1 z2 z3 z4 z5 z6 z7 z8 S = some o → FrA [13, 14] S o.2) (hf : d_X9_putApart_118 self12 x0 x1 x2 x3 x4 x5 x6 x7 x8 S = some o) : FrA [13, 14] S o.2 := by
  have h_S : FrA [13, 14] S S := fra_0
  unfold d_X9_putApart_118 at hf
  obtain ⟨v1, e1, hf⟩ := m_bndE hf
  exact fra_t h_S (hself12 _ _ _ _ _ _ _ _ _ _ _ hf) (fun _ h => h)
theorem fa_X9_putApart_116 {o : Int32 × ZS} {self12 : Nat → Nat → Int32 → Int32 → Nat → Int32 → Int32 → Int32 → Int32 → ZS → Option (Int32 × ZS)} {x0 : Nat} {x1 : Nat} {x2 : Int32} {x3 : Int32} {x4 : Nat} {x5 : Int32} {x6 : Int32} {x8 : Int32} {t0 : Int32} {S : ZS} (hself12 : ∀ (z0 : Nat) (z1 : Nat) (z2 : Int32) (z3 : Int32) (z4 : Nat) (z5 : Int32) (z6 : Int32) (z7 : Int32) (z8 : Int32) (S : ZS) (o : Int32 × ZS), self12 z0 z1 z2 z3 z4 z5 z6 z7 z8 S = some o → FrA [13, 14] S o.2) (hf : d_X9_putApart_116 self12 x0 x1 x2 x3 x4 x5 x6 x8 t0 S = some o) : FrA [13, 14] S o.2 := by
  have h_S : FrA [13, 14] S S := fra_0
  unfold d_X9_putApart_116 at hf
  exact fra_t h_S (fa_X9_putApart_118 hself12 hf) (fun _ h => h)
theorem fa_X9_putApart_111 {o : Int32 × ZS} {self12 : Nat → Nat → Int32 → Int32 → Nat → Int32 → Int32 → Int32 → Int32 → ZS → Option (Int32 × ZS)} {x0 : Nat} {x1 : Nat} {x2 : Int32} {x3 : Int32} {x4 : Nat} {x5 : Int32} {x6 : Int32} {x8 : Int32} {S : ZS} (hself12 : ∀ (z0 : Nat) (z1 : Nat) (z2 : Int32) (z3 : Int32) (z4 : Nat) (z5 : Int32) (z6 : Int32) (z7 : Int32) (z8 : Int32) (S : ZS) (o : Int32 × ZS), self12 z0 z1 z2 z3 z4 z5 z6 z7 z8 S = some o → FrA [13, 14] S o.2) (hf : d_X9_putApart_111 self12 x0 x1 x2 x3 x4 x5 x6 x8 S = some o) : FrA [13, 14] S o.2 := by
  have h_S : FrA [13, 14] S S := fra_0
  unfold d_X9_putApart_111 at hf
  exact fra_t h_S (fa_X9_putApart_116 hself12 hf) (fun _ h => h)
theorem fa_X9_putApart_94 {o : Int32 × ZS} {self12 : Nat → Nat → Int32 → Int32 → Nat → Int32 → Int32 → Int32 → Int32 → ZS → Option (Int32 × ZS)} {x0 : Nat} {x1 : Nat} {x2 : Int32} {x3 : Int32} {x4 : Nat} {x5 : Int32} {x7 : Int32} {x8 : Int32} {t0 : Int32} {S : ZS} (hself12 : ∀ (z0 : Nat) (z1 : Nat) (z2 : Int32) (z3 : Int32) (z4 : Nat) (z5 : Int32) (z6 : Int32) (z7 : Int32) (z8 : Int32) (S : ZS) (o : Int32 × ZS), self12 z0 z1 z2 z3 z4 z5 z6 z7 z8 S = some o → FrA [13, 14] S o.2) (hf : d_X9_putApart_94 self12 x0 x1 x2 x3 x4 x5 x7 x8 t0 S = some o) : FrA [13, 14] S o.2 := by
  have h_S : FrA [13, 14] S S := fra_0
  unfold d_X9_putApart_94 at hf
  rcases m_ifE hf with ⟨-, hf⟩ | ⟨-, hf⟩
  ·
    obtain ⟨v1, e1, hf⟩ := m_bndE hf
    obtain ⟨v2, e2, hf⟩ := m_bndE hf
    rcases m_ifE hf with ⟨-, hf⟩ | ⟨-, hf⟩
    ·
      exact fra_t h_S (fa_X9_putApart_111 hself12 hf) (fun _ h => h)
    ·
      exact fra_t h_S (fa_X9_putApart_116 hself12 hf) (fun _ h => h)
  ·
    exact fra_t h_S (fa_X9_putApart_111 hself12 hf) (fun _ h => h)
theorem fa_X9_putApart_89 {o : Int32 × ZS} {self12 : Nat → Nat → Int32 → Int32 → Nat → Int32 → Int32 → Int32 → Int32 → ZS → Option (Int32 × ZS)} {x0 : Nat} {x1 : Nat} {x2 : Int32} {x3 : Int32} {x4 : Nat} {x5 : Int32} {x7 : Int32} {x8 : Int32} {S : ZS} (hself12 : ∀ (z0 : Nat) (z1 : Nat) (z2 : Int32) (z3 : Int32) (z4 : Nat) (z5 : Int32) (z6 : Int32) (z7 : Int32) (z8 : Int32) (S : ZS) (o : Int32 × ZS), self12 z0 z1 z2 z3 z4 z5 z6 z7 z8 S = some o → FrA [13, 14] S o.2) (hf : d_X9_putApart_89 self12 x0 x1 x2 x3 x4 x5 x7 x8 S = some o) : FrA [13, 14] S o.2 := by
  have h_S : FrA [13, 14] S S := fra_0
  unfold d_X9_putApart_89 at hf
  exact fra_t h_S (fa_X9_putApart_94 hself12 hf) (fun _ h => h)
theorem fa_X9_putApart_12s {o : Int32 × ZS} {self12 : Nat → Nat → Int32 → Int32 → Nat → Int32 → Int32 → Int32 → Int32 → ZS → Option (Int32 × ZS)} {x0 : Nat} {x1 : Nat} {x2 : Int32} {x3 : Int32} {x4 : Nat} {x5 : Int32} {x6 : Int32} {x7 : Int32} {x8 : Int32} {S : ZS} (hself12 : ∀ (z0 : Nat) (z1 : Nat) (z2 : Int32) (z3 : Int32) (z4 : Nat) (z5 : Int32) (z6 : Int32) (z7 : Int32) (z8 : Int32) (S : ZS) (o : Int32 × ZS), self12 z0 z1 z2 z3 z4 z5 z6 z7 z8 S = some o → FrA [13, 14] S o.2) (hf : d_X9_putApart_12s self12 x0 x1 x2 x3 x4 x5 x6 x7 x8 S = some o) : FrA [13, 14] S o.2 := by
  have h_S : FrA [13, 14] S S := fra_0
  unfold d_X9_putApart_12s at hf
  rcases m_ifE hf with ⟨-, hf⟩ | ⟨-, hf⟩
  ·
    rcases m_ifE hf with ⟨-, hf⟩ | ⟨-, hf⟩
    ·
      exact fra_t h_S (fa_X9_putApart_148  hf) (fun _ h => h)
    ·
      rcases m_ifE hf with ⟨-, hf⟩ | ⟨-, hf⟩
      ·
        exact fra_t h_S (fa_X9_putApart_139  hf) (fun _ h => h)
      ·
        rcases m_ifE hf with ⟨-, hf⟩ | ⟨-, hf⟩
        ·
          exact fra_t h_S (fa_X9_putApart_148  hf) (fun _ h => h)
        ·
          exact fra_t h_S (fa_X9_putApart_139  hf) (fun _ h => h)
  ·
    rcases m_ifE hf with ⟨-, hf⟩ | ⟨-, hf⟩
    ·
      exact fra_t h_S (fa_X9_putApart_118 hself12 hf) (fun _ h => h)
    ·
      obtain ⟨-, hf⟩ := m_chkE hf
      obtain ⟨b1, -, hf⟩ := m_calE hf
      obtain ⟨q1, hf⟩ := m_chkE hf
      obtain ⟨-, hf⟩ := m_chkE hf
      obtain ⟨v2, e2, hf⟩ := m_bndE hf
      obtain ⟨-, hf⟩ := m_chkE hf
      obtain ⟨b3, -, hf⟩ := m_calE hf
      obtain ⟨q3, hf⟩ := m_chkE hf
      obtain ⟨-, hf⟩ := m_chkE hf
      obtain ⟨v4, e4, hf⟩ := m_bndE hf
      rcases m_ifE hf with ⟨-, hf⟩ | ⟨-, hf⟩
      ·
        obtain ⟨-, hf⟩ := m_chkE hf
        obtain ⟨o5, ho, hf⟩ := m_calE hf
        have h_o5 := fra_t h_S (fa_X0_reaches ho) (by decide)
        clear ho
        obtain ⟨-, hf⟩ := m_chkE hf
        rcases m_ifE hf with ⟨-, hf⟩ | ⟨-, hf⟩
        ·
          exact fra_t h_o5 (fa_X9_putApart_118 hself12 hf) (fun _ h => h)
        ·
          obtain ⟨-, hf⟩ := m_chkE hf
          obtain ⟨b6, -, hf⟩ := m_calE hf
          obtain ⟨v7, e5, hf⟩ := m_bndE hf
          obtain ⟨v8, e6, hf⟩ := m_bndE hf
          obtain ⟨-, hf⟩ := m_chkE hf
          obtain ⟨o9, ho, hf⟩ := m_calE hf
          have h_o9 := fra_t h_o5 (fa_X7_isSafe ho) (by decide)
          clear ho
          obtain ⟨-, hf⟩ := m_chkE hf
          rcases m_ifE hf with ⟨-, hf⟩ | ⟨-, hf⟩
          ·
            exact fra_t h_o9 (fa_X9_putApart_118 hself12 hf) (fun _ h => h)
          ·
            rcases m_ifE hf with ⟨-, hf⟩ | ⟨-, hf⟩
            ·
              obtain ⟨v10, e7, hf⟩ := m_bndE hf
              obtain ⟨v11, e8, hf⟩ := m_bndE hf
              rcases m_ifE hf with ⟨-, hf⟩ | ⟨-, hf⟩
              ·
                exact fra_t h_o9 (fa_X9_putApart_89 hself12 hf) (fun _ h => h)
              ·
                exact fra_t h_o9 (fa_X9_putApart_94 hself12 hf) (fun _ h => h)
            ·
              exact fra_t h_o9 (fa_X9_putApart_89 hself12 hf) (fun _ h => h)
      ·
        exact fra_t h_S (fa_X9_putApart_118 hself12 hf) (fun _ h => h)
theorem fa_X9_putApart_12   (n : Nat) : ∀ (y0 : Nat) (y1 : Nat) (y2 : Int32) (y3 : Int32) (y4 : Nat) (y5 : Int32) (y6 : Int32) (y7 : Int32) (y8 : Int32) (S : ZS) (o : Int32 × ZS), d_X9_putApart_12  n y0 y1 y2 y3 y4 y5 y6 y7 y8 S = some o → FrA [13, 14] S o.2 := by
  induction n with
  | zero => intro y0 y1 y2 y3 y4 y5 y6 y7 y8 S o hf; cases hf
  | succ n ih => intro y0 y1 y2 y3 y4 y5 y6 y7 y8 S o hf; exact fa_X9_putApart_12s  ih hf
theorem fa_X9_putApart_0 {o : Int32 × ZS} {x0 : Nat} {x1 : Nat} {x2 : Int32} {x3 : Int32} {x4 : Nat} {S : ZS}  (hf : d_X9_putApart_0 x0 x1 x2 x3 x4 S = some o) : FrA [13, 14] S o.2 := by
  have h_S : FrA [13, 14] S S := fra_0
  unfold d_X9_putApart_0 at hf
  exact fra_t h_S (fa_X9_putApart_12  _ _ _ _ _ _ _ _ _ _ _ _ hf) (fun _ h => h)
theorem fa_X9_putApart {o : Int32 × ZS} {x0 : Nat} {x1 : Nat} {x2 : Int32} {x3 : Int32} {x4 : Nat} {S : ZS}  (hf : d_X9_putApart x0 x1 x2 x3 x4 S = some o) : FrA [13, 14] S o.2 := by
  have h_S : FrA [13, 14] S S := fra_0
  unfold d_X9_putApart at hf
  exact fra_t h_S (fa_X9_putApart_0  hf) (fun _ h => h)
theorem fa_X9_putSigns_182 {o : Int32 × ZS} {S : ZS}  (hf : d_X9_putSigns_182 S = some o) : FrA [13, 14] S o.2 := by
  have h_S : FrA [13, 14] S S := fra_0
  unfold d_X9_putSigns_182 at hf
  cases hf
  exact h_S
theorem fa_X9_putSigns_160 {o : Int32 × ZS} {x0 : Nat} {x1 : Nat} {x2 : Int32} {x3 : Nat} {S : ZS}  (hf : d_X9_putSigns_160 x0 x1 x2 x3 S = some o) : FrA [13, 14] S o.2 := by
  have h_S : FrA [13, 14] S S := fra_0
  unfold d_X9_putSigns_160 at hf
  obtain ⟨-, hf⟩ := m_chkE hf
  obtain ⟨b1, -, hf⟩ := m_calE hf
  obtain ⟨-, hf⟩ := m_chkE hf
  obtain ⟨o2, ho, hf⟩ := m_calE hf
  have h_o2 := fra_t h_S (fa_X7_checkSign ho) (by decide)
  clear ho
  obtain ⟨-, hf⟩ := m_chkE hf
  rcases m_ifE hf with ⟨-, hf⟩ | ⟨-, hf⟩
  ·
    exact fra_t h_o2 (fa_X9_putSigns_182  hf) (fun _ h => h)
  ·
    obtain ⟨-, hf⟩ := m_chkE hf
    obtain ⟨⟨r4, S5⟩, ho, hf⟩ := m_cal2E hf
    have h_S5 := fra_t h_o2 (fa_X6_put ho) (by decide)
    clear ho
    exact fra_t h_S5 (fa_X9_putSigns_182  hf) (fun _ h => h)
theorem fa_X9_putSigns_136 {o : Int32 × ZS} {x0 : Nat} {x1 : Nat} {x2 : Int32} {x3 : Nat} {S : ZS}  (hf : d_X9_putSigns_136 x0 x1 x2 x3 S = some o) : FrA [13, 14] S o.2 := by
  have h_S : FrA [13, 14] S S := fra_0
  unfold d_X9_putSigns_136 at hf
  rcases m_ifE hf with ⟨-, hf⟩ | ⟨-, hf⟩
  ·
    exact fra_t h_S (fa_X9_putSigns_160  hf) (fun _ h => h)
  ·
    obtain ⟨-, hf⟩ := m_chkE hf
    obtain ⟨⟨r2, S3⟩, ho, hf⟩ := m_cal2E hf
    have h_S3 := fra_t h_S (fa_X6_put ho) (by decide)
    clear ho
    obtain ⟨v6, e1, hf⟩ := m_bndE hf
    obtain ⟨o7, ho, hf⟩ := m_calE hf
    have h_o7 := fra_t h_S3 (fa_X11_letterOf ho) (by decide)
    clear ho
    obtain ⟨-, hf⟩ := m_chkE hf
    obtain ⟨-, hf⟩ := m_chkE hf
    obtain ⟨⟨r9, S10⟩, ho, hf⟩ := m_cal2E hf
    have h_S10 := fra_t h_o7 (fa_X6_put ho) (by decide)
    clear ho
    exact fra_t h_S10 (fa_X9_putSigns_160  hf) (fun _ h => h)
theorem fa_X9_putSigns_118 {o : Int32 × ZS} {x0 : Nat} {x1 : Nat} {x2 : Int32} {x3 : Nat} {x5 : Int32} {S : ZS}  (hf : d_X9_putSigns_118 x0 x1 x2 x3 x5 S = some o) : FrA [13, 14] S o.2 := by
  have h_S : FrA [13, 14] S S := fra_0
  unfold d_X9_putSigns_118 at hf
  obtain ⟨o1, ho, hf⟩ := m_calE hf
  have h_o1 := fra_t h_S (fa_X11_fileLetter ho) (by decide)
  clear ho
  obtain ⟨-, hf⟩ := m_chkE hf
  obtain ⟨-, hf⟩ := m_chkE hf
  obtain ⟨⟨r3, S4⟩, ho, hf⟩ := m_cal2E hf
  have h_S4 := fra_t h_o1 (fa_X6_put ho) (by decide)
  clear ho
  obtain ⟨o7, ho, hf⟩ := m_calE hf
  have h_o7 := fra_t h_S4 (fa_X11_rankDigit ho) (by decide)
  clear ho
  obtain ⟨-, hf⟩ := m_chkE hf
  obtain ⟨-, hf⟩ := m_chkE hf
  obtain ⟨⟨r9, S10⟩, ho, hf⟩ := m_cal2E hf
  have h_S10 := fra_t h_o7 (fa_X6_put ho) (by decide)
  clear ho
  exact fra_t h_S10 (fa_X9_putSigns_136  hf) (fun _ h => h)
theorem fa_X9_putSigns_107 {o : Int32 × ZS} {x0 : Nat} {x1 : Nat} {x2 : Int32} {x3 : Nat} {x5 : Int32} {x6 : Int32} {S : ZS}  (hf : d_X9_putSigns_107 x0 x1 x2 x3 x5 x6 S = some o) : FrA [13, 14] S o.2 := by
  have h_S : FrA [13, 14] S S := fra_0
  unfold d_X9_putSigns_107 at hf
  rcases m_ifE hf with ⟨-, hf⟩ | ⟨-, hf⟩
  ·
    exact fra_t h_S (fa_X9_putSigns_118  hf) (fun _ h => h)
  ·
    obtain ⟨-, hf⟩ := m_chkE hf
    obtain ⟨⟨r2, S3⟩, ho, hf⟩ := m_cal2E hf
    have h_S3 := fra_t h_S (fa_X6_put ho) (by decide)
    clear ho
    exact fra_t h_S3 (fa_X9_putSigns_118  hf) (fun _ h => h)
theorem fa_X9_putSigns_41 {o : Int32 × ZS} {x0 : Nat} {x1 : Nat} {x2 : Int32} {x3 : Nat} {t0 : Nat} {t1 : Nat} {S : ZS}  (hf : d_X9_putSigns_41 x0 x1 x2 x3 t0 t1 S = some o) : FrA [13, 14] S o.2 := by
  have h_S : FrA [13, 14] S S := fra_0
  unfold d_X9_putSigns_41 at hf
  obtain ⟨-, hf⟩ := m_chkE hf
  obtain ⟨⟨r2, S3⟩, ho, hf⟩ := m_cal2E hf
  have h_S3 := fra_t h_S (fa_X6_putText ho) (by decide)
  clear ho
  exact fra_t h_S3 (fa_X9_putSigns_136  hf) (fun _ h => h)
theorem fa_X9_putSigns_0 {o : Int32 × ZS} {x0 : Nat} {x1 : Nat} {x2 : Int32} {x3 : Nat} {S : ZS}  (hf : d_X9_putSigns_0 x0 x1 x2 x3 S = some o) : FrA [13, 14] S o.2 := by
  have h_S : FrA [13, 14] S S := fra_0
  unfold d_X9_putSigns_0 at hf
  obtain ⟨v1, e1, hf⟩ := m_bndE hf
  obtain ⟨v2, e2, hf⟩ := m_bndE hf
  obtain ⟨v3, e3, hf⟩ := m_bndE hf
  obtain ⟨-, hf⟩ := m_chkE hf
  obtain ⟨o4, ho, hf⟩ := m_calE hf
  have h_o4 := fra_t h_S (fa_X0_castles ho) (by decide)
  clear ho
  obtain ⟨-, hf⟩ := m_chkE hf
  rcases m_ifE hf with ⟨-, hf⟩ | ⟨-, hf⟩
  ·
    obtain ⟨-, hf⟩ := m_chkE hf
    obtain ⟨o5, ho, hf⟩ := m_calE hf
    have h_o5 := fra_t h_o4 (fa_X0_takes ho) (by decide)
    clear ho
    obtain ⟨-, hf⟩ := m_chkE hf
    obtain ⟨-, hf⟩ := m_chkE hf
    obtain ⟨o6, ho, hf⟩ := m_calE hf
    have h_o6 := fra_t h_o5 (fa_X0_kindAt ho) (by decide)
    clear ho
    obtain ⟨-, hf⟩ := m_chkE hf
    rcases m_ifE hf with ⟨-, hf⟩ | ⟨-, hf⟩
    ·
      rcases m_ifE hf with ⟨-, hf⟩ | ⟨-, hf⟩
      ·
        exact fra_t h_o6 (fa_X9_putSigns_107  hf) (fun _ h => h)
      ·
        obtain ⟨o7, ho, hf⟩ := m_calE hf
        have h_o7 := fra_t h_o6 (fa_X11_fileLetter ho) (by decide)
        clear ho
        obtain ⟨-, hf⟩ := m_chkE hf
        obtain ⟨-, hf⟩ := m_chkE hf
        obtain ⟨⟨r9, S10⟩, ho, hf⟩ := m_cal2E hf
        have h_S10 := fra_t h_o7 (fa_X6_put ho) (by decide)
        clear ho
        exact fra_t h_S10 (fa_X9_putSigns_107  hf) (fun _ h => h)
    ·
      obtain ⟨-, hf⟩ := m_chkE hf
      obtain ⟨o13, ho, hf⟩ := m_calE hf
      have h_o13 := fra_t h_o6 (fa_X0_kindAt ho) (by decide)
      clear ho
      obtain ⟨-, hf⟩ := m_chkE hf
      obtain ⟨o14, ho, hf⟩ := m_calE hf
      have h_o14 := fra_t h_o13 (fa_X11_letterOf ho) (by decide)
      clear ho
      obtain ⟨-, hf⟩ := m_chkE hf
      obtain ⟨-, hf⟩ := m_chkE hf
      obtain ⟨⟨r16, S17⟩, ho, hf⟩ := m_cal2E hf
      have h_S17 := fra_t h_o14 (fa_X6_put ho) (by decide)
      clear ho
      obtain ⟨-, hf⟩ := m_chkE hf
      obtain ⟨⟨r21, S22⟩, ho, hf⟩ := m_cal2E hf
      have h_S22 := fra_t h_S17 (fa_X9_putApart ho) (by decide)
      clear ho
      exact fra_t h_S22 (fa_X9_putSigns_107  hf) (fun _ h => h)
  ·
    rcases m_ifE hf with ⟨-, hf⟩ | ⟨-, hf⟩
    ·
      exact fra_t h_o4 (fa_X9_putSigns_41  hf) (fun _ h => h)
    ·
      exact fra_t h_o4 (fa_X9_putSigns_41  hf) (fun _ h => h)
theorem fa_X9_putSigns {o : Int32 × ZS} {x0 : Nat} {x1 : Nat} {x2 : Int32} {x3 : Nat} {S : ZS}  (hf : d_X9_putSigns x0 x1 x2 x3 S = some o) : FrA [13, 14] S o.2 := by
  have h_S : FrA [13, 14] S S := fra_0
  unfold d_X9_putSigns at hf
  exact fra_t h_S (fa_X9_putSigns_0  hf) (fun _ h => h)
theorem fa_X3_putMove_66s {o : Int32 × ZS} {self66 : Nat → Nat → Int32 → ZS → Option (Int32 × ZS)} {x2 : Nat} {x4 : Nat} {x5 : Int32} {S : ZS} (hself66 : ∀ (z0 : Nat) (z1 : Nat) (z2 : Int32) (S : ZS) (o : Int32 × ZS), self66 z0 z1 z2 S = some o → FrA [13, 14] S o.2) (hf : d_X3_putMove_66s self66 x2 x4 x5 S = some o) : FrA [13, 14] S o.2 := by
  have h_S : FrA [13, 14] S S := fra_0
  unfold d_X3_putMove_66s at hf
  obtain ⟨-, hf⟩ := m_chkE hf
  rcases m_ifE hf with ⟨-, hf⟩ | ⟨-, hf⟩
  ·
    obtain ⟨⟨r2, S3⟩, ho, hf⟩ := m_cal2E hf
    have h_S3 := fra_t h_S (fa_X3_putRemark ho) (by decide)
    clear ho
    cases hf
    exact h_S3
  ·
    obtain ⟨⟨r7, S8⟩, ho, hf⟩ := m_cal2E hf
    have h_S8 := fra_t h_S (fa_X3_putGap ho) (by decide)
    clear ho
    obtain ⟨-, hf⟩ := m_chkE hf
    obtain ⟨⟨r12, S13⟩, ho, hf⟩ := m_cal2E hf
    have h_S13 := fra_t h_S8 (fa_X6_put ho) (by decide)
    clear ho
    obtain ⟨-, hf⟩ := m_chkE hf
    obtain ⟨o16, ho, hf⟩ := m_calE hf
    have h_o16 := fra_t h_S13 (fa_X4_markAt ho) (by decide)
    clear ho
    obtain ⟨-, hf⟩ := m_chkE hf
    obtain ⟨-, hf⟩ := m_chkE hf
    obtain ⟨⟨r18, S19⟩, ho, hf⟩ := m_cal2E hf
    have h_S19 := fra_t h_o16 (fa_X6_putNumber ho) (by decide)
    clear ho
    obtain ⟨v22, e1, hf⟩ := m_bndE hf
    exact fra_t h_S19 (hself66 _ _ _ _ _ hf) (fun _ h => h)
theorem fa_X3_putMove_66   (n : Nat) : ∀ (y0 : Nat) (y1 : Nat) (y2 : Int32) (S : ZS) (o : Int32 × ZS), d_X3_putMove_66  n y0 y1 y2 S = some o → FrA [13, 14] S o.2 := by
  induction n with
  | zero => intro y0 y1 y2 S o hf; cases hf
  | succ n ih => intro y0 y1 y2 S o hf; exact fa_X3_putMove_66s  ih hf
theorem fa_X3_putMove_44 {o : Int32 × ZS} {x0 : Nat} {x1 : Nat} {x2 : Nat} {x4 : Nat} {S : ZS}  (hf : d_X3_putMove_44 x0 x1 x2 x4 S = some o) : FrA [13, 14] S o.2 := by
  have h_S : FrA [13, 14] S S := fra_0
  unfold d_X3_putMove_44 at hf
  obtain ⟨⟨r2, S3⟩, ho, hf⟩ := m_cal2E hf
  have h_S3 := fra_t h_S (fa_X3_putGap ho) (by decide)
  clear ho
  obtain ⟨-, hf⟩ := m_chkE hf
  obtain ⟨b6, -, hf⟩ := m_calE hf
  obtain ⟨-, hf⟩ := m_chkE hf
  obtain ⟨-, hf⟩ := m_chkE hf
  obtain ⟨⟨r8, S9⟩, ho, hf⟩ := m_cal2E hf
  have h_S9 := fra_t h_S3 (fa_X9_putSigns ho) (by decide)
  clear ho
  exact fra_t h_S9 (fa_X3_putMove_66  _ _ _ _ _ _ hf) (fun _ h => h)
theorem fa_X3_putMove_41 {o : Int32 × ZS} {x0 : Nat} {x1 : Nat} {x2 : Nat} {x4 : Nat} {t0 : Nat} {t1 : Nat} {S : ZS}  (hf : d_X3_putMove_41 x0 x1 x2 x4 t0 t1 S = some o) : FrA [13, 14] S o.2 := by
  have h_S : FrA [13, 14] S S := fra_0
  unfold d_X3_putMove_41 at hf
  obtain ⟨-, hf⟩ := m_chkE hf
  obtain ⟨⟨r2, S3⟩, ho, hf⟩ := m_cal2E hf
  have h_S3 := fra_t h_S (fa_X6_putText ho) (by decide)
  clear ho
  exact fra_t h_S3 (fa_X3_putMove_44  hf) (fun _ h => h)
theorem fa_X3_putMove_11 {o : Int32 × ZS} {x0 : Nat} {x1 : Nat} {x2 : Nat} {x4 : Nat} {S : ZS}  (hf : d_X3_putMove_11 x0 x1 x2 x4 S = some o) : FrA [13, 14] S o.2 := by
  have h_S : FrA [13, 14] S S := fra_0
  unfold d_X3_putMove_11 at hf
  obtain ⟨⟨r2, S3⟩, ho, hf⟩ := m_cal2E hf
  have h_S3 := fra_t h_S (fa_X3_putGap ho) (by decide)
  clear ho
  obtain ⟨-, hf⟩ := m_chkE hf
  obtain ⟨-, hf⟩ := m_chkE hf
  obtain ⟨⟨r7, S8⟩, ho, hf⟩ := m_cal2E hf
  have h_S8 := fra_t h_S3 (fa_X6_putNumber ho) (by decide)
  clear ho
  obtain ⟨-, hf⟩ := m_chkE hf
  rcases m_ifE hf with ⟨-, hf⟩ | ⟨-, hf⟩
  ·
    exact fra_t h_S8 (fa_X3_putMove_41  hf) (fun _ h => h)
  ·
    exact fra_t h_S8 (fa_X3_putMove_41  hf) (fun _ h => h)
theorem fa_X3_putMove_0 {o : Int32 × ZS} {x0 : Nat} {x1 : Nat} {x2 : Nat} {x3 : Int32} {x4 : Nat} {S : ZS}  (hf : d_X3_putMove_0 x0 x1 x2 x3 x4 S = some o) : FrA [13, 14] S o.2 := by
  have h_S : FrA [13, 14] S S := fra_0
  unfold d_X3_putMove_0 at hf
  obtain ⟨-, hf⟩ := m_chkE hf
  rcases m_ifE hf with ⟨-, hf⟩ | ⟨-, hf⟩
  ·
    exact fra_t h_S (fa_X3_putMove_11  hf) (fun _ h => h)
  ·
    rcases m_ifE hf with ⟨-, hf⟩ | ⟨-, hf⟩
    ·
      exact fra_t h_S (fa_X3_putMove_44  hf) (fun _ h => h)
    ·
      exact fra_t h_S (fa_X3_putMove_11  hf) (fun _ h => h)
theorem fa_X3_putMove {o : Int32 × ZS} {x0 : Nat} {x1 : Nat} {x2 : Nat} {x3 : Int32} {x4 : Nat} {S : ZS}  (hf : d_X3_putMove x0 x1 x2 x3 x4 S = some o) : FrA [13, 14] S o.2 := by
  have h_S : FrA [13, 14] S S := fra_0
  unfold d_X3_putMove at hf
  exact fra_t h_S (fa_X3_putMove_0  hf) (fun _ h => h)
theorem fa_X3_putLine_206 {o : Int32 × ZS} {rec : Nat → Nat → Int32 → Int32 → Nat → ZS → Option (Int32 × ZS)} {S : ZS} (hrec : ∀ (z0 : Nat) (z1 : Nat) (z2 : Int32) (z3 : Int32) (z4 : Nat) (S : ZS) (o : Int32 × ZS), rec z0 z1 z2 z3 z4 S = some o → FrA [13, 14] S o.2) (hf : d_X3_putLine_206 rec S = some o) : FrA [13, 14] S o.2 := by
  have h_S : FrA [13, 14] S S := fra_0
  unfold d_X3_putLine_206 at hf
  cases hf
  exact h_S
theorem fa_X3_putLine_183 {o : Int32 × ZS} {rec : Nat → Nat → Int32 → Int32 → Nat → ZS → Option (Int32 × ZS)} {self24 : Nat → Nat → Int32 → Nat → Nat → Int32 → Int32 → Int32 → ZS → Option (Int32 × ZS)} {x0 : Nat} {x1 : Nat} {x3 : Int32} {x4 : Nat} {x5 : Nat} {x6 : Int32} {x8 : Int32} {x9 : Nat} {S : ZS} (hrec : ∀ (z0 : Nat) (z1 : Nat) (z2 : Int32) (z3 : Int32) (z4 : Nat) (S : ZS) (o : Int32 × ZS), rec z0 z1 z2 z3 z4 S = some o → FrA [13, 14] S o.2) (hself24 : ∀ (z0 : Nat) (z1 : Nat) (z2 : Int32) (z3 : Nat) (z4 : Nat) (z5 : Int32) (z6 : Int32) (z7 : Int32) (S : ZS) (o : Int32 × ZS), self24 z0 z1 z2 z3 z4 z5 z6 z7 S = some o → FrA [13, 14] S o.2) (hf : d_X3_putLine_183 rec self24 x0 x1 x3 x4 x5 x6 x8 x9 S = some o) : FrA [13, 14] S o.2 := by
  have h_S : FrA [13, 14] S S := fra_0
  unfold d_X3_putLine_183 at hf
  obtain ⟨-, hf⟩ := m_chkE hf
  obtain ⟨-, hf⟩ := m_chkE hf
  obtain ⟨o1, ho, hf⟩ := m_calE hf
  have h_o1 := fra_t h_S (fa_X0_play ho) (by decide)
  clear ho
  obtain ⟨-, hf⟩ := m_chkE hf
  obtain ⟨-, hf⟩ := m_chkE hf
  obtain ⟨v2, e1, hf⟩ := m_bndE hf
  exact fra_t h_o1 (hself24 _ _ _ _ _ _ _ _ _ _ hf) (fun _ h => h)
theorem fa_X3_putLine_99s {o : Int32 × ZS} {rec : Nat → Nat → Int32 → Int32 → Nat → ZS → Option (Int32 × ZS)} {self24 : Nat → Nat → Int32 → Nat → Nat → Int32 → Int32 → Int32 → ZS → Option (Int32 × ZS)} {self99 : Nat → Nat → Int32 → Nat → Nat → Int32 → Int32 → Nat → Int32 → Int32 → ZS → Option (Int32 × ZS)} {x0 : Nat} {x1 : Nat} {x3 : Int32} {x4 : Nat} {x5 : Nat} {x6 : Int32} {x8 : Int32} {x9 : Nat} {x10 : Int32} {x11 : Int32} {S : ZS} (hrec : ∀ (z0 : Nat) (z1 : Nat) (z2 : Int32) (z3 : Int32) (z4 : Nat) (S : ZS) (o : Int32 × ZS), rec z0 z1 z2 z3 z4 S = some o → FrA [13, 14] S o.2) (hself24 : ∀ (z0 : Nat) (z1 : Nat) (z2 : Int32) (z3 : Nat) (z4 : Nat) (z5 : Int32) (z6 : Int32) (z7 : Int32) (S : ZS) (o : Int32 × ZS), self24 z0 z1 z2 z3 z4 z5 z6 z7 S = some o → FrA [13, 14] S o.2) (hself99 : ∀ (z0 : Nat) (z1 : Nat) (z2 : Int32) (z3 : Nat) (z4 : Nat) (z5 : Int32) (z6 : Int32) (z7 : Nat) (z8 : Int32) (z9 : Int32) (S : ZS) (o : Int32 × ZS), self99 z0 z1 z2 z3 z4 z5 z6 z7 z8 z9 S = some o → FrA [13, 14] S o.2) (hf : d_X3_putLine_99s rec self24 self99 x0 x1 x3 x4 x5 x6 x8 x9 x10 x11 S = some o) : FrA [13, 14] S o.2 := by
  have h_S : FrA [13, 14] S S := fra_0
  unfold d_X3_putLine_99s at hf
  rcases m_ifE hf with ⟨-, hf⟩ | ⟨-, hf⟩
  ·
    exact fra_t h_S (fa_X3_putLine_183 hrec hself24 hf) (fun _ h => h)
  ·
    rcases m_ifE hf with ⟨-, hf⟩ | ⟨-, hf⟩
    ·
      exact fra_t h_S (fa_X3_putLine_183 hrec hself24 hf) (fun _ h => h)
    ·
      rcases m_ifE hf with ⟨-, hf⟩ | ⟨-, hf⟩
      ·
        exact fra_t h_S (fa_X3_putLine_183 hrec hself24 hf) (fun _ h => h)
      ·
        obtain ⟨-, hf⟩ := m_chkE hf
        obtain ⟨b1, -, hf⟩ := m_calE hf
        obtain ⟨v2, e1, hf⟩ := m_bndE hf
        obtain ⟨-, hf⟩ := m_chkE hf
        obtain ⟨-, hf⟩ := m_chkE hf
        obtain ⟨b3, -, hf⟩ := m_calE hf
        obtain ⟨-, hf⟩ := m_chkE hf
        obtain ⟨o4, ho, hf⟩ := m_calE hf
        have h_o4 := fra_t h_S (fa_X0_copyFrom ho) (by decide)
        clear ho
        obtain ⟨-, hf⟩ := m_chkE hf
        obtain ⟨⟨r6, S7⟩, ho, hf⟩ := m_cal2E hf
        have h_S7 := fra_t h_o4 (fa_X3_putGap ho) (by decide)
        clear ho
        obtain ⟨-, hf⟩ := m_chkE hf
        obtain ⟨⟨r11, S12⟩, ho, hf⟩ := m_cal2E hf
        have h_S12 := fra_t h_S7 (fa_X6_put ho) (by decide)
        clear ho
        obtain ⟨v15, e2, hf⟩ := m_bndE hf
        obtain ⟨-, hf⟩ := m_chkE hf
        obtain ⟨⟨r17, S18⟩, ho, hf⟩ := m_cal2E hf
        have h_S18 := fra_t h_S12 (hrec _ _ _ _ _ _ _ ho) (fun _ h => h)
        clear ho
        obtain ⟨-, hf⟩ := m_chkE hf
        obtain ⟨⟨r22, S23⟩, ho, hf⟩ := m_cal2E hf
        have h_S23 := fra_t h_S18 (fa_X6_put ho) (by decide)
        clear ho
        obtain ⟨-, hf⟩ := m_chkE hf
        obtain ⟨o26, ho, hf⟩ := m_calE hf
        have h_o26 := fra_t h_S23 (fa_X1_at ho) (by decide)
        clear ho
        obtain ⟨-, hf⟩ := m_chkE hf
        obtain ⟨-, hf⟩ := m_chkE hf
        obtain ⟨v27, e3, hf⟩ := m_bndE hf
        exact fra_t h_o26 (hself99 _ _ _ _ _ _ _ _ _ _ _ _ hf) (fun _ h => h)
theorem fa_X3_putLine_99 {rec : Nat → Nat → Int32 → Int32 → Nat → ZS → Option (Int32 × ZS)} {self24 : Nat → Nat → Int32 → Nat → Nat → Int32 → Int32 → Int32 → ZS → Option (Int32 × ZS)} (hrec : ∀ (z0 : Nat) (z1 : Nat) (z2 : Int32) (z3 : Int32) (z4 : Nat) (S : ZS) (o : Int32 × ZS), rec z0 z1 z2 z3 z4 S = some o → FrA [13, 14] S o.2) (hself24 : ∀ (z0 : Nat) (z1 : Nat) (z2 : Int32) (z3 : Nat) (z4 : Nat) (z5 : Int32) (z6 : Int32) (z7 : Int32) (S : ZS) (o : Int32 × ZS), self24 z0 z1 z2 z3 z4 z5 z6 z7 S = some o → FrA [13, 14] S o.2) (n : Nat) : ∀ (y0 : Nat) (y1 : Nat) (y2 : Int32) (y3 : Nat) (y4 : Nat) (y5 : Int32) (y6 : Int32) (y7 : Nat) (y8 : Int32) (y9 : Int32) (S : ZS) (o : Int32 × ZS), d_X3_putLine_99 rec self24 n y0 y1 y2 y3 y4 y5 y6 y7 y8 y9 S = some o → FrA [13, 14] S o.2 := by
  induction n with
  | zero => intro y0 y1 y2 y3 y4 y5 y6 y7 y8 y9 S o hf; cases hf
  | succ n ih => intro y0 y1 y2 y3 y4 y5 y6 y7 y8 y9 S o hf; exact fa_X3_putLine_99s hrec hself24 ih hf
theorem fa_X3_putLine_94 {o : Int32 × ZS} {rec : Nat → Nat → Int32 → Int32 → Nat → ZS → Option (Int32 × ZS)} {self24 : Nat → Nat → Int32 → Nat → Nat → Int32 → Int32 → Int32 → ZS → Option (Int32 × ZS)} {x0 : Nat} {x1 : Nat} {x3 : Int32} {x4 : Nat} {x5 : Nat} {x6 : Int32} {x8 : Int32} {x9 : Nat} {t0 : Int32} {S : ZS} (hrec : ∀ (z0 : Nat) (z1 : Nat) (z2 : Int32) (z3 : Int32) (z4 : Nat) (S : ZS) (o : Int32 × ZS), rec z0 z1 z2 z3 z4 S = some o → FrA [13, 14] S o.2) (hself24 : ∀ (z0 : Nat) (z1 : Nat) (z2 : Int32) (z3 : Nat) (z4 : Nat) (z5 : Int32) (z6 : Int32) (z7 : Int32) (S : ZS) (o : Int32 × ZS), self24 z0 z1 z2 z3 z4 z5 z6 z7 S = some o → FrA [13, 14] S o.2) (hf : d_X3_putLine_94 rec self24 x0 x1 x3 x4 x5 x6 x8 x9 t0 S = some o) : FrA [13, 14] S o.2 := by
  have h_S : FrA [13, 14] S S := fra_0
  unfold d_X3_putLine_94 at hf
  exact fra_t h_S (fa_X3_putLine_99 hrec hself24 _ _ _ _ _ _ _ _ _ _ _ _ _ hf) (fun _ h => h)
theorem fa_X3_putLine_74 {o : Int32 × ZS} {rec : Nat → Nat → Int32 → Int32 → Nat → ZS → Option (Int32 × ZS)} {self24 : Nat → Nat → Int32 → Nat → Nat → Int32 → Int32 → Int32 → ZS → Option (Int32 × ZS)} {x0 : Nat} {x1 : Nat} {x3 : Int32} {x4 : Nat} {x5 : Nat} {x7 : Int32} {x8 : Int32} {x9 : Nat} {t0 : Int32} {S : ZS} (hrec : ∀ (z0 : Nat) (z1 : Nat) (z2 : Int32) (z3 : Int32) (z4 : Nat) (S : ZS) (o : Int32 × ZS), rec z0 z1 z2 z3 z4 S = some o → FrA [13, 14] S o.2) (hself24 : ∀ (z0 : Nat) (z1 : Nat) (z2 : Int32) (z3 : Nat) (z4 : Nat) (z5 : Int32) (z6 : Int32) (z7 : Int32) (S : ZS) (o : Int32 × ZS), self24 z0 z1 z2 z3 z4 z5 z6 z7 S = some o → FrA [13, 14] S o.2) (hf : d_X3_putLine_74 rec self24 x0 x1 x3 x4 x5 x7 x8 x9 t0 S = some o) : FrA [13, 14] S o.2 := by
  have h_S : FrA [13, 14] S S := fra_0
  unfold d_X3_putLine_74 at hf
  obtain ⟨-, hf⟩ := m_chkE hf
  obtain ⟨o1, ho, hf⟩ := m_calE hf
  have h_o1 := fra_t h_S (fa_X1_goesOn ho) (by decide)
  clear ho
  obtain ⟨-, hf⟩ := m_chkE hf
  rcases m_ifE hf with ⟨-, hf⟩ | ⟨-, hf⟩
  ·
    exact fra_t h_o1 (fa_X3_putLine_94 hrec hself24 hf) (fun _ h => h)
  ·
    obtain ⟨-, hf⟩ := m_chkE hf
    exact fra_t h_o1 (fa_X3_putLine_94 hrec hself24 hf) (fun _ h => h)
theorem fa_X3_putLine_24s {o : Int32 × ZS} {rec : Nat → Nat → Int32 → Int32 → Nat → ZS → Option (Int32 × ZS)} {self24 : Nat → Nat → Int32 → Nat → Nat → Int32 → Int32 → Int32 → ZS → Option (Int32 × ZS)} {x0 : Nat} {x1 : Nat} {x3 : Int32} {x4 : Nat} {x5 : Nat} {x6 : Int32} {x7 : Int32} {x8 : Int32} {S : ZS} (hrec : ∀ (z0 : Nat) (z1 : Nat) (z2 : Int32) (z3 : Int32) (z4 : Nat) (S : ZS) (o : Int32 × ZS), rec z0 z1 z2 z3 z4 S = some o → FrA [13, 14] S o.2) (hself24 : ∀ (z0 : Nat) (z1 : Nat) (z2 : Int32) (z3 : Nat) (z4 : Nat) (z5 : Int32) (z6 : Int32) (z7 : Int32) (S : ZS) (o : Int32 × ZS), self24 z0 z1 z2 z3 z4 z5 z6 z7 S = some o → FrA [13, 14] S o.2) (hf : d_X3_putLine_24s rec self24 x0 x1 x3 x4 x5 x6 x7 x8 S = some o) : FrA [13, 14] S o.2 := by
  have h_S : FrA [13, 14] S S := fra_0
  unfold d_X3_putLine_24s at hf
  rcases m_ifE hf with ⟨-, hf⟩ | ⟨-, hf⟩
  ·
    exact fra_t h_S (fa_X3_putLine_206 hrec hf) (fun _ h => h)
  ·
    rcases m_ifE hf with ⟨-, hf⟩ | ⟨-, hf⟩
    ·
      exact fra_t h_S (fa_X3_putLine_206 hrec hf) (fun _ h => h)
    ·
      obtain ⟨-, hf⟩ := m_chkE hf
      obtain ⟨o1, ho, hf⟩ := m_calE hf
      have h_o1 := fra_t h_S (fa_X1_at ho) (by decide)
      clear ho
      obtain ⟨-, hf⟩ := m_chkE hf
      obtain ⟨-, hf⟩ := m_chkE hf
      obtain ⟨⟨r3, S4⟩, ho, hf⟩ := m_cal2E hf
      have h_S4 := fra_t h_o1 (fa_X3_putMove ho) (by decide)
      clear ho
      obtain ⟨-, hf⟩ := m_chkE hf
      obtain ⟨b7, -, hf⟩ := m_calE hf
      obtain ⟨-, hf⟩ := m_chkE hf
      obtain ⟨o8, ho, hf⟩ := m_calE hf
      have h_o8 := fra_t h_S4 (fa_X6_size ho) (by decide)
      clear ho
      obtain ⟨-, hf⟩ := m_chkE hf
      rcases m_ifE hf with ⟨-, hf⟩ | ⟨-, hf⟩
      ·
        exact fra_t h_o8 (fa_X3_putLine_74 hrec hself24 hf) (fun _ h => h)
      ·
        exact fra_t h_o8 (fa_X3_putLine_74 hrec hself24 hf) (fun _ h => h)
theorem fa_X3_putLine_24 {rec : Nat → Nat → Int32 → Int32 → Nat → ZS → Option (Int32 × ZS)} (hrec : ∀ (z0 : Nat) (z1 : Nat) (z2 : Int32) (z3 : Int32) (z4 : Nat) (S : ZS) (o : Int32 × ZS), rec z0 z1 z2 z3 z4 S = some o → FrA [13, 14] S o.2) (n : Nat) : ∀ (y0 : Nat) (y1 : Nat) (y2 : Int32) (y3 : Nat) (y4 : Nat) (y5 : Int32) (y6 : Int32) (y7 : Int32) (S : ZS) (o : Int32 × ZS), d_X3_putLine_24 rec n y0 y1 y2 y3 y4 y5 y6 y7 S = some o → FrA [13, 14] S o.2 := by
  induction n with
  | zero => intro y0 y1 y2 y3 y4 y5 y6 y7 S o hf; cases hf
  | succ n ih => intro y0 y1 y2 y3 y4 y5 y6 y7 S o hf; exact fa_X3_putLine_24s hrec ih hf
theorem fa_X3_putLine_0 {o : Int32 × ZS} {rec : Nat → Nat → Int32 → Int32 → Nat → ZS → Option (Int32 × ZS)} {x0 : Nat} {x1 : Nat} {x2 : Int32} {x3 : Int32} {x4 : Nat} {S : ZS} (hrec : ∀ (z0 : Nat) (z1 : Nat) (z2 : Int32) (z3 : Int32) (z4 : Nat) (S : ZS) (o : Int32 × ZS), rec z0 z1 z2 z3 z4 S = some o → FrA [13, 14] S o.2) (hf : d_X3_putLine_0 rec x0 x1 x2 x3 x4 S = some o) : FrA [13, 14] S o.2 := by
  have h_S : FrA [13, 14] S S := fra_0
  unfold d_X3_putLine_0 at hf
  rcases m_ifE hf with ⟨-, hf⟩ | ⟨-, hf⟩
  ·
    obtain ⟨-, hf⟩ := m_chkE hf
    obtain ⟨b1, -, hf⟩ := m_calE hf
    obtain ⟨-, hf⟩ := m_chkE hf
    obtain ⟨-, hf⟩ := m_chkE hf
    obtain ⟨b2, -, hf⟩ := m_calE hf
    exact fra_t h_S (fa_X3_putLine_24 hrec _ _ _ _ _ _ _ _ _ _ _ hf) (fun _ h => h)
  ·
    cases hf
    exact h_S
theorem fa_rX3_putLine   (n : Nat) : ∀ (y0 : Nat) (y1 : Nat) (y2 : Int32) (y3 : Int32) (y4 : Nat) (S : ZS) (o : Int32 × ZS), dr_X3_putLine  n y0 y1 y2 y3 y4 S = some o → FrA [13, 14] S o.2 := by
  induction n with
  | zero => intro y0 y1 y2 y3 y4 S o hf; cases hf
  | succ n ih => intro y0 y1 y2 y3 y4 S o hf; exact fa_X3_putLine_0  ih hf
theorem fa_X3_putLine {o : Int32 × ZS} {x0 : Nat} {x1 : Nat} {x2 : Int32} {x3 : Int32} {x4 : Nat} {S : ZS}  (hf : d_X3_putLine x0 x1 x2 x3 x4 S = some o) : FrA [13, 14] S o.2 := by
  have h_S : FrA [13, 14] S S := fra_0
  unfold d_X3_putLine at hf
  exact fra_t h_S (fa_rX3_putLine  _ _ _ _ _ _ _ _ hf) (fun _ h => h)
theorem fa_X11_init_0 {o : Int32 × ZS} {x0 : Nat} {S : ZS}  (hf : d_X11_init_0 x0 S = some o) : FrA [14] S o.2 := by
  have h_S : FrA [14] S S := fra_0
  unfold d_X11_init_0 at hf
  obtain ⟨q1, e1, hf⟩ := m_bndE hf
  obtain ⟨S2, e2, hf⟩ := m_bndE hf
  have h_S2 := fra_nO h_S e1 e2
  obtain ⟨o5, ho, hf⟩ := m_calE hf
  have h_o5 := fra_t h_S2 (fa_X6_init ho) (by decide)
  clear ho
  obtain ⟨-, hf⟩ := m_chkE hf
  obtain ⟨-, hf⟩ := m_chkE hf
  obtain ⟨S6, e3, hf⟩ := m_bndE hf
  have h_S6 := fra_P h_o5 e3
  obtain ⟨q7, e4, hf⟩ := m_bndE hf
  obtain ⟨S8, e5, hf⟩ := m_bndE hf
  have h_S8 := fra_nO h_S6 e4 e5
  obtain ⟨o11, ho, hf⟩ := m_calE hf
  have h_o11 := fra_t h_S8 (fa_X6_init ho) (by decide)
  clear ho
  obtain ⟨-, hf⟩ := m_chkE hf
  obtain ⟨-, hf⟩ := m_chkE hf
  obtain ⟨S12, e6, hf⟩ := m_bndE hf
  have h_S12 := fra_P h_o11 e6
  obtain ⟨q13, e7, hf⟩ := m_bndE hf
  obtain ⟨S14, e8, hf⟩ := m_bndE hf
  have h_S14 := fra_nO h_S12 e7 e8
  obtain ⟨⟨r18, S19⟩, ho, hf⟩ := m_cal2E hf
  have h_S19 := fra_t h_S14 (fa_X7_init ho) (by decide)
  clear ho
  obtain ⟨-, hf⟩ := m_chkE hf
  obtain ⟨S22, e9, hf⟩ := m_bndE hf
  have h_S22 := fra_P h_S19 e9
  obtain ⟨q23, e10, hf⟩ := m_bndE hf
  obtain ⟨S24, e11, hf⟩ := m_bndE hf
  have h_S24 := fra_nO h_S22 e10 e11
  obtain ⟨⟨r28, S29⟩, ho, hf⟩ := m_cal2E hf
  have h_S29 := fra_t h_S24 (fa_X8_init ho) (by decide)
  clear ho
  obtain ⟨-, hf⟩ := m_chkE hf
  obtain ⟨S32, e12, hf⟩ := m_bndE hf
  have h_S32 := fra_P h_S29 e12
  obtain ⟨q33, e13, hf⟩ := m_bndE hf
  obtain ⟨S34, e14, hf⟩ := m_bndE hf
  have h_S34 := fra_nO h_S32 e13 e14
  obtain ⟨⟨r38, S39⟩, ho, hf⟩ := m_cal2E hf
  have h_S39 := fra_t h_S34 (fa_X9_init ho) (by decide)
  clear ho
  obtain ⟨-, hf⟩ := m_chkE hf
  obtain ⟨S42, e15, hf⟩ := m_bndE hf
  have h_S42 := fra_P h_S39 e15
  obtain ⟨q43, e16, hf⟩ := m_bndE hf
  obtain ⟨S44, e17, hf⟩ := m_bndE hf
  have h_S44 := fra_nO h_S42 e16 e17
  obtain ⟨⟨r48, S49⟩, ho, hf⟩ := m_cal2E hf
  have h_S49 := fra_t h_S44 (fa_X2_init ho) (by decide)
  clear ho
  obtain ⟨-, hf⟩ := m_chkE hf
  obtain ⟨S52, e18, hf⟩ := m_bndE hf
  have h_S52 := fra_P h_S49 e18
  obtain ⟨q53, e19, hf⟩ := m_bndE hf
  obtain ⟨S54, e20, hf⟩ := m_bndE hf
  have h_S54 := fra_nO h_S52 e19 e20
  obtain ⟨⟨r58, S59⟩, ho, hf⟩ := m_cal2E hf
  have h_S59 := fra_t h_S54 (fa_X3_init ho) (by decide)
  clear ho
  obtain ⟨-, hf⟩ := m_chkE hf
  obtain ⟨S62, e21, hf⟩ := m_bndE hf
  have h_S62 := fra_P h_S59 e21
  obtain ⟨q63, e22, hf⟩ := m_bndE hf
  obtain ⟨S64, e23, hf⟩ := m_bndE hf
  have h_S64 := fra_nO h_S62 e22 e23
  obtain ⟨⟨r68, S69⟩, ho, hf⟩ := m_cal2E hf
  have h_S69 := fra_t h_S64 (fa_X1_init ho) (by decide)
  clear ho
  obtain ⟨-, hf⟩ := m_chkE hf
  obtain ⟨S72, e24, hf⟩ := m_bndE hf
  have h_S72 := fra_P h_S69 e24
  obtain ⟨-, hf⟩ := m_chkE hf
  obtain ⟨S73, e25, hf⟩ := m_bndE hf
  have h_S73 := fra_I h_S72 e25
  obtain ⟨q74, e26, hf⟩ := m_bndE hf
  obtain ⟨S75, e27, hf⟩ := m_bndE hf
  have h_S75 := fra_nO h_S73 e26 e27
  obtain ⟨⟨r79, S80⟩, ho, hf⟩ := m_cal2E hf
  have h_S80 := fra_t h_S75 (fa_X0_init ho) (by decide)
  clear ho
  obtain ⟨-, hf⟩ := m_chkE hf
  obtain ⟨S83, e28, hf⟩ := m_bndE hf
  have h_S83 := fra_P h_S80 e28
  obtain ⟨-, hf⟩ := m_chkE hf
  obtain ⟨b84, -, hf⟩ := m_calE hf
  obtain ⟨-, hf⟩ := m_chkE hf
  obtain ⟨o85, ho, hf⟩ := m_calE hf
  have h_o85 := fra_t h_S83 (fa_X0_setUp ho) (by decide)
  clear ho
  obtain ⟨-, hf⟩ := m_chkE hf
  cases hf
  exact h_o85
theorem fa_X11_init {o : Int32 × ZS} {x0 : Nat} {S : ZS}  (hf : d_X11_init x0 S = some o) : FrA [14] S o.2 := by
  have h_S : FrA [14] S S := fra_0
  unfold d_X11_init at hf
  exact fra_t h_S (fa_X11_init_0  hf) (fun _ h => h)
theorem fa_X11_type_26 {o : Int32 × ZS} {S : ZS}  (hf : d_X11_type_26 S = some o) : FrA [13] S o.2 := by
  have h_S : FrA [13] S S := fra_0
  unfold d_X11_type_26 at hf
  obtain ⟨-, hf⟩ := m_chkE hf
  cases hf
  exact h_S
theorem fa_X11_type_77s {o : Int32 × ZS} {self77 : Nat → Int64 → Int32 → Int32 → ZS → Option (Int32 × ZS)} {x0 : Nat} {x1 : Int64} {x3 : Int32} {x4 : Int32} {S : ZS} (hself77 : ∀ (z0 : Nat) (z1 : Int64) (z2 : Int32) (z3 : Int32) (S : ZS) (o : Int32 × ZS), self77 z0 z1 z2 z3 S = some o → FrA [13] S o.2) (hf : d_X11_type_77s self77 x0 x1 x3 x4 S = some o) : FrA [13] S o.2 := by
  have h_S : FrA [13] S S := fra_0
  unfold d_X11_type_77s at hf
  rcases m_ifE hf with ⟨-, hf⟩ | ⟨-, hf⟩
  ·
    obtain ⟨-, hf⟩ := m_chkE hf
    cases hf
    exact h_S
  ·
    obtain ⟨-, hf⟩ := m_chkE hf
    obtain ⟨b1, -, hf⟩ := m_calE hf
    obtain ⟨o2, ho, hf⟩ := m_calE hf
    have h_o2 := fra_t h_S (fa_X11_byteOf ho) (by decide)
    clear ho
    obtain ⟨-, hf⟩ := m_chkE hf
    obtain ⟨-, hf⟩ := m_chkE hf
    obtain ⟨⟨r4, S5⟩, ho, hf⟩ := m_cal2E hf
    have h_S5 := fra_t h_o2 (fa_X6_put ho) (by decide)
    clear ho
    obtain ⟨v8, e1, hf⟩ := m_bndE hf
    exact fra_t h_S5 (hself77 _ _ _ _ _ _ hf) (fun _ h => h)
theorem fa_X11_type_77   (n : Nat) : ∀ (y0 : Nat) (y1 : Int64) (y2 : Int32) (y3 : Int32) (S : ZS) (o : Int32 × ZS), d_X11_type_77  n y0 y1 y2 y3 S = some o → FrA [13] S o.2 := by
  induction n with
  | zero => intro y0 y1 y2 y3 S o hf; cases hf
  | succ n ih => intro y0 y1 y2 y3 S o hf; exact fa_X11_type_77s  ih hf
theorem fa_X11_type_68 {o : Int32 × ZS} {self31 : Nat → Int64 → Int32 → Int32 → ZS → Option (Int32 × ZS)} {x0 : Nat} {x1 : Int64} {x3 : Int32} {x4 : Int32} {S : ZS} (hself31 : ∀ (z0 : Nat) (z1 : Int64) (z2 : Int32) (z3 : Int32) (S : ZS) (o : Int32 × ZS), self31 z0 z1 z2 z3 S = some o → FrA [13] S o.2) (hf : d_X11_type_68 self31 x0 x1 x3 x4 S = some o) : FrA [13] S o.2 := by
  have h_S : FrA [13] S S := fra_0
  unfold d_X11_type_68 at hf
  obtain ⟨v1, e1, hf⟩ := m_bndE hf
  exact fra_t h_S (hself31 _ _ _ _ _ _ hf) (fun _ h => h)
theorem fa_X11_type_66 {o : Int32 × ZS} {S : ZS}  (hf : d_X11_type_66 S = some o) : FrA [13] S o.2 := by
  have h_S : FrA [13] S S := fra_0
  unfold d_X11_type_66 at hf
  obtain ⟨-, hf⟩ := m_chkE hf
  cases hf
  exact h_S
theorem fa_X11_type_31s {o : Int32 × ZS} {self31 : Nat → Int64 → Int32 → Int32 → ZS → Option (Int32 × ZS)} {x0 : Nat} {x1 : Int64} {x3 : Int32} {x4 : Int32} {S : ZS} (hself31 : ∀ (z0 : Nat) (z1 : Int64) (z2 : Int32) (z3 : Int32) (S : ZS) (o : Int32 × ZS), self31 z0 z1 z2 z3 S = some o → FrA [13] S o.2) (hf : d_X11_type_31s self31 x0 x1 x3 x4 S = some o) : FrA [13] S o.2 := by
  have h_S : FrA [13] S S := fra_0
  unfold d_X11_type_31s at hf
  rcases m_ifE hf with ⟨-, hf⟩ | ⟨-, hf⟩
  ·
    exact fra_t h_S (fa_X11_type_77  _ _ _ _ _ _ _ hf) (fun _ h => h)
  ·
    obtain ⟨o1, ho, hf⟩ := m_calE hf
    have h_o1 := fra_t h_S (fa_X11_byteOf ho) (by decide)
    clear ho
    obtain ⟨-, hf⟩ := m_chkE hf
    rcases m_ifE hf with ⟨-, hf⟩ | ⟨-, hf⟩
    ·
      exact fra_t h_o1 (fa_X11_type_68 hself31 hf) (fun _ h => h)
    ·
      rcases m_ifE hf with ⟨-, hf⟩ | ⟨-, hf⟩
      ·
        exact fra_t h_o1 (fa_X11_type_66  hf) (fun _ h => h)
      ·
        rcases m_ifE hf with ⟨-, hf⟩ | ⟨-, hf⟩
        ·
          exact fra_t h_o1 (fa_X11_type_68 hself31 hf) (fun _ h => h)
        ·
          exact fra_t h_o1 (fa_X11_type_66  hf) (fun _ h => h)
theorem fa_X11_type_31   (n : Nat) : ∀ (y0 : Nat) (y1 : Int64) (y2 : Int32) (y3 : Int32) (S : ZS) (o : Int32 × ZS), d_X11_type_31  n y0 y1 y2 y3 S = some o → FrA [13] S o.2 := by
  induction n with
  | zero => intro y0 y1 y2 y3 S o hf; cases hf
  | succ n ih => intro y0 y1 y2 y3 S o hf; exact fa_X11_type_31s  ih hf
theorem fa_X11_type_0 {o : Int32 × ZS} {x0 : Nat} {x1 : Int64} {x3 : Int32} {S : ZS}  (hf : d_X11_type_0 x0 x1 x3 S = some o) : FrA [13] S o.2 := by
  have h_S : FrA [13] S S := fra_0
  unfold d_X11_type_0 at hf
  rcases m_ifE hf with ⟨-, hf⟩ | ⟨-, hf⟩
  ·
    exact fra_t h_S (fa_X11_type_26  hf) (fun _ h => h)
  ·
    rcases m_ifE hf with ⟨-, hf⟩ | ⟨-, hf⟩
    ·
      exact fra_t h_S (fa_X11_type_26  hf) (fun _ h => h)
    ·
      obtain ⟨-, hf⟩ := m_chkE hf
      obtain ⟨b1, -, hf⟩ := m_calE hf
      obtain ⟨-, hf⟩ := m_chkE hf
      obtain ⟨o2, ho, hf⟩ := m_calE hf
      have h_o2 := fra_t h_S (fa_X6_size ho) (by decide)
      clear ho
      obtain ⟨-, hf⟩ := m_chkE hf
      obtain ⟨v3, e1, hf⟩ := m_bndE hf
      rcases m_ifE hf with ⟨-, hf⟩ | ⟨-, hf⟩
      ·
        exact fra_t h_o2 (fa_X11_type_31  _ _ _ _ _ _ _ hf) (fun _ h => h)
      ·
        exact fra_t h_o2 (fa_X11_type_26  hf) (fun _ h => h)
theorem fa_X11_type {o : Int32 × ZS} {x0 : Nat} {x1 : Int64} {x3 : Int32} {S : ZS}  (hf : d_X11_type x0 x1 x3 S = some o) : FrA [13] S o.2 := by
  have h_S : FrA [13] S S := fra_0
  unfold d_X11_type at hf
  exact fra_t h_S (fa_X11_type_0  hf) (fun _ h => h)
theorem fa_X11_read_41 {o : Int32 × ZS} {x0 : Nat} {S : ZS}  (hf : d_X11_read_41 x0 S = some o) : FrA [13, 14] S o.2 := by
  have h_S : FrA [13, 14] S S := fra_0
  unfold d_X11_read_41 at hf
  obtain ⟨-, hf⟩ := m_chkE hf
  obtain ⟨b1, -, hf⟩ := m_calE hf
  obtain ⟨-, hf⟩ := m_chkE hf
  obtain ⟨o2, ho, hf⟩ := m_calE hf
  have h_o2 := fra_t h_S (fa_X2_fault ho) (by decide)
  clear ho
  obtain ⟨-, hf⟩ := m_chkE hf
  cases hf
  exact h_o2
theorem fa_X11_read_0 {o : Int32 × ZS} {x0 : Nat} {S : ZS}  (hf : d_X11_read_0 x0 S = some o) : FrA [13, 14] S o.2 := by
  have h_S : FrA [13, 14] S S := fra_0
  unfold d_X11_read_0 at hf
  obtain ⟨-, hf⟩ := m_chkE hf
  obtain ⟨b1, -, hf⟩ := m_calE hf
  obtain ⟨-, hf⟩ := m_chkE hf
  obtain ⟨b2, -, hf⟩ := m_calE hf
  obtain ⟨-, hf⟩ := m_chkE hf
  obtain ⟨o3, ho, hf⟩ := m_calE hf
  have h_o3 := fra_t h_S (fa_X2_begin ho) (by decide)
  clear ho
  obtain ⟨-, hf⟩ := m_chkE hf
  obtain ⟨-, hf⟩ := m_chkE hf
  obtain ⟨b4, -, hf⟩ := m_calE hf
  obtain ⟨-, hf⟩ := m_chkE hf
  obtain ⟨⟨r6, S7⟩, ho, hf⟩ := m_cal2E hf
  have h_S7 := fra_t h_o3 (fa_X2_readHead ho) (by decide)
  clear ho
  rcases m_ifE hf with ⟨-, hf⟩ | ⟨-, hf⟩
  ·
    exact fra_t h_S7 (fa_X11_read_41  hf) (fun _ h => h)
  ·
    obtain ⟨-, hf⟩ := m_chkE hf
    obtain ⟨b10, -, hf⟩ := m_calE hf
    obtain ⟨-, hf⟩ := m_chkE hf
    obtain ⟨⟨r12, S13⟩, ho, hf⟩ := m_cal2E hf
    have h_S13 := fra_t h_S7 (fa_X2_readMoves ho) (by decide)
    clear ho
    rcases m_ifE hf with ⟨-, hf⟩ | ⟨-, hf⟩
    ·
      exact fra_t h_S13 (fa_X11_read_41  hf) (fun _ h => h)
    ·
      obtain ⟨-, hf⟩ := m_chkE hf
      obtain ⟨b16, -, hf⟩ := m_calE hf
      obtain ⟨-, hf⟩ := m_chkE hf
      obtain ⟨⟨r18, S19⟩, ho, hf⟩ := m_cal2E hf
      have h_S19 := fra_t h_S13 (fa_X2_readEnd ho) (by decide)
      clear ho
      rcases m_ifE hf with ⟨-, hf⟩ | ⟨-, hf⟩
      ·
        exact fra_t h_S19 (fa_X11_read_41  hf) (fun _ h => h)
      ·
        obtain ⟨-, hf⟩ := m_chkE hf
        obtain ⟨b22, -, hf⟩ := m_calE hf
        obtain ⟨-, hf⟩ := m_chkE hf
        obtain ⟨b23, -, hf⟩ := m_calE hf
        obtain ⟨-, hf⟩ := m_chkE hf
        obtain ⟨o24, ho, hf⟩ := m_calE hf
        have h_o24 := fra_t h_S19 (fa_X2_exchange ho) (by decide)
        clear ho
        obtain ⟨-, hf⟩ := m_chkE hf
        obtain ⟨-, hf⟩ := m_chkE hf
        obtain ⟨S25, e1, hf⟩ := m_bndE hf
        have h_S25 := fra_P h_o24 e1
        obtain ⟨-, hf⟩ := m_chkE hf
        obtain ⟨b26, -, hf⟩ := m_calE hf
        obtain ⟨-, hf⟩ := m_chkE hf
        obtain ⟨o27, ho, hf⟩ := m_calE hf
        have h_o27 := fra_t h_S25 (fa_X6_keep ho) (by decide)
        clear ho
        obtain ⟨-, hf⟩ := m_chkE hf
        obtain ⟨-, hf⟩ := m_chkE hf
        obtain ⟨S28, e2, hf⟩ := m_bndE hf
        have h_S28 := fra_I h_o27 e2
        obtain ⟨-, hf⟩ := m_chkE hf
        obtain ⟨b29, -, hf⟩ := m_calE hf
        obtain ⟨-, hf⟩ := m_chkE hf
        obtain ⟨b30, -, hf⟩ := m_calE hf
        obtain ⟨-, hf⟩ := m_chkE hf
        obtain ⟨o31, ho, hf⟩ := m_calE hf
        have h_o31 := fra_t h_S28 (fa_X1_standAt ho) (by decide)
        clear ho
        obtain ⟨-, hf⟩ := m_chkE hf
        cases hf
        exact h_o31
theorem fa_X11_read {o : Int32 × ZS} {x0 : Nat} {S : ZS}  (hf : d_X11_read x0 S = some o) : FrA [13, 14] S o.2 := by
  have h_S : FrA [13, 14] S S := fra_0
  unfold d_X11_read at hf
  exact fra_t h_S (fa_X11_read_0  hf) (fun _ h => h)
theorem fa_X11_find_0 {o : Int32 × ZS} {x0 : Nat} {S : ZS}  (hf : d_X11_find_0 x0 S = some o) : FrA [13, 14] S o.2 := by
  have h_S : FrA [13, 14] S S := fra_0
  unfold d_X11_find_0 at hf
  obtain ⟨-, hf⟩ := m_chkE hf
  obtain ⟨b1, -, hf⟩ := m_calE hf
  obtain ⟨-, hf⟩ := m_chkE hf
  obtain ⟨b2, -, hf⟩ := m_calE hf
  obtain ⟨-, hf⟩ := m_chkE hf
  obtain ⟨b3, -, hf⟩ := m_calE hf
  obtain ⟨-, hf⟩ := m_chkE hf
  obtain ⟨b4, -, hf⟩ := m_calE hf
  obtain ⟨-, hf⟩ := m_chkE hf
  obtain ⟨o5, ho, hf⟩ := m_calE hf
  have h_o5 := fra_t h_S (fa_X6_size ho) (by decide)
  clear ho
  obtain ⟨-, hf⟩ := m_chkE hf
  obtain ⟨-, hf⟩ := m_chkE hf
  obtain ⟨⟨r7, S8⟩, ho, hf⟩ := m_cal2E hf
  have h_S8 := fra_t h_o5 (fa_X8_matched ho) (by decide)
  clear ho
  cases hf
  exact h_S8
theorem fa_X11_find {o : Int32 × ZS} {x0 : Nat} {S : ZS}  (hf : d_X11_find x0 S = some o) : FrA [13, 14] S o.2 := by
  have h_S : FrA [13, 14] S S := fra_0
  unfold d_X11_find at hf
  exact fra_t h_S (fa_X11_find_0  hf) (fun _ h => h)
theorem fa_X11_write_0 {o : Int32 × ZS} {x0 : Nat} {S : ZS}  (hf : d_X11_write_0 x0 S = some o) : FrA [13, 14] S o.2 := by
  have h_S : FrA [13, 14] S S := fra_0
  unfold d_X11_write_0 at hf
  obtain ⟨-, hf⟩ := m_chkE hf
  obtain ⟨b1, -, hf⟩ := m_calE hf
  obtain ⟨-, hf⟩ := m_chkE hf
  obtain ⟨o2, ho, hf⟩ := m_calE hf
  have h_o2 := fra_t h_S (fa_X6_keep ho) (by decide)
  clear ho
  obtain ⟨-, hf⟩ := m_chkE hf
  obtain ⟨-, hf⟩ := m_chkE hf
  obtain ⟨b3, -, hf⟩ := m_calE hf
  obtain ⟨-, hf⟩ := m_chkE hf
  obtain ⟨b4, -, hf⟩ := m_calE hf
  obtain ⟨-, hf⟩ := m_chkE hf
  obtain ⟨b5, -, hf⟩ := m_calE hf
  obtain ⟨-, hf⟩ := m_chkE hf
  obtain ⟨⟨r7, S8⟩, ho, hf⟩ := m_cal2E hf
  have h_S8 := fra_t h_o2 (fa_X3_putHead ho) (by decide)
  clear ho
  obtain ⟨-, hf⟩ := m_chkE hf
  obtain ⟨b11, -, hf⟩ := m_calE hf
  obtain ⟨-, hf⟩ := m_chkE hf
  obtain ⟨b12, -, hf⟩ := m_calE hf
  obtain ⟨-, hf⟩ := m_chkE hf
  obtain ⟨b13, -, hf⟩ := m_calE hf
  obtain ⟨-, hf⟩ := m_chkE hf
  obtain ⟨o14, ho, hf⟩ := m_calE hf
  have h_o14 := fra_t h_S8 (fa_X1_at ho) (by decide)
  clear ho
  obtain ⟨-, hf⟩ := m_chkE hf
  obtain ⟨-, hf⟩ := m_chkE hf
  obtain ⟨-, hf⟩ := m_chkE hf
  obtain ⟨b15, -, hf⟩ := m_calE hf
  obtain ⟨-, hf⟩ := m_chkE hf
  obtain ⟨⟨r17, S18⟩, ho, hf⟩ := m_cal2E hf
  have h_S18 := fra_t h_o14 (fa_X3_putLine ho) (by decide)
  clear ho
  obtain ⟨-, hf⟩ := m_chkE hf
  obtain ⟨b21, -, hf⟩ := m_calE hf
  obtain ⟨-, hf⟩ := m_chkE hf
  obtain ⟨b22, -, hf⟩ := m_calE hf
  obtain ⟨-, hf⟩ := m_chkE hf
  obtain ⟨b23, -, hf⟩ := m_calE hf
  obtain ⟨-, hf⟩ := m_chkE hf
  obtain ⟨⟨r25, S26⟩, ho, hf⟩ := m_cal2E hf
  have h_S26 := fra_t h_S18 (fa_X3_putEnd ho) (by decide)
  clear ho
  obtain ⟨-, hf⟩ := m_chkE hf
  obtain ⟨b29, -, hf⟩ := m_calE hf
  obtain ⟨-, hf⟩ := m_chkE hf
  obtain ⟨o30, ho, hf⟩ := m_calE hf
  have h_o30 := fra_t h_S26 (fa_X6_size ho) (by decide)
  clear ho
  obtain ⟨-, hf⟩ := m_chkE hf
  cases hf
  exact h_o30
theorem fa_X11_write {o : Int32 × ZS} {x0 : Nat} {S : ZS}  (hf : d_X11_write x0 S = some o) : FrA [13, 14] S o.2 := by
  have h_S : FrA [13, 14] S S := fra_0
  unfold d_X11_write at hf
  exact fra_t h_S (fa_X11_write_0  hf) (fun _ h => h)
theorem fa_X11_signs_0 {o : (Nat × Int32) × ZS} {x0 : Nat} {x1 : Int32} {S : ZS}  (hf : d_X11_signs_0 x0 x1 S = some o) : FrA [13, 14] S o.2 := by
  have h_S : FrA [13, 14] S S := fra_0
  unfold d_X11_signs_0 at hf
  obtain ⟨-, hf⟩ := m_chkE hf
  obtain ⟨b1, -, hf⟩ := m_calE hf
  obtain ⟨-, hf⟩ := m_chkE hf
  obtain ⟨b2, -, hf⟩ := m_calE hf
  obtain ⟨-, hf⟩ := m_chkE hf
  obtain ⟨o3, ho, hf⟩ := m_calE hf
  have h_o3 := fra_t h_S (fa_X7_isLegal ho) (by decide)
  clear ho
  obtain ⟨-, hf⟩ := m_chkE hf
  rcases m_ifE hf with ⟨-, hf⟩ | ⟨-, hf⟩
  ·
    cases hf
    exact fra_Q h_o3 rfl
  ·
    obtain ⟨-, hf⟩ := m_chkE hf
    obtain ⟨b4, -, hf⟩ := m_calE hf
    obtain ⟨-, hf⟩ := m_chkE hf
    obtain ⟨o5, ho, hf⟩ := m_calE hf
    have h_o5 := fra_t h_o3 (fa_X6_keep ho) (by decide)
    clear ho
    obtain ⟨-, hf⟩ := m_chkE hf
    obtain ⟨-, hf⟩ := m_chkE hf
    obtain ⟨b6, -, hf⟩ := m_calE hf
    obtain ⟨-, hf⟩ := m_chkE hf
    obtain ⟨b7, -, hf⟩ := m_calE hf
    obtain ⟨-, hf⟩ := m_chkE hf
    obtain ⟨b8, -, hf⟩ := m_calE hf
    obtain ⟨-, hf⟩ := m_chkE hf
    obtain ⟨⟨r10, S11⟩, ho, hf⟩ := m_cal2E hf
    have h_S11 := fra_t h_o5 (fa_X9_putSigns ho) (by decide)
    clear ho
    obtain ⟨-, hf⟩ := m_chkE hf
    obtain ⟨b14, -, hf⟩ := m_calE hf
    obtain ⟨-, hf⟩ := m_chkE hf
    obtain ⟨o15, ho, hf⟩ := m_calE hf
    have h_o15 := fra_t h_S11 (fa_X6_size ho) (by decide)
    clear ho
    obtain ⟨-, hf⟩ := m_chkE hf
    cases hf
    exact h_o15
theorem fa_X11_signs {o : (Nat × Int32) × ZS} {x0 : Nat} {x1 : Int32} {S : ZS}  (hf : d_X11_signs x0 x1 S = some o) : FrA [13, 14] S o.2 := by
  have h_S : FrA [13, 14] S S := fra_0
  unfold d_X11_signs at hf
  exact fra_t h_S (fa_X11_signs_0  hf) (fun _ h => h)
theorem fa_X11_node_0 {o : (Nat × Int32) × ZS} {x0 : Nat} {x1 : Int32} {x2 : Int32} {S : ZS}  (hf : d_X11_node_0 x0 x1 x2 S = some o) : FrA [] S o.2 := by
  have h_S : FrA [] S S := fra_0
  unfold d_X11_node_0 at hf
  obtain ⟨-, hf⟩ := m_chkE hf
  obtain ⟨b1, -, hf⟩ := m_calE hf
  obtain ⟨-, hf⟩ := m_chkE hf
  obtain ⟨o2, ho, hf⟩ := m_calE hf
  have h_o2 := fra_t h_S (fa_X1_has ho) (by decide)
  clear ho
  obtain ⟨-, hf⟩ := m_chkE hf
  rcases m_ifE hf with ⟨-, hf⟩ | ⟨-, hf⟩
  ·
    cases hf
    exact fra_Q h_o2 rfl
  ·
    obtain ⟨-, hf⟩ := m_chkE hf
    obtain ⟨b3, -, hf⟩ := m_calE hf
    obtain ⟨-, hf⟩ := m_chkE hf
    obtain ⟨o4, ho, hf⟩ := m_calE hf
    have h_o4 := fra_t h_o2 (fa_X1_at ho) (by decide)
    clear ho
    obtain ⟨-, hf⟩ := m_chkE hf
    rcases m_ifE hf with ⟨-, hf⟩ | ⟨-, hf⟩
    ·
      obtain ⟨-, hf⟩ := m_chkE hf
      cases hf
      exact h_o4
    ·
      rcases m_ifE hf with ⟨-, hf⟩ | ⟨-, hf⟩
      ·
        obtain ⟨-, hf⟩ := m_chkE hf
        cases hf
        exact h_o4
      ·
        rcases m_ifE hf with ⟨-, hf⟩ | ⟨-, hf⟩
        ·
          obtain ⟨-, hf⟩ := m_chkE hf
          cases hf
          exact h_o4
        ·
          rcases m_ifE hf with ⟨-, hf⟩ | ⟨-, hf⟩
          ·
            obtain ⟨-, hf⟩ := m_chkE hf
            cases hf
            exact h_o4
          ·
            rcases m_ifE hf with ⟨-, hf⟩ | ⟨-, hf⟩
            ·
              obtain ⟨-, hf⟩ := m_chkE hf
              cases hf
              exact h_o4
            ·
              rcases m_ifE hf with ⟨-, hf⟩ | ⟨-, hf⟩
              ·
                obtain ⟨-, hf⟩ := m_chkE hf
                obtain ⟨b5, -, hf⟩ := m_calE hf
                obtain ⟨-, hf⟩ := m_chkE hf
                obtain ⟨o6, ho, hf⟩ := m_calE hf
                have h_o6 := fra_t h_o4 (fa_X6_size ho) (by decide)
                clear ho
                obtain ⟨-, hf⟩ := m_chkE hf
                cases hf
                exact h_o6
              ·
                cases hf
                exact fra_Q h_o4 rfl
theorem fa_X11_node {o : (Nat × Int32) × ZS} {x0 : Nat} {x1 : Int32} {x2 : Int32} {S : ZS}  (hf : d_X11_node x0 x1 x2 S = some o) : FrA [] S o.2 := by
  have h_S : FrA [] S S := fra_0
  unfold d_X11_node at hf
  exact fra_t h_S (fa_X11_node_0  hf) (fun _ h => h)
theorem fa_X11_mark_30 {o : (Nat × Int32) × ZS} {S : ZS}  (hf : d_X11_mark_30 S = some o) : FrA [] S o.2 := by
  have h_S : FrA [] S S := fra_0
  unfold d_X11_mark_30 at hf
  cases hf
  exact fra_Q h_S rfl
theorem fa_X11_mark_0 {o : (Nat × Int32) × ZS} {x0 : Nat} {x1 : Int32} {x2 : Int32} {S : ZS}  (hf : d_X11_mark_0 x0 x1 x2 S = some o) : FrA [] S o.2 := by
  have h_S : FrA [] S S := fra_0
  unfold d_X11_mark_0 at hf
  obtain ⟨-, hf⟩ := m_chkE hf
  obtain ⟨b1, -, hf⟩ := m_calE hf
  obtain ⟨-, hf⟩ := m_chkE hf
  obtain ⟨o2, ho, hf⟩ := m_calE hf
  have h_o2 := fra_t h_S (fa_X1_has ho) (by decide)
  clear ho
  obtain ⟨-, hf⟩ := m_chkE hf
  rcases m_ifE hf with ⟨-, hf⟩ | ⟨-, hf⟩
  ·
    exact fra_t h_o2 (fa_X11_mark_30  hf) (fun _ h => h)
  ·
    rcases m_ifE hf with ⟨-, hf⟩ | ⟨-, hf⟩
    ·
      exact fra_t h_o2 (fa_X11_mark_30  hf) (fun _ h => h)
    ·
      obtain ⟨-, hf⟩ := m_chkE hf
      obtain ⟨b3, -, hf⟩ := m_calE hf
      obtain ⟨-, hf⟩ := m_chkE hf
      obtain ⟨o4, ho, hf⟩ := m_calE hf
      have h_o4 := fra_t h_o2 (fa_X1_at ho) (by decide)
      clear ho
      obtain ⟨-, hf⟩ := m_chkE hf
      obtain ⟨-, hf⟩ := m_chkE hf
      rcases m_ifE hf with ⟨-, hf⟩ | ⟨-, hf⟩
      ·
        obtain ⟨-, hf⟩ := m_chkE hf
        obtain ⟨b5, -, hf⟩ := m_calE hf
        obtain ⟨-, hf⟩ := m_chkE hf
        obtain ⟨o6, ho, hf⟩ := m_calE hf
        have h_o6 := fra_t h_o4 (fa_X1_at ho) (by decide)
        clear ho
        obtain ⟨-, hf⟩ := m_chkE hf
        obtain ⟨-, hf⟩ := m_chkE hf
        obtain ⟨o7, ho, hf⟩ := m_calE hf
        have h_o7 := fra_t h_o6 (fa_X4_markAt ho) (by decide)
        clear ho
        obtain ⟨-, hf⟩ := m_chkE hf
        cases hf
        exact h_o7
      ·
        exact fra_t h_o4 (fa_X11_mark_30  hf) (fun _ h => h)
theorem fa_X11_mark {o : (Nat × Int32) × ZS} {x0 : Nat} {x1 : Int32} {x2 : Int32} {S : ZS}  (hf : d_X11_mark x0 x1 x2 S = some o) : FrA [] S o.2 := by
  have h_S : FrA [] S S := fra_0
  unfold d_X11_mark at hf
  exact fra_t h_S (fa_X11_mark_0  hf) (fun _ h => h)
theorem fa_X11_remark_33 {o : (Nat × Int32) × ZS} {S : ZS}  (hf : d_X11_remark_33 S = some o) : FrA [] S o.2 := by
  have h_S : FrA [] S S := fra_0
  unfold d_X11_remark_33 at hf
  cases hf
  exact fra_Q h_S rfl
theorem fa_X11_remark_0 {o : (Nat × Int32) × ZS} {x0 : Nat} {x1 : Int32} {x2 : Int32} {S : ZS}  (hf : d_X11_remark_0 x0 x1 x2 S = some o) : FrA [] S o.2 := by
  have h_S : FrA [] S S := fra_0
  unfold d_X11_remark_0 at hf
  obtain ⟨-, hf⟩ := m_chkE hf
  obtain ⟨b1, -, hf⟩ := m_calE hf
  obtain ⟨-, hf⟩ := m_chkE hf
  obtain ⟨o2, ho, hf⟩ := m_calE hf
  have h_o2 := fra_t h_S (fa_X1_has ho) (by decide)
  clear ho
  obtain ⟨-, hf⟩ := m_chkE hf
  rcases m_ifE hf with ⟨-, hf⟩ | ⟨-, hf⟩
  ·
    exact fra_t h_o2 (fa_X11_remark_33  hf) (fun _ h => h)
  ·
    rcases m_ifE hf with ⟨-, hf⟩ | ⟨-, hf⟩
    ·
      exact fra_t h_o2 (fa_X11_remark_33  hf) (fun _ h => h)
    ·
      obtain ⟨-, hf⟩ := m_chkE hf
      obtain ⟨b3, -, hf⟩ := m_calE hf
      obtain ⟨-, hf⟩ := m_chkE hf
      obtain ⟨o4, ho, hf⟩ := m_calE hf
      have h_o4 := fra_t h_o2 (fa_X1_at ho) (by decide)
      clear ho
      obtain ⟨-, hf⟩ := m_chkE hf
      obtain ⟨-, hf⟩ := m_chkE hf
      obtain ⟨b5, -, hf⟩ := m_calE hf
      obtain ⟨-, hf⟩ := m_chkE hf
      obtain ⟨o6, ho, hf⟩ := m_calE hf
      have h_o6 := fra_t h_o4 (fa_X6_size ho) (by decide)
      clear ho
      obtain ⟨-, hf⟩ := m_chkE hf
      rcases m_ifE hf with ⟨-, hf⟩ | ⟨-, hf⟩
      ·
        obtain ⟨-, hf⟩ := m_chkE hf
        obtain ⟨b7, -, hf⟩ := m_calE hf
        obtain ⟨-, hf⟩ := m_chkE hf
        obtain ⟨o8, ho, hf⟩ := m_calE hf
        have h_o8 := fra_t h_o6 (fa_X1_at ho) (by decide)
        clear ho
        obtain ⟨-, hf⟩ := m_chkE hf
        obtain ⟨-, hf⟩ := m_chkE hf
        obtain ⟨b9, -, hf⟩ := m_calE hf
        obtain ⟨-, hf⟩ := m_chkE hf
        obtain ⟨o10, ho, hf⟩ := m_calE hf
        have h_o10 := fra_t h_o8 (fa_X6_at ho) (by decide)
        clear ho
        obtain ⟨-, hf⟩ := m_chkE hf
        cases hf
        exact h_o10
      ·
        exact fra_t h_o6 (fa_X11_remark_33  hf) (fun _ h => h)
theorem fa_X11_remark {o : (Nat × Int32) × ZS} {x0 : Nat} {x1 : Int32} {x2 : Int32} {S : ZS}  (hf : d_X11_remark x0 x1 x2 S = some o) : FrA [] S o.2 := by
  have h_S : FrA [] S S := fra_0
  unfold d_X11_remark at hf
  exact fra_t h_S (fa_X11_remark_0  hf) (fun _ h => h)
theorem fa_X11_go_0 {o : (Nat × Int32) × ZS} {x0 : Nat} {x1 : Int32} {S : ZS}  (hf : d_X11_go_0 x0 x1 S = some o) : FrA [14] S o.2 := by
  have h_S : FrA [14] S S := fra_0
  unfold d_X11_go_0 at hf
  obtain ⟨-, hf⟩ := m_chkE hf
  obtain ⟨b1, -, hf⟩ := m_calE hf
  obtain ⟨-, hf⟩ := m_chkE hf
  obtain ⟨o2, ho, hf⟩ := m_calE hf
  have h_o2 := fra_t h_S (fa_X1_has ho) (by decide)
  clear ho
  obtain ⟨-, hf⟩ := m_chkE hf
  rcases m_ifE hf with ⟨-, hf⟩ | ⟨-, hf⟩
  ·
    cases hf
    exact fra_Q h_o2 rfl
  ·
    obtain ⟨-, hf⟩ := m_chkE hf
    obtain ⟨S3, e1, hf⟩ := m_bndE hf
    have h_S3 := fra_I h_o2 e1
    obtain ⟨-, hf⟩ := m_chkE hf
    obtain ⟨b4, -, hf⟩ := m_calE hf
    obtain ⟨-, hf⟩ := m_chkE hf
    obtain ⟨b5, -, hf⟩ := m_calE hf
    obtain ⟨-, hf⟩ := m_chkE hf
    obtain ⟨o6, ho, hf⟩ := m_calE hf
    have h_o6 := fra_t h_S3 (fa_X1_standAt ho) (by decide)
    clear ho
    obtain ⟨-, hf⟩ := m_chkE hf
    cases hf
    exact h_o6
theorem fa_X11_go {o : (Nat × Int32) × ZS} {x0 : Nat} {x1 : Int32} {S : ZS}  (hf : d_X11_go x0 x1 S = some o) : FrA [14] S o.2 := by
  have h_S : FrA [14] S S := fra_0
  unfold d_X11_go at hf
  exact fra_t h_S (fa_X11_go_0  hf) (fun _ h => h)
theorem fa_X11_man_10 {o : (Nat × Int32) × ZS} {S : ZS}  (hf : d_X11_man_10 S = some o) : FrA [] S o.2 := by
  have h_S : FrA [] S S := fra_0
  unfold d_X11_man_10 at hf
  cases hf
  exact fra_Q h_S rfl
theorem fa_X11_man_0 {o : (Nat × Int32) × ZS} {x0 : Nat} {x1 : Int32} {S : ZS}  (hf : d_X11_man_0 x0 x1 S = some o) : FrA [] S o.2 := by
  have h_S : FrA [] S S := fra_0
  unfold d_X11_man_0 at hf
  rcases m_ifE hf with ⟨-, hf⟩ | ⟨-, hf⟩
  ·
    exact fra_t h_S (fa_X11_man_10  hf) (fun _ h => h)
  ·
    rcases m_ifE hf with ⟨-, hf⟩ | ⟨-, hf⟩
    ·
      obtain ⟨-, hf⟩ := m_chkE hf
      obtain ⟨b1, -, hf⟩ := m_calE hf
      obtain ⟨-, hf⟩ := m_chkE hf
      obtain ⟨b2, -, hf⟩ := m_calE hf
      obtain ⟨q1, hf⟩ := m_chkE hf
      obtain ⟨-, hf⟩ := m_chkE hf
      obtain ⟨v3, e2, hf⟩ := m_bndE hf
      cases hf
      exact h_S
    ·
      exact fra_t h_S (fa_X11_man_10  hf) (fun _ h => h)
theorem fa_X11_man {o : (Nat × Int32) × ZS} {x0 : Nat} {x1 : Int32} {S : ZS}  (hf : d_X11_man x0 x1 S = some o) : FrA [] S o.2 := by
  have h_S : FrA [] S S := fra_0
  unfold d_X11_man at hf
  exact fra_t h_S (fa_X11_man_0  hf) (fun _ h => h)
theorem fa_X11_add_95 {o : (Nat × Int32) × ZS} {x0 : Nat} {x1 : Int32} {x2 : Int32} {S : ZS}  (hf : d_X11_add_95 x0 x1 x2 S = some o) : FrA [14] S o.2 := by
  have h_S : FrA [14] S S := fra_0
  unfold d_X11_add_95 at hf
  obtain ⟨-, hf⟩ := m_chkE hf
  obtain ⟨S1, e1, hf⟩ := m_bndE hf
  have h_S1 := fra_I h_S e1
  obtain ⟨-, hf⟩ := m_chkE hf
  obtain ⟨b2, -, hf⟩ := m_calE hf
  obtain ⟨-, hf⟩ := m_chkE hf
  obtain ⟨o3, ho, hf⟩ := m_calE hf
  have h_o3 := fra_t h_S1 (fa_X0_play ho) (by decide)
  clear ho
  obtain ⟨-, hf⟩ := m_chkE hf
  cases hf
  exact h_o3
theorem fa_X11_add_72 {o : (Nat × Int32) × ZS} {S : ZS}  (hf : d_X11_add_72 S = some o) : FrA [14] S o.2 := by
  have h_S : FrA [14] S S := fra_0
  unfold d_X11_add_72 at hf
  cases hf
  exact fra_Q h_S rfl
theorem fa_X11_add_0 {o : (Nat × Int32) × ZS} {x0 : Nat} {x1 : Int32} {S : ZS}  (hf : d_X11_add_0 x0 x1 S = some o) : FrA [14] S o.2 := by
  have h_S : FrA [14] S S := fra_0
  unfold d_X11_add_0 at hf
  obtain ⟨-, hf⟩ := m_chkE hf
  obtain ⟨b1, -, hf⟩ := m_calE hf
  obtain ⟨-, hf⟩ := m_chkE hf
  obtain ⟨b2, -, hf⟩ := m_calE hf
  obtain ⟨-, hf⟩ := m_chkE hf
  obtain ⟨o3, ho, hf⟩ := m_calE hf
  have h_o3 := fra_t h_S (fa_X7_isLegal ho) (by decide)
  clear ho
  obtain ⟨-, hf⟩ := m_chkE hf
  rcases m_ifE hf with ⟨-, hf⟩ | ⟨-, hf⟩
  ·
    cases hf
    exact fra_Q h_o3 rfl
  ·
    obtain ⟨-, hf⟩ := m_chkE hf
    obtain ⟨b4, -, hf⟩ := m_calE hf
    obtain ⟨-, hf⟩ := m_chkE hf
    obtain ⟨-, hf⟩ := m_chkE hf
    obtain ⟨o5, ho, hf⟩ := m_calE hf
    have h_o5 := fra_t h_o3 (fa_X1_childWith ho) (by decide)
    clear ho
    obtain ⟨-, hf⟩ := m_chkE hf
    rcases m_ifE hf with ⟨-, hf⟩ | ⟨-, hf⟩
    ·
      obtain ⟨-, hf⟩ := m_chkE hf
      obtain ⟨b6, -, hf⟩ := m_calE hf
      obtain ⟨-, hf⟩ := m_chkE hf
      rcases m_ifE hf with ⟨-, hf⟩ | ⟨-, hf⟩
      ·
        exact fra_t h_o5 (fa_X11_add_72  hf) (fun _ h => h)
      ·
        obtain ⟨-, hf⟩ := m_chkE hf
        obtain ⟨b7, -, hf⟩ := m_calE hf
        obtain ⟨-, hf⟩ := m_chkE hf
        obtain ⟨-, hf⟩ := m_chkE hf
        obtain ⟨o8, ho, hf⟩ := m_calE hf
        have h_o8 := fra_t h_o5 (fa_X1_deepOfNext ho) (by decide)
        clear ho
        obtain ⟨-, hf⟩ := m_chkE hf
        rcases m_ifE hf with ⟨-, hf⟩ | ⟨-, hf⟩
        ·
          obtain ⟨-, hf⟩ := m_chkE hf
          obtain ⟨b9, -, hf⟩ := m_calE hf
          obtain ⟨-, hf⟩ := m_chkE hf
          obtain ⟨-, hf⟩ := m_chkE hf
          obtain ⟨⟨r11, S12⟩, ho, hf⟩ := m_cal2E hf
          have h_S12 := fra_t h_o8 (fa_X1_grow ho) (by decide)
          clear ho
          exact fra_t h_S12 (fa_X11_add_95  hf) (fun _ h => h)
        ·
          exact fra_t h_o8 (fa_X11_add_72  hf) (fun _ h => h)
    ·
      exact fra_t h_o5 (fa_X11_add_95  hf) (fun _ h => h)
theorem fa_X11_add {o : (Nat × Int32) × ZS} {x0 : Nat} {x1 : Int32} {S : ZS}  (hf : d_X11_add x0 x1 S = some o) : FrA [14] S o.2 := by
  have h_S : FrA [14] S S := fra_0
  unfold d_X11_add at hf
  exact fra_t h_S (fa_X11_add_0  hf) (fun _ h => h)
theorem fa_X11_addMark_11 {o : (Nat × Int32) × ZS} {S : ZS}  (hf : d_X11_addMark_11 S = some o) : FrA [] S o.2 := by
  have h_S : FrA [] S S := fra_0
  unfold d_X11_addMark_11 at hf
  cases hf
  exact fra_Q h_S rfl
theorem fa_X11_addMark_48 {o : (Nat × Int32) × ZS} {S : ZS}  (hf : d_X11_addMark_48 S = some o) : FrA [] S o.2 := by
  have h_S : FrA [] S S := fra_0
  unfold d_X11_addMark_48 at hf
  cases hf
  exact fra_Q h_S rfl
theorem fa_X11_addMark_0 {o : (Nat × Int32) × ZS} {x0 : Nat} {x1 : Int32} {S : ZS}  (hf : d_X11_addMark_0 x0 x1 S = some o) : FrA [] S o.2 := by
  have h_S : FrA [] S S := fra_0
  unfold d_X11_addMark_0 at hf
  rcases m_ifE hf with ⟨-, hf⟩ | ⟨-, hf⟩
  ·
    exact fra_t h_S (fa_X11_addMark_11  hf) (fun _ h => h)
  ·
    rcases m_ifE hf with ⟨-, hf⟩ | ⟨-, hf⟩
    ·
      obtain ⟨-, hf⟩ := m_chkE hf
      obtain ⟨b1, -, hf⟩ := m_calE hf
      obtain ⟨-, hf⟩ := m_chkE hf
      obtain ⟨-, hf⟩ := m_chkE hf
      obtain ⟨o2, ho, hf⟩ := m_calE hf
      have h_o2 := fra_t h_S (fa_X1_at ho) (by decide)
      clear ho
      obtain ⟨-, hf⟩ := m_chkE hf
      obtain ⟨-, hf⟩ := m_chkE hf
      rcases m_ifE hf with ⟨-, hf⟩ | ⟨-, hf⟩
      ·
        exact fra_t h_o2 (fa_X11_addMark_48  hf) (fun _ h => h)
      ·
        obtain ⟨-, hf⟩ := m_chkE hf
        rcases m_ifE hf with ⟨-, hf⟩ | ⟨-, hf⟩
        ·
          obtain ⟨-, hf⟩ := m_chkE hf
          obtain ⟨o3, ho, hf⟩ := m_calE hf
          have h_o3 := fra_t h_o2 (fa_X4_putMark ho) (by decide)
          clear ho
          obtain ⟨-, hf⟩ := m_chkE hf
          obtain ⟨-, hf⟩ := m_chkE hf
          cases hf
          exact h_o3
        ·
          exact fra_t h_o2 (fa_X11_addMark_48  hf) (fun _ h => h)
    ·
      exact fra_t h_S (fa_X11_addMark_11  hf) (fun _ h => h)
theorem fa_X11_addMark {o : (Nat × Int32) × ZS} {x0 : Nat} {x1 : Int32} {S : ZS}  (hf : d_X11_addMark x0 x1 S = some o) : FrA [] S o.2 := by
  have h_S : FrA [] S S := fra_0
  unfold d_X11_addMark at hf
  exact fra_t h_S (fa_X11_addMark_0  hf) (fun _ h => h)
theorem fa_X11_say_43 {o : (Nat × Int32) × ZS} {S : ZS}  (hf : d_X11_say_43 S = some o) : FrA [13] S o.2 := by
  have h_S : FrA [13] S S := fra_0
  unfold d_X11_say_43 at hf
  cases hf
  exact fra_Q h_S rfl
theorem fa_X11_say_0 {o : (Nat × Int32) × ZS} {x0 : Nat} {S : ZS}  (hf : d_X11_say_0 x0 S = some o) : FrA [13] S o.2 := by
  have h_S : FrA [13] S S := fra_0
  unfold d_X11_say_0 at hf
  obtain ⟨-, hf⟩ := m_chkE hf
  obtain ⟨b1, -, hf⟩ := m_calE hf
  obtain ⟨-, hf⟩ := m_chkE hf
  obtain ⟨o2, ho, hf⟩ := m_calE hf
  have h_o2 := fra_t h_S (fa_X6_size ho) (by decide)
  clear ho
  obtain ⟨-, hf⟩ := m_chkE hf
  rcases m_ifE hf with ⟨-, hf⟩ | ⟨-, hf⟩
  ·
    exact fra_t h_o2 (fa_X11_say_43  hf) (fun _ h => h)
  ·
    obtain ⟨-, hf⟩ := m_chkE hf
    obtain ⟨b3, -, hf⟩ := m_calE hf
    obtain ⟨-, hf⟩ := m_chkE hf
    obtain ⟨o4, ho, hf⟩ := m_calE hf
    have h_o4 := fra_t h_o2 (fa_X6_indexOf ho) (by decide)
    clear ho
    obtain ⟨-, hf⟩ := m_chkE hf
    rcases m_ifE hf with ⟨-, hf⟩ | ⟨-, hf⟩
    ·
      exact fra_t h_o4 (fa_X11_say_43  hf) (fun _ h => h)
    ·
      obtain ⟨-, hf⟩ := m_chkE hf
      obtain ⟨b5, -, hf⟩ := m_calE hf
      obtain ⟨-, hf⟩ := m_chkE hf
      obtain ⟨o6, ho, hf⟩ := m_calE hf
      have h_o6 := fra_t h_o4 (fa_X6_indexOf ho) (by decide)
      clear ho
      obtain ⟨-, hf⟩ := m_chkE hf
      rcases m_ifE hf with ⟨-, hf⟩ | ⟨-, hf⟩
      ·
        obtain ⟨-, hf⟩ := m_chkE hf
        obtain ⟨b7, -, hf⟩ := m_calE hf
        obtain ⟨-, hf⟩ := m_chkE hf
        obtain ⟨-, hf⟩ := m_chkE hf
        obtain ⟨o8, ho, hf⟩ := m_calE hf
        have h_o8 := fra_t h_o6 (fa_X1_at ho) (by decide)
        clear ho
        obtain ⟨-, hf⟩ := m_chkE hf
        obtain ⟨-, hf⟩ := m_chkE hf
        obtain ⟨b9, -, hf⟩ := m_calE hf
        obtain ⟨-, hf⟩ := m_chkE hf
        obtain ⟨b10, -, hf⟩ := m_calE hf
        obtain ⟨-, hf⟩ := m_chkE hf
        obtain ⟨⟨r12, S13⟩, ho, hf⟩ := m_cal2E hf
        have h_S13 := fra_t h_o8 (fa_X6_copyFrom ho) (by decide)
        clear ho
        obtain ⟨-, hf⟩ := m_chkE hf
        obtain ⟨b16, -, hf⟩ := m_calE hf
        obtain ⟨-, hf⟩ := m_chkE hf
        obtain ⟨o17, ho, hf⟩ := m_calE hf
        have h_o17 := fra_t h_S13 (fa_X6_keep ho) (by decide)
        clear ho
        obtain ⟨-, hf⟩ := m_chkE hf
        cases hf
        exact h_o17
      ·
        exact fra_t h_o6 (fa_X11_say_43  hf) (fun _ h => h)
theorem fa_X11_say {o : (Nat × Int32) × ZS} {x0 : Nat} {S : ZS}  (hf : d_X11_say x0 S = some o) : FrA [13] S o.2 := by
  have h_S : FrA [13] S S := fra_0
  unfold d_X11_say at hf
  exact fra_t h_S (fa_X11_say_0  hf) (fun _ h => h)
theorem fa_X11_lead_0 {o : (Nat × Int32) × ZS} {x0 : Nat} {S : ZS}  (hf : d_X11_lead_0 x0 S = some o) : FrA [14] S o.2 := by
  have h_S : FrA [14] S S := fra_0
  unfold d_X11_lead_0 at hf
  obtain ⟨-, hf⟩ := m_chkE hf
  rcases m_ifE hf with ⟨-, hf⟩ | ⟨-, hf⟩
  ·
    cases hf
    exact fra_Q h_S rfl
  ·
    obtain ⟨-, hf⟩ := m_chkE hf
    obtain ⟨b1, -, hf⟩ := m_calE hf
    obtain ⟨-, hf⟩ := m_chkE hf
    obtain ⟨-, hf⟩ := m_chkE hf
    obtain ⟨o2, ho, hf⟩ := m_calE hf
    have h_o2 := fra_t h_S (fa_X1_goesOn ho) (by decide)
    clear ho
    obtain ⟨-, hf⟩ := m_chkE hf
    rcases m_ifE hf with ⟨-, hf⟩ | ⟨-, hf⟩
    ·
      obtain ⟨-, hf⟩ := m_chkE hf
      obtain ⟨b3, -, hf⟩ := m_calE hf
      obtain ⟨-, hf⟩ := m_chkE hf
      obtain ⟨-, hf⟩ := m_chkE hf
      obtain ⟨o4, ho, hf⟩ := m_calE hf
      have h_o4 := fra_t h_o2 (fa_X1_mayLead ho) (by decide)
      clear ho
      obtain ⟨-, hf⟩ := m_chkE hf
      rcases m_ifE hf with ⟨-, hf⟩ | ⟨-, hf⟩
      ·
        cases hf
        exact fra_Q h_o4 rfl
      ·
        obtain ⟨-, hf⟩ := m_chkE hf
        obtain ⟨b5, -, hf⟩ := m_calE hf
        obtain ⟨-, hf⟩ := m_chkE hf
        obtain ⟨-, hf⟩ := m_chkE hf
        obtain ⟨o6, ho, hf⟩ := m_calE hf
        have h_o6 := fra_t h_o4 (fa_X1_putFirst ho) (by decide)
        clear ho
        obtain ⟨-, hf⟩ := m_chkE hf
        obtain ⟨-, hf⟩ := m_chkE hf
        cases hf
        exact h_o6
    ·
      obtain ⟨-, hf⟩ := m_chkE hf
      cases hf
      exact h_o2
theorem fa_X11_lead {o : (Nat × Int32) × ZS} {x0 : Nat} {S : ZS}  (hf : d_X11_lead x0 S = some o) : FrA [14] S o.2 := by
  have h_S : FrA [14] S S := fra_0
  unfold d_X11_lead at hf
  exact fra_t h_S (fa_X11_lead_0  hf) (fun _ h => h)
theorem fa_X11_end_9 {o : (Nat × Int32) × ZS} {S : ZS}  (hf : d_X11_end_9 S = some o) : FrA [] S o.2 := by
  have h_S : FrA [] S S := fra_0
  unfold d_X11_end_9 at hf
  cases hf
  exact fra_Q h_S rfl
theorem fa_X11_end_0 {o : (Nat × Int32) × ZS} {x0 : Nat} {x1 : Int32} {S : ZS}  (hf : d_X11_end_0 x0 x1 S = some o) : FrA [] S o.2 := by
  have h_S : FrA [] S S := fra_0
  unfold d_X11_end_0 at hf
  rcases m_ifE hf with ⟨-, hf⟩ | ⟨-, hf⟩
  ·
    exact fra_t h_S (fa_X11_end_9  hf) (fun _ h => h)
  ·
    rcases m_ifE hf with ⟨-, hf⟩ | ⟨-, hf⟩
    ·
      obtain ⟨-, hf⟩ := m_chkE hf
      obtain ⟨b1, -, hf⟩ := m_calE hf
      obtain ⟨-, hf⟩ := m_chkE hf
      obtain ⟨S2, e1, hf⟩ := m_bndE hf
      have h_S2 := fra_I h_S e1
      cases hf
      exact h_S2
    ·
      exact fra_t h_S (fa_X11_end_9  hf) (fun _ h => h)
theorem fa_X11_end {o : (Nat × Int32) × ZS} {x0 : Nat} {x1 : Int32} {S : ZS}  (hf : d_X11_end x0 x1 S = some o) : FrA [] S o.2 := by
  have h_S : FrA [] S S := fra_0
  unfold d_X11_end at hf
  exact fra_t h_S (fa_X11_end_0  hf) (fun _ h => h)
theorem fa_X11_tag_19 {o : (Nat × Int32) × ZS} {S : ZS}  (hf : d_X11_tag_19 S = some o) : FrA [] S o.2 := by
  have h_S : FrA [] S S := fra_0
  unfold d_X11_tag_19 at hf
  cases hf
  exact fra_Q h_S rfl
theorem fa_X11_tag_65 {o : (Nat × Int32) × ZS} {t0 : Int32} {S : ZS}  (hf : d_X11_tag_65 t0 S = some o) : FrA [] S o.2 := by
  have h_S : FrA [] S S := fra_0
  unfold d_X11_tag_65 at hf
  cases hf
  exact h_S
theorem fa_X11_tag_0 {o : (Nat × Int32) × ZS} {x0 : Nat} {x1 : Int32} {x2 : Int32} {x3 : Int32} {S : ZS}  (hf : d_X11_tag_0 x0 x1 x2 x3 S = some o) : FrA [] S o.2 := by
  have h_S : FrA [] S S := fra_0
  unfold d_X11_tag_0 at hf
  rcases m_ifE hf with ⟨-, hf⟩ | ⟨-, hf⟩
  ·
    exact fra_t h_S (fa_X11_tag_19  hf) (fun _ h => h)
  ·
    obtain ⟨-, hf⟩ := m_chkE hf
    obtain ⟨b1, -, hf⟩ := m_calE hf
    obtain ⟨-, hf⟩ := m_chkE hf
    rcases m_ifE hf with ⟨-, hf⟩ | ⟨-, hf⟩
    ·
      exact fra_t h_S (fa_X11_tag_19  hf) (fun _ h => h)
    ·
      rcases m_ifE hf with ⟨-, hf⟩ | ⟨-, hf⟩
      ·
        obtain ⟨-, hf⟩ := m_chkE hf
        obtain ⟨b2, -, hf⟩ := m_calE hf
        obtain ⟨-, hf⟩ := m_chkE hf
        obtain ⟨⟨r4, S5⟩, ho, hf⟩ := m_cal2E hf
        have h_S5 := fra_t h_S (fa_X1_tagAt ho) (by decide)
        clear ho
        rcases m_ifE hf with ⟨-, hf⟩ | ⟨-, hf⟩
        ·
          obtain ⟨-, hf⟩ := m_chkE hf
          obtain ⟨b8, -, hf⟩ := m_calE hf
          obtain ⟨-, hf⟩ := m_chkE hf
          obtain ⟨o9, ho, hf⟩ := m_calE hf
          have h_o9 := fra_t h_S5 (fa_X6_at ho) (by decide)
          clear ho
          obtain ⟨-, hf⟩ := m_chkE hf
          exact fra_t h_o9 (fa_X11_tag_65  hf) (fun _ h => h)
        ·
          obtain ⟨-, hf⟩ := m_chkE hf
          obtain ⟨b10, -, hf⟩ := m_calE hf
          obtain ⟨-, hf⟩ := m_chkE hf
          obtain ⟨o11, ho, hf⟩ := m_calE hf
          have h_o11 := fra_t h_S5 (fa_X6_at ho) (by decide)
          clear ho
          obtain ⟨-, hf⟩ := m_chkE hf
          exact fra_t h_o11 (fa_X11_tag_65  hf) (fun _ h => h)
      ·
        exact fra_t h_S (fa_X11_tag_19  hf) (fun _ h => h)
theorem fa_X11_tag {o : (Nat × Int32) × ZS} {x0 : Nat} {x1 : Int32} {x2 : Int32} {x3 : Int32} {S : ZS}  (hf : d_X11_tag x0 x1 x2 x3 S = some o) : FrA [] S o.2 := by
  have h_S : FrA [] S S := fra_0
  unfold d_X11_tag at hf
  exact fra_t h_S (fa_X11_tag_0  hf) (fun _ h => h)
