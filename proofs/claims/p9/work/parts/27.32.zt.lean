def cM (k j : Nat) : Nat := if k = 2 ∧ j = 3 then 4 else if k = 2 ∧ j = 6 then 1 else if k = 2 ∧ j = 7 then 1 else if k = 8 ∧ j = 1 then 1 else if k = 11 ∧ j = 0 then 2 else if k = 11 ∧ j = 1 then 3 else if k = 11 ∧ j = 7 then 4 else 0
def cT (k j : Nat) : Nat := if k = 2 ∧ j = 2 then 2 else if k = 2 ∧ j = 6 then 1 else if k = 2 ∧ j = 7 then 1 else if k = 4 ∧ j = 6 then 0 else if k = 5 ∧ j = 0 then 2 else if k = 8 ∧ j = 1 then 1 else if k = 10 ∧ j = 0 then 0 else if k = 10 ∧ j = 1 then 0 else if k = 11 ∧ j = 0 then 2 else if k = 11 ∧ j = 1 then 3 else 4
def pT (k j : Nat) : Nat × Nat := if k = 0 ∧ j = 0 then (14, 64) else if k = 1 ∧ j = 0 then (0, 0) else if k = 1 ∧ j = 1 then (4, 0) else if k = 1 ∧ j = 2 then (16, 301) else if k = 1 ∧ j = 4 then (17, 8) else if k = 1 ∧ j = 7 then (14, 301) else if k = 2 ∧ j = 0 then (8, 0) else if k = 2 ∧ j = 1 then (5, 0) else if k = 2 ∧ j = 2 then (6, 0) else if k = 2 ∧ j = 3 then (1, 0) else if k = 2 ∧ j = 6 then (6, 0) else if k = 2 ∧ j = 7 then (6, 0) else if k = 2 ∧ j = 8 then (14, 7) else if k = 2 ∧ j = 9 then (14, 7) else if k = 2 ∧ j = 10 then (15, 7) else if k = 2 ∧ j = 11 then (15, 7) else if k = 3 ∧ j = 0 then (9, 0) else if k = 3 ∧ j = 1 then (15, 7) else if k = 4 ∧ j = 6 then (6, 0) else if k = 5 ∧ j = 0 then (6, 0) else if k = 7 ∧ j = 0 then (0, 0) else if k = 7 ∧ j = 1 then (0, 0) else if k = 8 ∧ j = 0 then (7, 0) else if k = 8 ∧ j = 1 then (6, 0) else if k = 8 ∧ j = 10 then (14, 64) else if k = 9 ∧ j = 0 then (7, 0) else if k = 10 ∧ j = 0 then (6, 0) else if k = 10 ∧ j = 1 then (6, 0) else if k = 11 ∧ j = 0 then (6, 0) else if k = 11 ∧ j = 1 then (6, 0) else if k = 11 ∧ j = 2 then (7, 0) else if k = 11 ∧ j = 3 then (8, 0) else if k = 11 ∧ j = 4 then (9, 0) else if k = 11 ∧ j = 5 then (2, 0) else if k = 11 ∧ j = 6 then (3, 0) else if k = 11 ∧ j = 7 then (1, 0) else if k = 11 ∧ j = 9 then (0, 0) else (99, 0)
def bT (k j : Nat) : Int × Int := if k = 0 ∧ j = 1 then (0, 63) else if k = 0 ∧ j = 2 then (0, 63) else if k = 0 ∧ j = 3 then (0, 1) else if k = 0 ∧ j = 5 then (-1, 63) else if k = 1 ∧ j = 3 then (0, 300) else if k = 1 ∧ j = 5 then (0, 8) else if k = 2 ∧ j = 4 then (0, 90100) else if k = 4 ∧ j = 4 then (0, 4) else if k = 5 ∧ j = 1 then (0, 90100) else if k = 8 ∧ j = 2 then (-2, 2) else if k = 8 ∧ j = 6 then (-1, 63) else if k = 8 ∧ j = 7 then (0, 30) else if k = 8 ∧ j = 8 then (-1, 1) else if k = 8 ∧ j = 9 then (0, 65535) else if k = 8 ∧ j = 11 then (0, 64) else if k = 11 ∧ j = 8 then (0, 300) else tF
def zcap (S : ZS) (b : Nat) : Nat := if b = 0 then 0 else zN S b
def rc (a : Nat) : Nat := if a = 3 then 3 else if a = 15 ∨ a = 30 ∨ a = 43 ∨ a = 44 then 1 else if a = 2 ∨ a = 33 ∨ a = 34 then 2 else if a = 35 ∨ a = 99 then 4 else 0
def rL (a : Nat) : Nat := if rc a = 3 then 90000 else if rc a = 1 ∨ rc a = 2 then 2000 else 200
def rK (a : Nat) : Nat := if rc a = 3 then 185000 else if rc a = 1 ∨ rc a = 2 then 4100 else 410
theorem rc_le (a : Nat) : rc a ≤ 4 := by
  unfold rc; split
  · omega
  · split
    · omega
    · split
      · omega
      · split <;> omega
theorem rc_3 {a : Nat} (h : 4 ≤ rc a) : a = 35 ∨ a = 99 := by
  unfold rc at h
  split at h
  · omega
  · split at h
    · omega
    · split at h
      · omega
      · split at h
        · assumption
        · omega
theorem rc_new {a : Nat} (h : 109 ≤ a) : rc a = 0 := by
  unfold rc
  rw [if_neg (by omega), if_neg (by omega), if_neg (by omega), if_neg (by omega)]
def ZTp (S : ZS) : Prop := ∀ a j, zK S a < 18 → (pT (zK S a) j).1 ≠ 99 → ∃ b, zP S j a = some b ∧ zK S b = (pT (zK S a) j).1 ∧ ((pT (zK S a) j).2 = 0 ∨ zN S b = (pT (zK S a) j).2)
def ZTr (S : ZS) : Prop := ∀ a, zK S a = 6 → ∃ b, zP S 0 a = some b ∧ (b = 0 ∨ zK S b = 13) ∧ 0 ≤ (zI S 1 a).toInt ∧ (zI S 1 a).toInt ≤ (zcap S b : Int) ∧ (zI S 1 a).toInt ≤ (rL a : Int) ∧ zcap S b ≤ rK a
def ZTi (S : ZS) : Prop := ∀ a j, zK S a < 18 → (bT (zK S a) j).1 ≤ (zI S j a).toInt ∧ (zI S j a).toInt ≤ (bT (zK S a) j).2
def ZTb (S : ZS) : Prop := ∀ a, (zK S a = 15 → ∀ i, i < 7 → ∃ b, zB S a i = some b ∧ zK S b = 0) ∧ (zK S a = 16 → ∀ i b, zB S a i = some b → zK S b = 4) ∧ (zK S a = 17 → ∀ i b, zB S a i = some b → zK S b = 10)
def ZTc (S : ZS) : Prop := ∀ a, zK S a = 13 → ∀ i, (0 : Int) ≤ (zA S a i).toInt ∧ (zA S a i).toInt ≤ (65535 : Int)
def ZTd (S : ZS) : Prop := ∀ a j, zK S a < 18 → ∀ b, zP S j a = some b → cM (zK S a) j ≤ rc b ∧ rc b ≤ cT (zK S a) j
def ZTg (S : ZS) : Prop := ∀ a, zK S a = 1 → ∀ b, zP S 4 a = some b → ∀ i : Nat, (i : Int) < (zI S 5 a).toInt → ∃ c, zB S b i = some c
/-- no two rows have the same characters -/
def ZTu (S : ZS) : Prop := ∀ a a' b, zK S a = 6 → zK S a' = 6 → zP S 0 a = some b → zP S 0 a' = some b → b = 0 ∨ a = a'
def ZT (S : ZS) : Prop := ZTp S ∧ ZTr S ∧ ZTi S ∧ ZTb S ∧ Fh S ∧ 18 ≤ zK S 0 ∧ ZTc S ∧ ZTd S ∧ ZTg S ∧ zc S = 0 ∧ 109 ≤ zt S ∧ ZTu S
theorem zt_x {S S' : ZS} (h : ZT S) (e : EqT S S') (hp : ∀ a j, zK S a < 18 → zP S' j a = zP S j a) (hi : ∀ a j, zK S a < 18 → (bT (zK S a) j).1 ≤ (zI S' j a).toInt ∧ (zI S' j a).toInt ≤ (bT (zK S a) j).2) (hr : ∀ a, zK S a = 6 → 0 ≤ (zI S' 1 a).toInt ∧ (zI S' 1 a).toInt ≤ (zI S 1 a).toInt) (hc : ∀ a, zK S a = 13 → zA S' a = zA S a) (hg : ∀ a, zK S a = 1 → (zI S' 5 a).toInt ≤ (zI S 5 a).toInt) (hz : zc S' = zc S) : ZT S' := by
  obtain ⟨h1, h2, h3, h4, h5, h6, h7, h8, h9, h10, h11⟩ := h
  obtain ⟨e1, e2, e3, e4, e5⟩ := e
  refine ⟨?_, ?_, ?_, ?_, ?_, ?_, ?_, ?_, ?_, ?_, ?_⟩
  · intro a j ha hj
    rw [e3] at ha hj ⊢
    rw [hp a j ha, e4]
    exact h1 a j ha hj
  · intro a ha
    rw [e3] at ha
    obtain ⟨b, c1, c2, c3, c4, c5, c6⟩ := h2 a ha
    have := hr a ha
    refine ⟨b, ?_, ?_, this.1, ?_, by omega, ?_⟩
    · rw [hp a 0 (by omega)]; exact c1
    · rw [e3]; exact c2
    · unfold zcap at c4 ⊢; rw [e4]; omega
    · unfold zcap; rw [e4]; exact c6
  · intro a j ha
    rw [e3] at ha ⊢
    exact hi a j ha
  · intro a
    rw [e3, e5]
    exact h4 a
  · intro a ha
    rw [e3]; exact h5 a (by rw [← e1]; exact ha)
  · rw [e3]; exact h6
  · intro a ha i
    rw [e3] at ha
    rw [hc a ha]; exact h7 a ha i
  · intro a j ha b hb
    rw [e3] at ha ⊢
    rw [hp a j ha] at hb
    exact h8 a j ha b hb
  · intro a ha b hb i hi
    rw [e3] at ha
    rw [hp a 4 (by omega)] at hb
    rw [e5]
    exact h9 a ha b hb i (by have := hg a ha; omega)
  · rw [hz]; exact h10
  · refine ⟨by rw [e1]; exact h11.1, fun a a' b k1 k2 p1 p2 => ?_⟩
    rw [e3] at k1 k2
    rw [hp a 0 (by omega)] at p1
    rw [hp a' 0 (by omega)] at p2
    exact h11.2 a a' b k1 k2 p1 p2
theorem zt_I0 {S : ZS} {j a k : Nat} {v : Int32} (h : ZT S) (hk : zK S a = k) (hn : k = 6 ∧ j = 1 → 0 ≤ v.toInt ∧ v.toInt ≤ (zI S 1 a).toInt) (hg : k = 1 ∧ j = 5 → v.toInt ≤ (zI S 5 a).toInt) (hv : (bT k j).1 ≤ v.toInt ∧ v.toInt ≤ (bT k j).2) : ZT (zsI S j a v) := by
  refine zt_x h ⟨rfl, rfl, rfl, rfl, rfl⟩ (fun _ _ _ => rfl) (fun b i hb => ?_) (fun b hb => ?_) (fun _ _ => rfl) (fun b hb => ?_) rfl
  · show _ ≤ (va_up (zI S) j (va_up (zI S j) a v) i b).toInt ∧ (va_up (zI S) j (va_up (zI S j) a v) i b).toInt ≤ _
    by_cases e1 : i = j
    · subst e1
      rw [va_up_self]
      by_cases e2 : b = a
      · subst e2; rw [va_up_self, hk]; exact hv
      · rw [va_up_ne _ _ e2]; exact h.2.2.1 b i hb
    · rw [va_up_ne _ _ e1]; exact h.2.2.1 b i hb
  · show 0 ≤ (va_up (zI S) j (va_up (zI S j) a v) 1 b).toInt ∧ (va_up (zI S) j (va_up (zI S j) a v) 1 b).toInt ≤ (zI S 1 b).toInt
    have hh : 0 ≤ (zI S 1 b).toInt := by
      obtain ⟨c, -, -, c1, -⟩ := h.2.1 b hb
      exact c1
    by_cases e1 : 1 = j
    · subst e1
      rw [va_up_self]
      by_cases e2 : b = a
      · subst e2; rw [va_up_self]; exact hn ⟨by rw [← hk]; exact hb, rfl⟩
      · rw [va_up_ne _ _ e2]; exact ⟨hh, Int.le_refl _⟩
    · rw [va_up_ne _ _ e1]; exact ⟨hh, Int.le_refl _⟩
  · show (va_up (zI S) j (va_up (zI S j) a v) 5 b).toInt ≤ (zI S 5 b).toInt
    by_cases e1 : 5 = j
    · subst e1
      rw [va_up_self]
      by_cases e2 : b = a
      · subst e2; rw [va_up_self]; exact hg ⟨by rw [← hk]; exact hb, rfl⟩
      · rw [va_up_ne _ _ e2]; exact Int.le_refl _
    · rw [va_up_ne _ _ e1]; exact Int.le_refl _
theorem zt_I {S : ZS} {j a k : Nat} {v : Int32} (h : ZT S) (hk : zK S a = k) (hn : ¬ (k = 6 ∧ j = 1) ∧ ¬ (k = 1 ∧ j = 5)) (hv : (bT k j).1 ≤ v.toInt ∧ v.toInt ≤ (bT k j).2) : ZT (zsI S j a v) := zt_I0 h hk (fun e => absurd e hn.1) (fun e => absurd e hn.2) hv
theorem zt_W {S : ZS} {j a k : Nat} {v : Int32} (h : ZT S) (hk : zK S a = k) (hn : ¬ (k = 6 ∧ j = 1) ∧ ¬ (k = 1 ∧ j = 5)) (hv : bT k j = tF) : ZT (zsI S j a v) := zt_I h hk hn (by rw [hv]; exact tf_b v)
theorem zt_T {S : ZS} {a : Nat} {v : Int32} (h : ZT S) (hk : zK S a = 1) (h1 : 0 ≤ v.toInt) (h2 : v.toInt ≤ (zI S 5 a).toInt) : ZT (zsI S 5 a v) := zt_I0 h hk (fun e => absurd e.1 (by decide)) (fun _ => h2) (by
  have := h.2.2.1 a 5 (by omega)
  rw [hk] at this
  exact ⟨h1, Int.le_trans h2 this.2⟩)
theorem zt_len {S : ZS} {a : Nat} {v : Int32} (h : ZT S) (hk : zK S a = 6) (h1 : 0 ≤ v.toInt) (h2 : v.toInt ≤ (zI S 1 a).toInt) : ZT (zsI S 1 a v) := zt_I0 h hk (fun _ => ⟨h1, h2⟩) (fun e => absurd e.1 (by decide)) (by
  have e : bT 6 1 = tF := rfl
  rw [e]; exact tf_b v)
theorem zt_A {S : ZS} {a i : Nat} {v : Int32} (h : ZT S) (hk : zK S a = 14) : ZT (zsA S a i v) := zt_x h ⟨rfl, rfl, rfl, rfl, rfl⟩ (fun _ _ _ => rfl) (fun b i hb => h.2.2.1 b i hb) (fun b hb => ⟨by obtain ⟨c, -, -, c1, -⟩ := h.2.1 b hb; exact c1, Int.le_refl _⟩) (fun b hb => va_up_ne _ _ (fun e => by rw [e, hk] at hb; exact absurd hb (by decide))) (fun _ _ => Int.le_refl _) rfl
theorem zt_C {S : ZS} {b a sp dp n : Nat} (h : ZT S) (hk : zK S a = 14) : ZT (zsC S b a sp dp n) := zt_x h ⟨rfl, rfl, rfl, rfl, rfl⟩ (fun _ _ _ => rfl) (fun b i hb => h.2.2.1 b i hb) (fun b hb => ⟨by obtain ⟨c, -, -, c1, -⟩ := h.2.1 b hb; exact c1, Int.le_refl _⟩) (fun b hb => va_up_ne _ _ (fun e => by rw [e, hk] at hb; exact absurd hb (by decide))) (fun _ _ => Int.le_refl _) rfl
theorem zt_P {S : ZS} {j a k b : Nat} (h : ZT S) (hk : zK S a = k) (hn : ¬ k = 6 ∧ ¬ (k = 1 ∧ j = 4)) (hp : (pT k j).1 = 99 ∨ (zK S b = (pT k j).1 ∧ (pT k j).2 = 0)) (hd : cM k j ≤ rc b ∧ rc b ≤ cT k j) : ZT (zsP S j a (some b)) := by
  obtain ⟨h1, h2, h3, h4, h5, h6, h7, h8, h9, h10, h11⟩ := h
  refine ⟨?_, ?_, h3, h4, h5, h6, h7, ?_, ?_, h10, h11.1, ?_⟩
  · intro c i hc hi
    have hc' : zK S c < 18 := hc
    have hi' : (pT (zK S c) i).1 ≠ 99 := hi
    show ∃ d, va_up (zP S) j (va_up (zP S j) a (some b)) i c = some d ∧ zK S d = (pT (zK S c) i).1 ∧ ((pT (zK S c) i).2 = 0 ∨ zN S d = (pT (zK S c) i).2)
    by_cases e1 : i = j
    · subst e1
      rw [va_up_self]
      by_cases e2 : c = a
      · subst e2
        rw [va_up_self]
        rw [hk] at hi' ⊢
        rcases hp with hp | hp
        · exact absurd hp hi'
        · exact ⟨b, rfl, hp.1, Or.inl hp.2⟩
      · rw [va_up_ne _ _ e2]; exact h1 c i hc' hi'
    · rw [va_up_ne _ _ e1]; exact h1 c i hc' hi'
  · intro c hc
    have hc' : zK S c = 6 := hc
    have e2 : c ≠ a := fun e => by rw [e, hk] at hc'; exact hn.1 hc'
    show ∃ d, va_up (zP S) j (va_up (zP S j) a (some b)) 0 c = some d ∧ _
    by_cases e1 : 0 = j
    · subst e1
      rw [va_up_self, va_up_ne _ _ e2]; exact h2 c hc'
    · rw [va_up_ne _ _ e1]; exact h2 c hc'
  · intro c i hc d hd'
    have hc' : zK S c < 18 := hc
    have hd2 : va_up (zP S) j (va_up (zP S j) a (some b)) i c = some d := hd'
    by_cases e1 : i = j
    · subst e1
      rw [va_up_self] at hd2
      by_cases e2 : c = a
      · subst e2
        rw [va_up_self] at hd2
        cases hd2
        show cM (zK S c) i ≤ rc b ∧ rc b ≤ cT (zK S c) i
        rw [hk]; exact hd
      · rw [va_up_ne _ _ e2] at hd2; exact h8 c i hc' d hd2
    · rw [va_up_ne _ _ e1] at hd2; exact h8 c i hc' d hd2
  · intro c hc d hd' i hi
    have hc' : zK S c = 1 := hc
    have hd2 : va_up (zP S) j (va_up (zP S j) a (some b)) 4 c = some d := hd'
    by_cases e1 : 4 = j
    · subst e1
      rw [va_up_self] at hd2
      by_cases e2 : c = a
      · subst e2
        exact absurd ⟨by rw [← hk]; exact hc', rfl⟩ hn.2
      · rw [va_up_ne _ _ e2] at hd2; exact h9 c hc' d hd2 i hi
    · rw [va_up_ne _ _ e1] at hd2; exact h9 c hc' d hd2 i hi
  · have hq : ∀ c, zK S c = 6 → zP (zsP S j a (some b)) 0 c = zP S 0 c := fun c hc => by
      show va_up (zP S) j (va_up (zP S j) a (some b)) 0 c = _
      by_cases e1 : 0 = j
      · subst e1
        rw [va_up_self, va_up_ne _ _ (fun e => by rw [e, hk] at hc; exact hn.1 hc)]
      · rw [va_up_ne _ _ e1]
    intro c c' d k1 k2 p1 p2
    rw [hq c k1] at p1
    rw [hq c' k2] at p2
    exact h11.2 c c' d k1 k2 p1 p2
theorem ti_inN {v : Int32} {m n : Nat} (hm : m = n) (h1 : 0 ≤ v.toInt) (h2 : v.toInt < n) : ¬ (v < 0 ∨ m ≤ v.toNatClampNeg) := by
  rw [hm]; exact ti_in h1 h2
theorem ok_calR {α β : Type} {o : Option α} {k : α → Option β} {Q : β → Prop} {y : α} (h : o = some y) (hk : Ok (k y) Q) : Ok (m_cal o k) Q := by
  rw [h]; exact hk
theorem ok_cal2R {α β : Type} {o : Option (α × ZS)} {k : α → ZS → Option β} {Q : β → Prop} {r : α} {S : ZS} (h : o = some (r, S)) (hk : Ok (k r S) Q) : Ok (m_cal2 o k) Q := by
  rw [h]; exact hk
theorem ok_opt {β : Type} {x : Option Nat} {a : Option β} {k : Nat → Option β} {Q : β → Prop} (h1 : x = none → Ok a Q) (h2 : ∀ b, x = some b → Ok (k b) Q) : Ok (m_opt x a k) Q := by
  cases x with
  | none => exact h1 rfl
  | some b => exact h2 b rfl
theorem roz {α : Type} {e : Option (α × ZS)} {S : ZS} {R : α × ZS → Prop} (h : Ok e (fun o => o.2 = S ∧ R o)) : ∃ r, e = some (r, S) ∧ R (r, S) := by
  obtain ⟨⟨r, st⟩, h1, h2, h3⟩ := h
  cases h2
  exact ⟨r, h1, h3⟩
theorem T_0_0 {S : ZS} {a : Nat} (h : ZT S) (hk : zK S a = 0) : ∃ b, zP S 0 a = some b ∧ zK S b = 14 ∧ zN S b = 64 := by
  have h1 := h.1 a 0 (by rw [hk]; decide)
  rw [hk] at h1
  obtain ⟨b, c1, c2, c3⟩ := h1 (by decide)
  exact ⟨b, c1, c2, c3.resolve_left (by decide)⟩
theorem T_1_0 {S : ZS} {a : Nat} (h : ZT S) (hk : zK S a = 1) : ∃ b, zP S 0 a = some b ∧ zK S b = 0 := by
  have h1 := h.1 a 0 (by rw [hk]; decide)
  rw [hk] at h1
  obtain ⟨b, c1, c2, c3⟩ := h1 (by decide)
  exact ⟨b, c1, c2⟩
theorem T_1_1 {S : ZS} {a : Nat} (h : ZT S) (hk : zK S a = 1) : ∃ b, zP S 1 a = some b ∧ zK S b = 4 := by
  have h1 := h.1 a 1 (by rw [hk]; decide)
  rw [hk] at h1
  obtain ⟨b, c1, c2, c3⟩ := h1 (by decide)
  exact ⟨b, c1, c2⟩
theorem T_1_2 {S : ZS} {a : Nat} (h : ZT S) (hk : zK S a = 1) : ∃ b, zP S 2 a = some b ∧ zK S b = 16 ∧ zN S b = 301 := by
  have h1 := h.1 a 2 (by rw [hk]; decide)
  rw [hk] at h1
  obtain ⟨b, c1, c2, c3⟩ := h1 (by decide)
  exact ⟨b, c1, c2, c3.resolve_left (by decide)⟩
theorem T_1_4 {S : ZS} {a : Nat} (h : ZT S) (hk : zK S a = 1) : ∃ b, zP S 4 a = some b ∧ zK S b = 17 ∧ zN S b = 8 := by
  have h1 := h.1 a 4 (by rw [hk]; decide)
  rw [hk] at h1
  obtain ⟨b, c1, c2, c3⟩ := h1 (by decide)
  exact ⟨b, c1, c2, c3.resolve_left (by decide)⟩
theorem T_1_7 {S : ZS} {a : Nat} (h : ZT S) (hk : zK S a = 1) : ∃ b, zP S 7 a = some b ∧ zK S b = 14 ∧ zN S b = 301 := by
  have h1 := h.1 a 7 (by rw [hk]; decide)
  rw [hk] at h1
  obtain ⟨b, c1, c2, c3⟩ := h1 (by decide)
  exact ⟨b, c1, c2, c3.resolve_left (by decide)⟩
theorem T_2_0 {S : ZS} {a : Nat} (h : ZT S) (hk : zK S a = 2) : ∃ b, zP S 0 a = some b ∧ zK S b = 8 := by
  have h1 := h.1 a 0 (by rw [hk]; decide)
  rw [hk] at h1
  obtain ⟨b, c1, c2, c3⟩ := h1 (by decide)
  exact ⟨b, c1, c2⟩
theorem T_2_1 {S : ZS} {a : Nat} (h : ZT S) (hk : zK S a = 2) : ∃ b, zP S 1 a = some b ∧ zK S b = 5 := by
  have h1 := h.1 a 1 (by rw [hk]; decide)
  rw [hk] at h1
  obtain ⟨b, c1, c2, c3⟩ := h1 (by decide)
  exact ⟨b, c1, c2⟩
theorem T_2_2 {S : ZS} {a : Nat} (h : ZT S) (hk : zK S a = 2) : ∃ b, zP S 2 a = some b ∧ zK S b = 6 ∧ rc b ≤ 2 := by
  have h1 := h.1 a 2 (by rw [hk]; decide)
  rw [hk] at h1
  obtain ⟨b, c1, c2, c3⟩ := h1 (by decide)
  have h8 := h.2.2.2.2.2.2.2.1 a 2 (by rw [hk]; decide) b c1
  rw [hk] at h8
  exact ⟨b, c1, c2, h8.2⟩
theorem T_2_3 {S : ZS} {a : Nat} (h : ZT S) (hk : zK S a = 2) : ∃ b, zP S 3 a = some b ∧ zK S b = 1 := by
  have h1 := h.1 a 3 (by rw [hk]; decide)
  rw [hk] at h1
  obtain ⟨b, c1, c2, c3⟩ := h1 (by decide)
  exact ⟨b, c1, c2⟩
theorem T_2_6 {S : ZS} {a : Nat} (h : ZT S) (hk : zK S a = 2) : ∃ b, zP S 6 a = some b ∧ zK S b = 6 ∧ rc b ≤ 1 := by
  have h1 := h.1 a 6 (by rw [hk]; decide)
  rw [hk] at h1
  obtain ⟨b, c1, c2, c3⟩ := h1 (by decide)
  have h8 := h.2.2.2.2.2.2.2.1 a 6 (by rw [hk]; decide) b c1
  rw [hk] at h8
  exact ⟨b, c1, c2, h8.2⟩
theorem T_2_7 {S : ZS} {a : Nat} (h : ZT S) (hk : zK S a = 2) : ∃ b, zP S 7 a = some b ∧ zK S b = 6 ∧ rc b ≤ 1 := by
  have h1 := h.1 a 7 (by rw [hk]; decide)
  rw [hk] at h1
  obtain ⟨b, c1, c2, c3⟩ := h1 (by decide)
  have h8 := h.2.2.2.2.2.2.2.1 a 7 (by rw [hk]; decide) b c1
  rw [hk] at h8
  exact ⟨b, c1, c2, h8.2⟩
theorem T_2_8 {S : ZS} {a : Nat} (h : ZT S) (hk : zK S a = 2) : ∃ b, zP S 8 a = some b ∧ zK S b = 14 ∧ zN S b = 7 := by
  have h1 := h.1 a 8 (by rw [hk]; decide)
  rw [hk] at h1
  obtain ⟨b, c1, c2, c3⟩ := h1 (by decide)
  exact ⟨b, c1, c2, c3.resolve_left (by decide)⟩
theorem T_2_9 {S : ZS} {a : Nat} (h : ZT S) (hk : zK S a = 2) : ∃ b, zP S 9 a = some b ∧ zK S b = 14 ∧ zN S b = 7 := by
  have h1 := h.1 a 9 (by rw [hk]; decide)
  rw [hk] at h1
  obtain ⟨b, c1, c2, c3⟩ := h1 (by decide)
  exact ⟨b, c1, c2, c3.resolve_left (by decide)⟩
theorem T_2_10 {S : ZS} {a : Nat} (h : ZT S) (hk : zK S a = 2) : ∃ b, zP S 10 a = some b ∧ zK S b = 15 ∧ zN S b = 7 := by
  have h1 := h.1 a 10 (by rw [hk]; decide)
  rw [hk] at h1
  obtain ⟨b, c1, c2, c3⟩ := h1 (by decide)
  exact ⟨b, c1, c2, c3.resolve_left (by decide)⟩
theorem T_2_11 {S : ZS} {a : Nat} (h : ZT S) (hk : zK S a = 2) : ∃ b, zP S 11 a = some b ∧ zK S b = 15 ∧ zN S b = 7 := by
  have h1 := h.1 a 11 (by rw [hk]; decide)
  rw [hk] at h1
  obtain ⟨b, c1, c2, c3⟩ := h1 (by decide)
  exact ⟨b, c1, c2, c3.resolve_left (by decide)⟩
theorem T_3_0 {S : ZS} {a : Nat} (h : ZT S) (hk : zK S a = 3) : ∃ b, zP S 0 a = some b ∧ zK S b = 9 := by
  have h1 := h.1 a 0 (by rw [hk]; decide)
  rw [hk] at h1
  obtain ⟨b, c1, c2, c3⟩ := h1 (by decide)
  exact ⟨b, c1, c2⟩
theorem T_3_1 {S : ZS} {a : Nat} (h : ZT S) (hk : zK S a = 3) : ∃ b, zP S 1 a = some b ∧ zK S b = 15 ∧ zN S b = 7 := by
  have h1 := h.1 a 1 (by rw [hk]; decide)
  rw [hk] at h1
  obtain ⟨b, c1, c2, c3⟩ := h1 (by decide)
  exact ⟨b, c1, c2, c3.resolve_left (by decide)⟩
theorem T_4_6 {S : ZS} {a : Nat} (h : ZT S) (hk : zK S a = 4) : ∃ b, zP S 6 a = some b ∧ zK S b = 6 ∧ rc b ≤ 0 := by
  have h1 := h.1 a 6 (by rw [hk]; decide)
  rw [hk] at h1
  obtain ⟨b, c1, c2, c3⟩ := h1 (by decide)
  have h8 := h.2.2.2.2.2.2.2.1 a 6 (by rw [hk]; decide) b c1
  rw [hk] at h8
  exact ⟨b, c1, c2, h8.2⟩
theorem T_5_0 {S : ZS} {a : Nat} (h : ZT S) (hk : zK S a = 5) : ∃ b, zP S 0 a = some b ∧ zK S b = 6 ∧ rc b ≤ 2 := by
  have h1 := h.1 a 0 (by rw [hk]; decide)
  rw [hk] at h1
  obtain ⟨b, c1, c2, c3⟩ := h1 (by decide)
  have h8 := h.2.2.2.2.2.2.2.1 a 0 (by rw [hk]; decide) b c1
  rw [hk] at h8
  exact ⟨b, c1, c2, h8.2⟩
theorem T_7_0 {S : ZS} {a : Nat} (h : ZT S) (hk : zK S a = 7) : ∃ b, zP S 0 a = some b ∧ zK S b = 0 := by
  have h1 := h.1 a 0 (by rw [hk]; decide)
  rw [hk] at h1
  obtain ⟨b, c1, c2, c3⟩ := h1 (by decide)
  exact ⟨b, c1, c2⟩
theorem T_7_1 {S : ZS} {a : Nat} (h : ZT S) (hk : zK S a = 7) : ∃ b, zP S 1 a = some b ∧ zK S b = 0 := by
  have h1 := h.1 a 1 (by rw [hk]; decide)
  rw [hk] at h1
  obtain ⟨b, c1, c2, c3⟩ := h1 (by decide)
  exact ⟨b, c1, c2⟩
theorem T_8_0 {S : ZS} {a : Nat} (h : ZT S) (hk : zK S a = 8) : ∃ b, zP S 0 a = some b ∧ zK S b = 7 := by
  have h1 := h.1 a 0 (by rw [hk]; decide)
  rw [hk] at h1
  obtain ⟨b, c1, c2, c3⟩ := h1 (by decide)
  exact ⟨b, c1, c2⟩
theorem T_8_1 {S : ZS} {a : Nat} (h : ZT S) (hk : zK S a = 8) : ∃ b, zP S 1 a = some b ∧ zK S b = 6 ∧ rc b ≤ 1 := by
  have h1 := h.1 a 1 (by rw [hk]; decide)
  rw [hk] at h1
  obtain ⟨b, c1, c2, c3⟩ := h1 (by decide)
  have h8 := h.2.2.2.2.2.2.2.1 a 1 (by rw [hk]; decide) b c1
  rw [hk] at h8
  exact ⟨b, c1, c2, h8.2⟩
theorem T_8_10 {S : ZS} {a : Nat} (h : ZT S) (hk : zK S a = 8) : ∃ b, zP S 10 a = some b ∧ zK S b = 14 ∧ zN S b = 64 := by
  have h1 := h.1 a 10 (by rw [hk]; decide)
  rw [hk] at h1
  obtain ⟨b, c1, c2, c3⟩ := h1 (by decide)
  exact ⟨b, c1, c2, c3.resolve_left (by decide)⟩
theorem T_9_0 {S : ZS} {a : Nat} (h : ZT S) (hk : zK S a = 9) : ∃ b, zP S 0 a = some b ∧ zK S b = 7 := by
  have h1 := h.1 a 0 (by rw [hk]; decide)
  rw [hk] at h1
  obtain ⟨b, c1, c2, c3⟩ := h1 (by decide)
  exact ⟨b, c1, c2⟩
theorem T_10_0 {S : ZS} {a : Nat} (h : ZT S) (hk : zK S a = 10) : ∃ b, zP S 0 a = some b ∧ zK S b = 6 ∧ rc b ≤ 0 := by
  have h1 := h.1 a 0 (by rw [hk]; decide)
  rw [hk] at h1
  obtain ⟨b, c1, c2, c3⟩ := h1 (by decide)
  have h8 := h.2.2.2.2.2.2.2.1 a 0 (by rw [hk]; decide) b c1
  rw [hk] at h8
  exact ⟨b, c1, c2, h8.2⟩
theorem T_10_1 {S : ZS} {a : Nat} (h : ZT S) (hk : zK S a = 10) : ∃ b, zP S 1 a = some b ∧ zK S b = 6 ∧ rc b ≤ 0 := by
  have h1 := h.1 a 1 (by rw [hk]; decide)
  rw [hk] at h1
  obtain ⟨b, c1, c2, c3⟩ := h1 (by decide)
  have h8 := h.2.2.2.2.2.2.2.1 a 1 (by rw [hk]; decide) b c1
  rw [hk] at h8
  exact ⟨b, c1, c2, h8.2⟩
theorem T_11_0 {S : ZS} {a : Nat} (h : ZT S) (hk : zK S a = 11) : ∃ b, zP S 0 a = some b ∧ zK S b = 6 ∧ rc b ≤ 2 := by
  have h1 := h.1 a 0 (by rw [hk]; decide)
  rw [hk] at h1
  obtain ⟨b, c1, c2, c3⟩ := h1 (by decide)
  have h8 := h.2.2.2.2.2.2.2.1 a 0 (by rw [hk]; decide) b c1
  rw [hk] at h8
  exact ⟨b, c1, c2, h8.2⟩
theorem T_11_1 {S : ZS} {a : Nat} (h : ZT S) (hk : zK S a = 11) : ∃ b, zP S 1 a = some b ∧ zK S b = 6 ∧ rc b ≤ 3 := by
  have h1 := h.1 a 1 (by rw [hk]; decide)
  rw [hk] at h1
  obtain ⟨b, c1, c2, c3⟩ := h1 (by decide)
  have h8 := h.2.2.2.2.2.2.2.1 a 1 (by rw [hk]; decide) b c1
  rw [hk] at h8
  exact ⟨b, c1, c2, h8.2⟩
theorem T_11_2 {S : ZS} {a : Nat} (h : ZT S) (hk : zK S a = 11) : ∃ b, zP S 2 a = some b ∧ zK S b = 7 := by
  have h1 := h.1 a 2 (by rw [hk]; decide)
  rw [hk] at h1
  obtain ⟨b, c1, c2, c3⟩ := h1 (by decide)
  exact ⟨b, c1, c2⟩
theorem T_11_3 {S : ZS} {a : Nat} (h : ZT S) (hk : zK S a = 11) : ∃ b, zP S 3 a = some b ∧ zK S b = 8 := by
  have h1 := h.1 a 3 (by rw [hk]; decide)
  rw [hk] at h1
  obtain ⟨b, c1, c2, c3⟩ := h1 (by decide)
  exact ⟨b, c1, c2⟩
theorem T_11_4 {S : ZS} {a : Nat} (h : ZT S) (hk : zK S a = 11) : ∃ b, zP S 4 a = some b ∧ zK S b = 9 := by
  have h1 := h.1 a 4 (by rw [hk]; decide)
  rw [hk] at h1
  obtain ⟨b, c1, c2, c3⟩ := h1 (by decide)
  exact ⟨b, c1, c2⟩
theorem T_11_5 {S : ZS} {a : Nat} (h : ZT S) (hk : zK S a = 11) : ∃ b, zP S 5 a = some b ∧ zK S b = 2 := by
  have h1 := h.1 a 5 (by rw [hk]; decide)
  rw [hk] at h1
  obtain ⟨b, c1, c2, c3⟩ := h1 (by decide)
  exact ⟨b, c1, c2⟩
theorem T_11_6 {S : ZS} {a : Nat} (h : ZT S) (hk : zK S a = 11) : ∃ b, zP S 6 a = some b ∧ zK S b = 3 := by
  have h1 := h.1 a 6 (by rw [hk]; decide)
  rw [hk] at h1
  obtain ⟨b, c1, c2, c3⟩ := h1 (by decide)
  exact ⟨b, c1, c2⟩
theorem T_11_7 {S : ZS} {a : Nat} (h : ZT S) (hk : zK S a = 11) : ∃ b, zP S 7 a = some b ∧ zK S b = 1 := by
  have h1 := h.1 a 7 (by rw [hk]; decide)
  rw [hk] at h1
  obtain ⟨b, c1, c2, c3⟩ := h1 (by decide)
  exact ⟨b, c1, c2⟩
theorem T_11_9 {S : ZS} {a : Nat} (h : ZT S) (hk : zK S a = 11) : ∃ b, zP S 9 a = some b ∧ zK S b = 0 := by
  have h1 := h.1 a 9 (by rw [hk]; decide)
  rw [hk] at h1
  obtain ⟨b, c1, c2, c3⟩ := h1 (by decide)
  exact ⟨b, c1, c2⟩
theorem M_2_3 {S : ZS} {a b : Nat} (h : ZT S) (hk : zK S a = 2) (hp : zP S 3 a = some b) : 4 ≤ rc b := by
  have h8 := h.2.2.2.2.2.2.2.1 a 3 (by rw [hk]; decide) b hp
  rw [hk] at h8
  exact h8.1
theorem M_11_7 {S : ZS} {a b : Nat} (h : ZT S) (hk : zK S a = 11) (hp : zP S 7 a = some b) : 4 ≤ rc b := by
  have h8 := h.2.2.2.2.2.2.2.1 a 7 (by rw [hk]; decide) b hp
  rw [hk] at h8
  exact h8.1
theorem M_11_1 {S : ZS} {a b : Nat} (h : ZT S) (hk : zK S a = 11) (hp : zP S 1 a = some b) : 3 ≤ rc b := by
  have h8 := h.2.2.2.2.2.2.2.1 a 1 (by rw [hk]; decide) b hp
  rw [hk] at h8
  exact h8.1
theorem M_11_0 {S : ZS} {a b : Nat} (h : ZT S) (hk : zK S a = 11) (hp : zP S 0 a = some b) : 2 ≤ rc b := by
  have h8 := h.2.2.2.2.2.2.2.1 a 0 (by rw [hk]; decide) b hp
  rw [hk] at h8
  exact h8.1
theorem M_2_6 {S : ZS} {a b : Nat} (h : ZT S) (hk : zK S a = 2) (hp : zP S 6 a = some b) : 1 ≤ rc b := by
  have h8 := h.2.2.2.2.2.2.2.1 a 6 (by rw [hk]; decide) b hp
  rw [hk] at h8
  exact h8.1
theorem M_2_7 {S : ZS} {a b : Nat} (h : ZT S) (hk : zK S a = 2) (hp : zP S 7 a = some b) : 1 ≤ rc b := by
  have h8 := h.2.2.2.2.2.2.2.1 a 7 (by rw [hk]; decide) b hp
  rw [hk] at h8
  exact h8.1
theorem M_8_1 {S : ZS} {a b : Nat} (h : ZT S) (hk : zK S a = 8) (hp : zP S 1 a = some b) : 1 ≤ rc b := by
  have h8 := h.2.2.2.2.2.2.2.1 a 1 (by rw [hk]; decide) b hp
  rw [hk] at h8
  exact h8.1
theorem J_0_1 {S : ZS} {a : Nat} (h : ZT S) (hk : zK S a = 0) : (0 : Int) ≤ (zI S 1 a).toInt ∧ (zI S 1 a).toInt ≤ (63 : Int) := by
  have h1 := h.2.2.1 a 1 (by rw [hk]; decide)
  rw [hk] at h1
  exact h1
theorem J_0_2 {S : ZS} {a : Nat} (h : ZT S) (hk : zK S a = 0) : (0 : Int) ≤ (zI S 2 a).toInt ∧ (zI S 2 a).toInt ≤ (63 : Int) := by
  have h1 := h.2.2.1 a 2 (by rw [hk]; decide)
  rw [hk] at h1
  exact h1
theorem J_0_3 {S : ZS} {a : Nat} (h : ZT S) (hk : zK S a = 0) : (0 : Int) ≤ (zI S 3 a).toInt ∧ (zI S 3 a).toInt ≤ (1 : Int) := by
  have h1 := h.2.2.1 a 3 (by rw [hk]; decide)
  rw [hk] at h1
  exact h1
theorem J_0_5 {S : ZS} {a : Nat} (h : ZT S) (hk : zK S a = 0) : (-1 : Int) ≤ (zI S 5 a).toInt ∧ (zI S 5 a).toInt ≤ (63 : Int) := by
  have h1 := h.2.2.1 a 5 (by rw [hk]; decide)
  rw [hk] at h1
  exact h1
theorem J_4_4 {S : ZS} {a : Nat} (h : ZT S) (hk : zK S a = 4) : (0 : Int) ≤ (zI S 4 a).toInt ∧ (zI S 4 a).toInt ≤ (4 : Int) := by
  have h1 := h.2.2.1 a 4 (by rw [hk]; decide)
  rw [hk] at h1
  exact h1
theorem J_1_3 {S : ZS} {a : Nat} (h : ZT S) (hk : zK S a = 1) : (0 : Int) ≤ (zI S 3 a).toInt ∧ (zI S 3 a).toInt ≤ (300 : Int) := by
  have h1 := h.2.2.1 a 3 (by rw [hk]; decide)
  rw [hk] at h1
  exact h1
theorem J_1_5 {S : ZS} {a : Nat} (h : ZT S) (hk : zK S a = 1) : (0 : Int) ≤ (zI S 5 a).toInt ∧ (zI S 5 a).toInt ≤ (8 : Int) := by
  have h1 := h.2.2.1 a 5 (by rw [hk]; decide)
  rw [hk] at h1
  exact h1
theorem J_2_4 {S : ZS} {a : Nat} (h : ZT S) (hk : zK S a = 2) : (0 : Int) ≤ (zI S 4 a).toInt ∧ (zI S 4 a).toInt ≤ (90100 : Int) := by
  have h1 := h.2.2.1 a 4 (by rw [hk]; decide)
  rw [hk] at h1
  exact h1
theorem J_5_1 {S : ZS} {a : Nat} (h : ZT S) (hk : zK S a = 5) : (0 : Int) ≤ (zI S 1 a).toInt ∧ (zI S 1 a).toInt ≤ (90100 : Int) := by
  have h1 := h.2.2.1 a 1 (by rw [hk]; decide)
  rw [hk] at h1
  exact h1
theorem J_8_11 {S : ZS} {a : Nat} (h : ZT S) (hk : zK S a = 8) : (0 : Int) ≤ (zI S 11 a).toInt ∧ (zI S 11 a).toInt ≤ (64 : Int) := by
  have h1 := h.2.2.1 a 11 (by rw [hk]; decide)
  rw [hk] at h1
  exact h1
theorem J_8_6 {S : ZS} {a : Nat} (h : ZT S) (hk : zK S a = 8) : (-1 : Int) ≤ (zI S 6 a).toInt ∧ (zI S 6 a).toInt ≤ (63 : Int) := by
  have h1 := h.2.2.1 a 6 (by rw [hk]; decide)
  rw [hk] at h1
  exact h1
theorem J_8_2 {S : ZS} {a : Nat} (h : ZT S) (hk : zK S a = 8) : (-2 : Int) ≤ (zI S 2 a).toInt ∧ (zI S 2 a).toInt ≤ (2 : Int) := by
  have h1 := h.2.2.1 a 2 (by rw [hk]; decide)
  rw [hk] at h1
  exact h1
theorem J_8_7 {S : ZS} {a : Nat} (h : ZT S) (hk : zK S a = 8) : (0 : Int) ≤ (zI S 7 a).toInt ∧ (zI S 7 a).toInt ≤ (30 : Int) := by
  have h1 := h.2.2.1 a 7 (by rw [hk]; decide)
  rw [hk] at h1
  exact h1
theorem J_8_8 {S : ZS} {a : Nat} (h : ZT S) (hk : zK S a = 8) : (-1 : Int) ≤ (zI S 8 a).toInt ∧ (zI S 8 a).toInt ≤ (1 : Int) := by
  have h1 := h.2.2.1 a 8 (by rw [hk]; decide)
  rw [hk] at h1
  exact h1
theorem J_8_9 {S : ZS} {a : Nat} (h : ZT S) (hk : zK S a = 8) : (0 : Int) ≤ (zI S 9 a).toInt ∧ (zI S 9 a).toInt ≤ (65535 : Int) := by
  have h1 := h.2.2.1 a 9 (by rw [hk]; decide)
  rw [hk] at h1
  exact h1
theorem J_11_8 {S : ZS} {a : Nat} (h : ZT S) (hk : zK S a = 11) : (0 : Int) ≤ (zI S 8 a).toInt ∧ (zI S 8 a).toInt ≤ (300 : Int) := by
  have h1 := h.2.2.1 a 8 (by rw [hk]; decide)
  rw [hk] at h1
  exact h1
theorem J_6_1 {S : ZS} {a : Nat} (h : ZT S) (hk : zK S a = 6) : (0 : Int) ≤ (zI S 1 a).toInt ∧ (zI S 1 a).toInt ≤ (90000 : Int) := by
  obtain ⟨b, -, -, c1, -, c2, -⟩ := h.2.1 a hk
  refine ⟨c1, ?_⟩
  unfold rL at c2
  split at c2
  · omega
  · split at c2 <;> omega
theorem J_6_1c {S : ZS} {a : Nat} (h : ZT S) (hk : zK S a = 6) : (0 : Int) ≤ (zI S 1 a).toInt ∧ (zI S 1 a).toInt ≤ (rL a : Int) := by
  obtain ⟨b, -, -, c1, -, c2, -⟩ := h.2.1 a hk
  exact ⟨c1, c2⟩
theorem rL_1 {a : Nat} (h : rc a ≤ 2) : rL a ≤ 2000 := by
  unfold rL
  rw [if_neg (by omega)]
  split <;> omega
theorem rL_0 {a : Nat} (h : rc a ≤ 0) : rL a = 200 := by
  unfold rL
  rw [if_neg (by omega), if_neg (by omega)]
theorem rL_ge (a : Nat) : 200 ≤ rL a := by
  unfold rL
  split
  · omega
  · split <;> omega
theorem J61_2 {S : ZS} {a : Nat} (h : ZT S) (hk : zK S a = 6) (hc : rc a ≤ 2) : (0 : Int) ≤ (zI S 1 a).toInt ∧ (zI S 1 a).toInt ≤ (2000 : Int) := by
  have h1 := J_6_1c h hk
  have h2 := rL_1 hc
  omega
theorem J61_1 {S : ZS} {a : Nat} (h : ZT S) (hk : zK S a = 6) (hc : rc a ≤ 1) : (0 : Int) ≤ (zI S 1 a).toInt ∧ (zI S 1 a).toInt ≤ (2000 : Int) := J61_2 h hk (by omega)
theorem J61_0 {S : ZS} {a : Nat} (h : ZT S) (hk : zK S a = 6) (hc : rc a ≤ 0) : (0 : Int) ≤ (zI S 1 a).toInt ∧ (zI S 1 a).toInt ≤ (200 : Int) := by
  have h1 := J_6_1c h hk
  have h2 := rL_0 hc
  omega
/-- the reader's small arrays stay as they were -/
def A6 (S S' : ZS) : Prop := ∀ a, zK S a = 14 → zN S a = 7 → zK S' a = 14 ∧ zN S' a = 7 ∧ zA S' a = zA S a
/-- and so do the rows that are read: their lengths and their characters -/
def XR (S S' : ZS) : Prop := ∀ r, zK S r = 6 → rc r = 2 → zK S' r = 6 ∧ zI S' 1 r = zI S 1 r ∧ zP S' 0 r = zP S 0 r ∧ ∀ b, zP S 0 r = some b → zN S' b = zN S b ∧ zA S' b = zA S b
def A7 (S S' : ZS) : Prop := A6 S S' ∧ XR S S'
theorem a6_0 (S : ZS) : A6 S S := fun _ h1 h2 => ⟨h1, h2, rfl⟩
theorem a6_t {S S1 S2 : ZS} (h : A6 S S1) (h2 : A6 S1 S2) : A6 S S2 := fun a h3 h4 => by
  obtain ⟨c1, c2, c3⟩ := h a h3 h4
  obtain ⟨d1, d2, d3⟩ := h2 a c1 c2
  exact ⟨d1, d2, d3.trans c3⟩
theorem xr_0 (S : ZS) : XR S S := fun _ h1 _ => ⟨h1, rfl, rfl, fun _ _ => ⟨rfl, rfl⟩⟩
theorem xr_t {S S1 S2 : ZS} (h : XR S S1) (h2 : XR S1 S2) : XR S S2 := fun r h3 h4 => by
  obtain ⟨c1, c2, c3, c4⟩ := h r h3 h4
  obtain ⟨d1, d2, d3, d4⟩ := h2 r c1 h4
  refine ⟨d1, d2.trans c2, d3.trans c3, fun b hb => ?_⟩
  have e1 := c4 b hb
  have e2 := d4 b (c3.trans hb)
  exact ⟨e2.1.trans e1.1, e2.2.trans e1.2⟩
theorem xr_I {S : ZS} {j a k : Nat} {v : Int32} (hk : zK S a = k) (hd : (k, j) ≠ (6, 1)) : XR S (zsI S j a v) := fun r h1 _ => by
  refine ⟨h1, ?_, rfl, fun _ _ => ⟨rfl, rfl⟩⟩
  show va_up (zI S) j (va_up (zI S j) a v) 1 r = _
  by_cases e1 : 1 = j
  · subst e1
    rw [va_up_self, va_up_ne _ _ (fun e => hd (by rw [e, hk] at h1; rw [h1]))]
  · rw [va_up_ne _ _ e1]
theorem xr_I6 {S : ZS} {j a : Nat} {v : Int32} (hc : rc a ≠ 2) : XR S (zsI S j a v) := fun r h1 h2 => by
  refine ⟨h1, ?_, rfl, fun _ _ => ⟨rfl, rfl⟩⟩
  show va_up (zI S) j (va_up (zI S j) a v) 1 r = _
  by_cases e1 : 1 = j
  · subst e1
    rw [va_up_self, va_up_ne _ _ (fun e => hc (by rw [← e]; exact h2))]
  · rw [va_up_ne _ _ e1]
theorem xr_P {S : ZS} {j a k : Nat} {v : Option Nat} (hk : zK S a = k) (hd : (k, j) ≠ (6, 0)) : XR S (zsP S j a v) := fun r h1 _ => by
  refine ⟨h1, rfl, ?_, fun _ _ => ⟨rfl, rfl⟩⟩
  show va_up (zP S) j (va_up (zP S j) a v) 0 r = _
  by_cases e1 : 0 = j
  · subst e1
    rw [va_up_self, va_up_ne _ _ (fun e => hd (by rw [e, hk] at h1; rw [h1]))]
  · rw [va_up_ne _ _ e1]
theorem xr_A {S : ZS} {a i : Nat} {v : Int32} (hT : ZT S) (hk : zK S a = 14) : XR S (zsA S a i v) := fun r h1 _ => by
  refine ⟨h1, rfl, rfl, fun b hb => ⟨rfl, va_up_ne _ _ (fun e => ?_)⟩⟩
  obtain ⟨c, c1, c2, -⟩ := hT.2.1 r h1
  rw [hb] at c1
  cases c1
  rw [e] at c2
  rcases c2 with c2 | c2
  · have := hT.2.2.2.2.2.1
    rw [← c2, hk] at this
    exact absurd this (by decide)
  · rw [hk] at c2
    exact absurd c2 (by decide)
theorem xr_C {S : ZS} {b a sp dp n : Nat} (hT : ZT S) (hk : zK S a = 14) : XR S (zsC S b a sp dp n) := fun r h1 _ => by
  refine ⟨h1, rfl, rfl, fun b hb => ⟨rfl, va_up_ne _ _ (fun e => ?_)⟩⟩
  obtain ⟨c, c1, c2, -⟩ := hT.2.1 r h1
  rw [hb] at c1
  cases c1
  rw [e] at c2
  rcases c2 with c2 | c2
  · have := hT.2.2.2.2.2.1
    rw [← c2, hk] at this
    exact absurd this (by decide)
  · rw [hk] at c2
    exact absurd c2 (by decide)
/-- a row's own characters -/
theorem xr_A13 {S : ZS} {x a i : Nat} {v : Int32} (hT : ZT S) (hk : zK S x = 6) (hp : zP S 0 x = some a) (h0 : a ≠ 0) (hc : rc x ≠ 2) : XR S (zsA S a i v) := fun r h1 h2 => by
  refine ⟨h1, rfl, rfl, fun b hb => ⟨rfl, va_up_ne _ _ (fun e => ?_)⟩⟩
  rw [e] at hb
  rcases hT.2.2.2.2.2.2.2.2.2.2.2 x r a hk h1 hp hb with h | h
  · exact h0 h
  · exact hc (by rw [h]; exact h2)
theorem a7_0 (S : ZS) : A7 S S := ⟨a6_0 S, xr_0 S⟩
theorem a7_t {S S1 S2 : ZS} (h : A7 S S1) (h2 : A7 S1 S2) : A7 S S2 := ⟨a6_t h.1 h2.1, xr_t h.2 h2.2⟩
theorem a7_I {SZ S S' : ZS} {j a k : Nat} {v : Int32} (h : A7 SZ S) (e : S' = zsI S j a v) (hk : zK S a = k) (hd : (k, j) ≠ (6, 1)) : A7 SZ S' := by
  subst e; exact ⟨h.1, xr_t h.2 (xr_I hk hd)⟩
theorem a7_I6 {SZ S S' : ZS} {j a : Nat} {v : Int32} (h : A7 SZ S) (e : S' = zsI S j a v) (hc : rc a ≠ 2) : A7 SZ S' := by
  subst e; exact ⟨h.1, xr_t h.2 (xr_I6 hc)⟩
theorem a7_P {SZ S S' : ZS} {j a k : Nat} {v : Option Nat} (h : A7 SZ S) (e : S' = zsP S j a v) (hk : zK S a = k) (hd : (k, j) ≠ (6, 0)) : A7 SZ S' := by
  subst e; exact ⟨h.1, xr_t h.2 (xr_P hk hd)⟩
theorem a7_A {SZ S S' : ZS} {a i n : Nat} {v : Int32} (h : A7 SZ S) (e : S' = zsA S a i v) (hT : ZT S) (hk : zK S a = 14) (hn : zN S a = n) (h7 : n ≠ 7) : A7 SZ S' := by
  refine a7_t h ⟨fun b h1 h2 => ⟨by rw [e]; exact h1, by rw [e]; exact h2, ?_⟩, by rw [e]; exact xr_A hT hk⟩
  rw [e]
  exact va_up_ne _ _ (fun e2 => h7 (by rw [← hn, ← e2]; exact h2))
theorem a7_C {SZ S S' : ZS} {b a sp dp k n : Nat} (h : A7 SZ S) (e : S' = zsC S b a sp dp k) (hT : ZT S) (hk : zK S a = 14) (hn : zN S a = n) (h7 : n ≠ 7) : A7 SZ S' := by
  refine a7_t h ⟨fun b h1 h2 => ⟨by rw [e]; exact h1, by rw [e]; exact h2, ?_⟩, by rw [e]; exact xr_C hT hk⟩
  rw [e]
  exact va_up_ne _ _ (fun e2 => h7 (by rw [← hn, ← e2]; exact h2))
