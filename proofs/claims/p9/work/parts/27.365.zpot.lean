/-- how many of the first entries are null -/
def nulls (f : Nat → Option Nat) : Nat → Nat
  | 0 => 0
  | n + 1 => nulls f n + (if f n = none then 1 else 0)
/-- what a cell may still grow by -/
def pot (S : ZS) (a : Nat) : Nat := if zK S a = 6 then rK a - zcap S ((zP S 0 a).getD 0) else if zK S a = 16 then 430 * nulls (zB S a) 301 else if zK S a = 17 then 850 * nulls (zB S a) 8 else 0
def sumN (f : Nat → Nat) : Nat → Nat
  | 0 => 0
  | n + 1 => sumN f n + f n
def PS (S : ZS) : Nat := sumN (pot S) (zt S)
theorem sumN_congr {f g : Nat → Nat} : ∀ n, (∀ a, a < n → f a = g a) → sumN f n = sumN g n
  | 0, _ => rfl
  | n + 1, h => by
    show sumN f n + f n = sumN g n + g n
    rw [sumN_congr n (fun a ha => h a (by omega)), h n (by omega)]
theorem sumN_up {f g : Nat → Nat} {x : Nat} : ∀ n, x < n → (∀ a, a < n → a ≠ x → f a = g a) → sumN f n + g x = sumN g n + f x
  | 0, h, _ => by omega
  | n + 1, h, h2 => by
    show sumN f n + f n + g x = sumN g n + g n + f x
    by_cases e : n = x
    · rw [sumN_congr (f := f) (g := g) n (fun a ha => h2 a (by omega) (by omega)), e]
      omega
    · have := sumN_up (f := f) (g := g) (x := x) n (by omega) (fun a ha hx => h2 a (by omega) hx)
      rw [h2 n (by omega) e]
      omega
theorem nulls_up {f g : Nat → Option Nat} {x c : Nat} (hx : g x = none) (hf : f x = some c) (h : ∀ a, a ≠ x → f a = g a) : ∀ n, (x < n → nulls f n + 1 = nulls g n) ∧ (n ≤ x → nulls f n = nulls g n)
  | 0 => ⟨fun h => by omega, fun _ => rfl⟩
  | n + 1 => by
    have ih := nulls_up hx hf h n
    have e : nulls f (n + 1) = nulls f n + (if f n = none then 1 else 0) := rfl
    have e2 : nulls g (n + 1) = nulls g n + (if g n = none then 1 else 0) := rfl
    by_cases hn : n = x
    · rw [e, e2, hn, hf, hx]
      have h3 := ih.2 (by omega)
      rw [hn] at h3
      refine ⟨fun _ => ?_, fun h4 => by omega⟩
      rw [h3]; simp
    · rw [e, e2, h n hn]
      refine ⟨fun h4 => ?_, fun h4 => ?_⟩
      · have := ih.1 (by omega); omega
      · have := ih.2 (by omega); omega
def nk (S : ZS) (r b k : Nat) : Nat := if k = 0 then r else (zB S b k).getD r
def cn (S : ZS) (g : Nat) : Nat := (zI S 3 g).toInt.toNat
def nF (S : ZS) (j r b k : Nat) : Int := (zI S j (nk S r b k)).toInt
def TY (S : ZS) (g r b : Nat) : Prop := (∀ k, 1 ≤ k → k ≤ cn S g → zB S b k ≠ none) ∧ TTb (cn S g) (nF S 0 r b) (fun _ => 0) ∧ ∃ L, TTl (cn S g) (nF S 0 r b) (nF S 2 r b) (nF S 3 r b) L
def TX (S : ZS) : Prop := (zK S 35 = 1 ∧ zK S 99 = 1) ∧ (zP S 1 35 = some 38 ∧ zP S 1 99 = some 102) ∧ (zP S 2 35 = some 40 ∧ zP S 2 99 = some 104) ∧ (zK S 38 = 4 ∧ zK S 102 = 4) ∧ (zK S 40 = 16 ∧ zK S 104 = 16) ∧ (∀ i c, zB S 40 i = some c → c ≠ 38 ∧ c ≠ 102 ∧ (∀ j, zB S 104 j ≠ some c) ∧ ∀ j, zB S 40 j = some c → j = i) ∧ (∀ i c, zB S 104 i = some c → c ≠ 38 ∧ c ≠ 102 ∧ (∀ j, zB S 40 j ≠ some c) ∧ ∀ j, zB S 104 j = some c → j = i)
def TZ (S : ZS) : Prop := TX S ∧ TY S 35 38 40 ∧ TY S 99 102 104
/-- the room and what may still grow do not rise together -/
def RM (S S' : ZS) : Prop := zu S' + 2 * PS S' ≤ zu S + 2 * PS S ∧ 8 * zt S' + PS S' ≤ 8 * zt S + PS S ∧ zu S ≤ zu S' ∧ zt S ≤ zt S'
def RP (S S' : ZS) : Prop := RM S S' ∧ (TZ S → TZ S') ∧ A7 S S'
theorem rm_0 (S : ZS) : RM S S := ⟨Nat.le_refl _, Nat.le_refl _, Nat.le_refl _, Nat.le_refl _⟩
theorem rm_t {S S1 S2 : ZS} (h : RM S S1) (h2 : RM S1 S2) : RM S S2 := ⟨Nat.le_trans h2.1 h.1, Nat.le_trans h2.2.1 h.2.1, Nat.le_trans h.2.2.1 h2.2.2.1, Nat.le_trans h.2.2.2 h2.2.2.2⟩
theorem rp_0 (S : ZS) : RP S S := ⟨rm_0 S, fun h => h, a7_0 S⟩
theorem rp_t {S S1 S2 : ZS} (h : RP S S1) (h2 : RP S1 S2) : RP S S2 := ⟨rm_t h.1 h2.1, fun t => h2.2.1 (h.2.1 t), a7_t h.2.2 h2.2.2⟩
theorem nk_kind {S : ZS} {r b k : Nat} (hT : ZT S) (hr : zK S r = 4) (hb : zK S b = 16) : zK S (nk S r b k) = 4 := by
  unfold nk
  split
  · exact hr
  · cases h : zB S b k with
    | none => exact hr
    | some c => exact (hT.2.2.2.1 b).2.1 hb k c h
theorem ty_x {S S' : ZS} {g r b : Nat} (h : TY S g r b) (e1 : zB S' b = zB S b) (e2 : zI S' 3 g = zI S 3 g) (e3 : ∀ k, zI S' 0 (nk S r b k) = zI S 0 (nk S r b k) ∧ zI S' 2 (nk S r b k) = zI S 2 (nk S r b k) ∧ zI S' 3 (nk S r b k) = zI S 3 (nk S r b k)) : TY S' g r b := by
  have en : ∀ k, nk S' r b k = nk S r b k := fun k => by unfold nk; rw [e1]
  have ec : cn S' g = cn S g := by unfold cn; rw [e2]
  have f0 : nF S' 0 r b = nF S 0 r b := funext (fun k => by unfold nF; rw [en, (e3 k).1])
  have f2 : nF S' 2 r b = nF S 2 r b := funext (fun k => by unfold nF; rw [en, (e3 k).2.1])
  have f3 : nF S' 3 r b = nF S 3 r b := funext (fun k => by unfold nF; rw [en, (e3 k).2.2])
  unfold TY
  rw [ec, f0, f2, f3, e1]
  exact h
theorem tx_x {S S' : ZS} (h : TX S) (hK : ∀ a, zK S a < 18 → zK S' a = zK S a) (hP : ∀ a j, zK S a = 1 → j = 1 ∨ j = 2 → zP S' j a = zP S j a) (hB : ∀ a, zK S a = 16 → zB S' a = zB S a) : TX S' := by
  obtain ⟨⟨a1, a2⟩, ⟨b1, b2⟩, ⟨c1, c2⟩, ⟨d1, d2⟩, ⟨e1, e2⟩, f, g⟩ := h
  refine ⟨⟨(hK 35 (by omega)).trans a1, (hK 99 (by omega)).trans a2⟩, ⟨(hP 35 1 a1 (Or.inl rfl)).trans b1, (hP 99 1 a2 (Or.inl rfl)).trans b2⟩, ⟨(hP 35 2 a1 (Or.inr rfl)).trans c1, (hP 99 2 a2 (Or.inr rfl)).trans c2⟩, ⟨(hK 38 (by omega)).trans d1, (hK 102 (by omega)).trans d2⟩, ⟨(hK 40 (by omega)).trans e1, (hK 104 (by omega)).trans e2⟩, ?_, ?_⟩
  · rw [hB 40 e1, hB 104 e2]; exact f
  · rw [hB 40 e1, hB 104 e2]; exact g
theorem tz_x {S S' : ZS} (hT : ZT S) (h : TZ S) (hK : ∀ a, zK S a < 18 → zK S' a = zK S a) (hP : ∀ a j, zK S a = 1 → j = 1 ∨ j = 2 → zP S' j a = zP S j a) (hB : ∀ a, zK S a = 16 → zB S' a = zB S a) (hI : ∀ a, zK S a = 4 → zI S' 0 a = zI S 0 a ∧ zI S' 2 a = zI S 2 a ∧ zI S' 3 a = zI S 3 a) (hG : ∀ a, zK S a = 1 → zI S' 3 a = zI S 3 a) : TZ S' := by
  obtain ⟨hx, h1, h2⟩ := h
  have hx' := hx
  obtain ⟨⟨a1, a2⟩, ⟨b1, b2⟩, ⟨c1, c2⟩, ⟨d1, d2⟩, ⟨e1, e2⟩, f, g⟩ := hx'
  exact ⟨tx_x hx hK hP hB, ty_x h1 (hB 40 e1) (hG 35 a1) (fun k => hI _ (nk_kind hT d1 e1)), ty_x h2 (hB 104 e2) (hG 99 a2) (fun k => hI _ (nk_kind hT d2 e2))⟩
abbrev tdis (W V : List (Nat × Nat)) (B : List Nat) : Prop := (4, 0) ∉ W ∧ (4, 2) ∉ W ∧ (4, 3) ∉ W ∧ (1, 3) ∉ W ∧ (1, 1) ∉ V ∧ (1, 2) ∉ V ∧ 16 ∉ B
theorem tz_fr {W V : List (Nat × Nat)} {B : List Nat} {S S' : ZS} (hT : ZT S) (f : FrZ W V B S S') (hd : tdis W V B) (h : TZ S) : TZ S' := by
  obtain ⟨-, -, ff⟩ := f hT.2.2.2.2.1
  obtain ⟨w0, w2, w3, w4, v1, v2, b6⟩ := hd
  refine tz_x hT h (fun a ha => (ff a ha).1) (fun a j ha hj => ?_) (fun a ha => ?_) (fun a ha => ?_) (fun a ha => ?_)
  · refine (ff a (by omega)).2.2.2.1 j ?_
    rw [ha]
    rcases hj with e | e <;> rw [e] <;> assumption
  · exact (ff a (by omega)).2.2.2.2 (by rw [ha]; exact b6)
  · have := (ff a (by omega)).2.2.1
    rw [ha] at this
    exact ⟨this 0 w0, this 2 w2, this 3 w3⟩
  · have := (ff a (by omega)).2.2.1
    rw [ha] at this
    exact this 3 w4
theorem ps_f {W V : List (Nat × Nat)} {B : List Nat} {S S' : ZS} (hT : ZT S) (q : EqT S S') (f : FrZ W V B S S') (hv : (6, 0) ∉ V) : PS S' = PS S := by
  obtain ⟨-, -, ff⟩ := f hT.2.2.2.2.1
  obtain ⟨q1, q2, q3, q4, q5⟩ := q
  unfold PS
  rw [q1]
  refine sumN_congr _ (fun a _ => ?_)
  unfold pot
  rw [q3, q5]
  by_cases e : zK S a = 6
  · rw [if_pos e, if_pos e, (ff a (by omega)).2.2.2.1 0 (by rw [e]; exact hv)]
    unfold zcap
    rw [q4]
  · rw [if_neg e, if_neg e]
theorem rm_f {W V : List (Nat × Nat)} {B : List Nat} {SZ S S' : ZS} (hR : RM SZ S) (hT : ZT S) (q : EqT S S') (f : FrZ W V B S S') (hv : (6, 0) ∉ V) : RM SZ S' := by
  have e := ps_f hT q f hv
  unfold RM
  rw [e, q.1, q.2.1]
  exact hR
theorem rp_f {W V : List (Nat × Nat)} {B : List Nat} {SZ S S' : ZS} (hR : RP SZ S) (hT : ZT S) (q : EqT S S') (f : FrZ W V B S S') (hv : (6, 0) ∉ V ∧ tdis W V B) (ha : A7 S S') : RP SZ S' := ⟨rm_f hR.1 hT q f hv.1, fun t => tz_fr hT f hv.2 (hR.2.1 t), a7_t hR.2.2 ha⟩
theorem rm_I {j a : Nat} {v : Int32} {SZ S S' : ZS} (hR : RM SZ S) (e : S' = zsI S j a v) : RM SZ S' := by
  subst e; exact hR
theorem rm_A {a i : Nat} {v : Int32} {SZ S S' : ZS} (hR : RM SZ S) (e : S' = zsA S a i v) : RM SZ S' := by
  subst e; exact hR
theorem rm_P {j a k b : Nat} {SZ S S' : ZS} (hR : RM SZ S) (hT : ZT S) (hk : zK S a = k) (e : S' = zsP S j a (some b)) (hv : (k, j) ≠ (6, 0)) : RM SZ S' := by
  have f : FrZ [] [(k, j)] [] S S' := frz_P frz_0 hk e (List.mem_singleton.2 rfl)
  refine rm_f hR hT (by subst e; exact eqt_0) f ?_
  intro h
  exact hv (List.mem_singleton.1 h).symm
theorem rp_I {j a k : Nat} {v : Int32} {SZ S S' : ZS} (hR : RP SZ S) (hT : ZT S) (hk : zK S a = k) (e : S' = zsI S j a v) (hd : tdis [(k, j)] [] [] ∧ (k, j) ≠ (6, 1)) : RP SZ S' := ⟨rm_I hR.1 e, fun t => tz_fr hT (frz_I frz_0 hk e (List.mem_singleton.2 rfl)) hd.1 (hR.2.1 t), a7_I hR.2.2 e hk hd.2⟩
theorem rp_I6 {a : Nat} {v : Int32} {SZ S S' : ZS} (hR : RP SZ S) (hT : ZT S) (hk : zK S a = 6) (e : S' = zsI S 1 a v) (hc : rc a ≠ 2) : RP SZ S' := ⟨rm_I hR.1 e, fun t => tz_fr (W := [(6, 1)]) (V := []) (B := []) hT (frz_I frz_0 hk e (List.mem_singleton.2 rfl)) (by decide) (hR.2.1 t), a7_I6 hR.2.2 e hc⟩
theorem rp_A {a i : Nat} {v : Int32} {SZ S S' : ZS} (hR : RP SZ S) (hT : ZT S) (e : S' = zsA S a i v) (hk : zK S a = 14) (hn : zN S a ≠ 7) : RP SZ S' := ⟨rm_A hR.1 e, fun t => tz_fr (W := []) (V := []) (B := []) hT (frz_A frz_0 e) (by decide) (hR.2.1 t), a7_A hR.2.2 e hT hk rfl hn⟩
/-- as RP, but the row x itself may change -/
def RPc (x : Nat) (S S' : ZS) : Prop := RM S S' ∧ (TZ S → TZ S') ∧ A6 S S' ∧ (rc x ≠ 2 → XR S S')
theorem rpc_of {x : Nat} {S S' : ZS} (h : RP S S') : RPc x S S' := ⟨h.1, h.2.1, h.2.2.1, fun _ => h.2.2.2⟩
theorem rpc_to {x : Nat} {S S' : ZS} (h : RPc x S S') (hc : rc x ≠ 2) : RP S S' := ⟨h.1, h.2.1, h.2.2.1, h.2.2.2 hc⟩
theorem rpc_t {x : Nat} {S S1 S2 : ZS} (h : RPc x S S1) (h2 : RPc x S1 S2) : RPc x S S2 := ⟨rm_t h.1 h2.1, fun t => h2.2.1 (h.2.1 t), a6_t h.2.2.1 h2.2.2.1, fun c => xr_t (h.2.2.2 c) (h2.2.2.2 c)⟩
theorem rpc_I {x : Nat} {v : Int32} {SZ S S' : ZS} (hR : RPc x SZ S) (hT : ZT S) (hk : zK S x = 6) (e : S' = zsI S 1 x v) : RPc x SZ S' := ⟨rm_I hR.1 e, fun t => tz_fr (W := [(6, 1)]) (V := []) (B := []) hT (frz_I frz_0 hk e (List.mem_singleton.2 rfl)) (by decide) (hR.2.1 t), by subst e; exact hR.2.2.1, fun c => by subst e; exact xr_t (hR.2.2.2 c) (xr_I6 c)⟩
theorem rpc_A {x a i : Nat} {v : Int32} {SZ S S' : ZS} (hR : RPc x SZ S) (hT : ZT S) (hx : zK S x = 6) (hp : zP S 0 x = some a) (hk : zK S a = 13) (e : S' = zsA S a i v) : RPc x SZ S' := ⟨rm_A hR.1 e, fun t => tz_fr (W := []) (V := []) (B := []) hT (frz_A frz_0 e) (by decide) (hR.2.1 t), a6_t hR.2.2.1 (fun b h1 h2 => ⟨by rw [e]; exact h1, by rw [e]; exact h2, by
  rw [e]
  exact va_up_ne _ _ (fun e2 => by rw [e2, hk] at h1; exact absurd h1 (by decide))⟩), fun c => xr_t (hR.2.2.2 c) (by rw [e]; exact xr_A13 hT hx hp (fun h0 => by have := hT.2.2.2.2.2.1; rw [← h0, hk] at this; exact absurd this (by decide)) c)⟩
theorem rp_P {j a k b : Nat} {SZ S S' : ZS} (hR : RP SZ S) (hT : ZT S) (hk : zK S a = k) (e : S' = zsP S j a (some b)) (hv : (k, j) ≠ (6, 0) ∧ tdis [] [(k, j)] []) : RP SZ S' := ⟨rm_P hR.1 hT hk e hv.1, fun t => tz_fr hT (frz_P frz_0 hk e (List.mem_singleton.2 rfl)) hv.2 (hR.2.1 t), a7_P hR.2.2 e hk hv.1⟩
theorem pT13 (j : Nat) : (pT 13 j).1 = 99 := by unfold pT; simp
theorem bT13 (j : Nat) : bT 13 j = tF := by unfold bT; simp
theorem cM13 (j : Nat) : cM 13 j = 0 := by unfold cM; simp
theorem cT13 (j : Nat) : cT 13 j = 4 := by unfold cT; simp
theorem cM6 (j : Nat) : cM 6 j = 0 := by unfold cM; simp
theorem cT6 (j : Nat) : cT 6 j = 4 := by unfold cT; simp
theorem itp {c : Prop} [Decidable c] {x y : Nat × Nat} (hx : x.1 < 18 ∨ x.1 = 99) (hy : y.1 < 18 ∨ y.1 = 99) : (if c then x else y).1 < 18 ∨ (if c then x else y).1 = 99 := by
  split
  · exact hx
  · exact hy
theorem pT_lt (k j : Nat) (h : (pT k j).1 ≠ 99) : (pT k j).1 < 18 := by
  have : (pT k j).1 < 18 ∨ (pT k j).1 = 99 := by
    unfold pT
    repeat (refine itp (by decide) ?_)
    decide
  exact this.resolve_right h
theorem zt_A13 {S : ZS} {a i : Nat} {v : Int32} (h : ZT S) (hv : (0 : Int) ≤ v.toInt ∧ v.toInt ≤ (65535 : Int)) : ZT (zsA S a i v) := by
  obtain ⟨h1, h2, h3, h4, h5, h6, h7, h8, h9, h10, h11⟩ := h
  refine ⟨h1, h2, h3, h4, h5, h6, ?_, h8, h9, h10, h11⟩
  intro b hb k
  show (0 : Int) ≤ (va_up (zA S) a (upd (zA S a) i v) b k).toInt ∧ (va_up (zA S) a (upd (zA S a) i v) b k).toInt ≤ (65535 : Int)
  have hb' : zK S b = 13 := hb
  by_cases e : b = a
  · rw [e, va_up_self]
    by_cases e2 : k = i
    · rw [e2, upd_self]; exact hv
    · rw [upd_ne e2]; exact h7 a (by rw [← e]; exact hb') k
  · rw [va_up_ne _ _ e]; exact h7 b hb' k
