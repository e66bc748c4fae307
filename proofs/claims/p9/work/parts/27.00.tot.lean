def Ok {α : Type} (x : Option α) (Q : α → Prop) : Prop := ∃ r, x = some r ∧ Q r
theorem ok_ret {α : Type} {r : α} {Q : α → Prop} (h : Q r) : Ok (some r) Q := ⟨r, rfl, h⟩
theorem ok_bnd {α β : Type} {x : α} {k : α → Option β} {Q : β → Prop} (h : ∀ v, v = x → Ok (k v) Q) : Ok (m_bnd x k) Q := h x rfl
theorem ok_chk {β : Type} {c : Prop} [Decidable c] {k : Option β} {Q : β → Prop} (hc : c) (h : Ok k Q) : Ok (m_chk c k) Q := by
  have e : m_chk c k = k := if_pos hc
  rw [e]; exact h
theorem ok_ifT {β : Type} {c : Prop} [Decidable c] {a b : Option β} {Q : β → Prop} (hc : c) (h : Ok a Q) : Ok (m_if c a b) Q := by
  have e : m_if c a b = a := if_pos hc
  rw [e]; exact h
theorem ok_ifF {β : Type} {c : Prop} [Decidable c] {a b : Option β} {Q : β → Prop} (hc : ¬ c) (h : Ok b Q) : Ok (m_if c a b) Q := by
  have e : m_if c a b = b := if_neg hc
  rw [e]; exact h
theorem ok_if {β : Type} {c : Prop} [Decidable c] {a b : Option β} {Q : β → Prop} (h1 : c → Ok a Q) (h2 : ¬ c → Ok b Q) : Ok (m_if c a b) Q := by
  by_cases hc : c
  · exact ok_ifT hc (h1 hc)
  · exact ok_ifF hc (h2 hc)
theorem ok_cl {γ : Type} {e : Option (Int32 × MS)} {k : Int32 → (Nat → Int32) → (Nat → Nat → Int32) → Option γ} {Q : γ → Prop} {o : Int32 × MS} (he : e = some o) (h : Ok (k o.1 o.2.1 o.2.2) Q) : Ok (m_cl e k) Q := by
  rw [he]; exact h
theorem ok_clR {γ : Type} {e : Option (Int32 × MS)} {k : Int32 → (Nat → Int32) → (Nat → Nat → Int32) → Option γ} {Q : γ → Prop} {r : Int32} {I : Nat → Int32} {A : Nat → Nat → Int32} (he : e = some (r, (I, A))) (h : Ok (k r I A) Q) : Ok (m_cl e k) Q := by
  rw [he]; exact h
theorem ro {e : Option (Int32 × MS)} {I : Nat → Int32} {A : Nat → Nat → Int32} {R : Int32 × MS → Prop} (h : Ok e (fun o => o.2 = (I, A) ∧ R o)) : ∃ r, e = some (r, (I, A)) ∧ R (r, (I, A)) := by
  obtain ⟨⟨r, st⟩, h1, h2, h3⟩ := h
  cases h2
  exact ⟨r, h1, h3⟩
theorem ok_mono {α : Type} {x : Option α} {Q Q' : α → Prop} (h : Ok x Q) (hq : ∀ r, Q r → Q' r) : Ok x Q' := by
  obtain ⟨r, h1, h2⟩ := h
  exact ⟨r, h1, hq r h2⟩
theorem ti_bm {z : Int} (h1 : -2147483648 ≤ z) (h2 : z ≤ 2147483647) : z.bmod (2 ^ 32) = z := by
  rw [Int.bmod_def]
  have e : ((2 ^ 32 : Nat) : Int) = 4294967296 := by decide
  rw [e]
  split <;> omega
theorem ti_add {a b c : Int32} {x y : Int} (e : c = a + b) (ha : a.toInt = x) (hb : b.toInt = y) (h1 : -2147483648 ≤ x + y) (h2 : x + y ≤ 2147483647) : c.toInt = x + y := by
  rw [e, Int32.toInt_add, ha, hb]; exact ti_bm h1 h2
theorem ti_sub {a b c : Int32} {x y : Int} (e : c = a - b) (ha : a.toInt = x) (hb : b.toInt = y) (h1 : -2147483648 ≤ x - y) (h2 : x - y ≤ 2147483647) : c.toInt = x - y := by
  rw [e, Int32.toInt_sub, ha, hb]; exact ti_bm h1 h2
theorem ti_mul {a b c : Int32} {x y : Int} (e : c = a * b) (ha : a.toInt = x) (hb : b.toInt = y) (h1 : -2147483648 ≤ x * y) (h2 : x * y ≤ 2147483647) : c.toInt = x * y := by
  rw [e, Int32.toInt_mul, ha, hb]; exact ti_bm h1 h2
theorem ti_neg {a c : Int32} {x : Int} (e : c = -a) (ha : a.toInt = x) (h1 : -2147483648 < x) : c.toInt = -x := by
  have h2 : x ≤ 2147483647 := by rw [← ha]; exact Int32.toInt_le a
  rw [e, Int32.toInt_neg, ha]; exact ti_bm (by omega) (by omega)
theorem ti_div {a b c : Int32} {x y : Int} (e : c = a / b) (ha : a.toInt = x) (hb : b.toInt = y) (h1 : 0 ≤ x) (h2 : 0 < y) : c.toInt = x / y := by
  have h3 : x ≤ 2147483647 := by rw [← ha]; exact Int32.toInt_le a
  rw [e, Int32.toInt_div, ha, hb, Int.tdiv_eq_ediv_of_nonneg h1]
  have h4 : x / y ≤ x := Int.ediv_le_self _ h1
  have h5 : 0 ≤ x / y := Int.ediv_nonneg h1 (Int.le_of_lt h2)
  exact ti_bm (by omega) (by omega)
theorem ti_rem {a b c : Int32} {x y : Int} (e : c = a - a / b * b) (ha : a.toInt = x) (hb : b.toInt = y) (h1 : 0 ≤ x) (h2 : 0 < y) : c.toInt = x % y := by
  have h3 : x ≤ 2147483647 := by rw [← ha]; exact Int32.toInt_le a
  have h4 := ti_div (c := a / b) rfl ha hb h1 h2
  have h5 : x / y * y ≤ x := Int.ediv_mul_le x (Int.ne_of_gt h2)
  have h6 : 0 ≤ x / y * y := Int.mul_nonneg (Int.ediv_nonneg h1 (Int.le_of_lt h2)) (Int.le_of_lt h2)
  have h7 := ti_mul (c := a / b * b) rfl h4 hb (by omega) (by omega)
  rw [ti_sub e ha h7 (by omega) (by omega)]
  rw [Int.emod_def, Int.mul_comm y]
theorem ti_in {v : Int32} {n : Nat} (h1 : 0 ≤ v.toInt) (h2 : v.toInt < n) : ¬ (v < 0 ∨ n ≤ v.toNatClampNeg) := by
  intro h
  cases h with
  | inl h => rw [Int32.lt_iff_toInt_lt] at h; have e : (0 : Int32).toInt = 0 := rfl; omega
  | inr h => have e : v.toNatClampNeg = v.toInt.toNat := rfl; omega
theorem ti_nc {a : Int32} (h : 0 ≤ a.toInt) : (a.toNatClampNeg : Int) = a.toInt := by
  have e : a.toNatClampNeg = a.toInt.toNat := rfl
  omega
theorem ti_leP {a b : Int32} {x y : Int} (h : a ≤ b) (ha : a.toInt = x) (hb : b.toInt = y) : x ≤ y := by
  rw [Int32.le_iff_toInt_le, ha, hb] at h; exact h
theorem ti_leN {a b : Int32} {x y : Int} (h : ¬ a ≤ b) (ha : a.toInt = x) (hb : b.toInt = y) : y < x := by
  rw [Int32.le_iff_toInt_le, ha, hb] at h; omega
theorem ti_ltP {a b : Int32} {x y : Int} (h : a < b) (ha : a.toInt = x) (hb : b.toInt = y) : x < y := by
  rw [Int32.lt_iff_toInt_lt, ha, hb] at h; exact h
theorem ti_ltN {a b : Int32} {x y : Int} (h : ¬ a < b) (ha : a.toInt = x) (hb : b.toInt = y) : y ≤ x := by
  rw [Int32.lt_iff_toInt_lt, ha, hb] at h; omega
theorem ti_eqP {a b : Int32} {x y : Int} (h : a = b) (ha : a.toInt = x) (hb : b.toInt = y) : x = y := by
  rw [← ha, ← hb, h]
theorem ti_eqN {a b : Int32} {x y : Int} (h : ¬ a = b) (ha : a.toInt = x) (hb : b.toInt = y) : x ≠ y := by
  intro e; rw [← ha, ← hb] at e; exact h (Int32.toInt_inj.mp e)
theorem ti_and {a m c : Int32} {n : Nat} (e : c = a &&& m) (hm : m.toBitVec.toNat = n) (hn : n < 2147483648) : 0 ≤ c.toInt ∧ c.toInt ≤ (n : Int) := by
  have h1 : c.toBitVec.toNat ≤ n := by
    rw [e]
    have : (a &&& m).toBitVec = a.toBitVec &&& m.toBitVec := rfl
    rw [this, BitVec.toNat_and, hm]
    exact Nat.and_le_right
  have h2 : c.toInt = c.toBitVec.toInt := rfl
  rw [h2, BitVec.toInt_eq_toNat_of_lt (by omega)]
  omega
theorem ti_sq {a c : Int32} (e : c = a * a) (h1 : -7 ≤ a.toInt) (h2 : a.toInt ≤ 7) : (a.toInt = 0 ∧ c.toInt = 0) ∨ ((a.toInt = 1 ∨ a.toInt = -1) ∧ c.toInt = 1) ∨ ((a.toInt = 2 ∨ a.toInt = -2) ∧ c.toInt = 4) ∨ ((2 < a.toInt ∨ a.toInt < -2) ∧ 9 ≤ c.toInt ∧ c.toInt ≤ 49) := by
  have key : ∀ z : Int, -7 ≤ z → z ≤ 7 → z * z ≤ 49 ∧ 0 ≤ z * z ∧ ((z = 0 ∧ z * z = 0) ∨ ((z = 1 ∨ z = -1) ∧ z * z = 1) ∨ ((z = 2 ∨ z = -2) ∧ z * z = 4) ∨ ((2 < z ∨ z < -2) ∧ 9 ≤ z * z ∧ z * z ≤ 49)) := by
    intro z a b
    have : z = -7 ∨ z = -6 ∨ z = -5 ∨ z = -4 ∨ z = -3 ∨ z = -2 ∨ z = -1 ∨ z = 0 ∨ z = 1 ∨ z = 2 ∨ z = 3 ∨ z = 4 ∨ z = 5 ∨ z = 6 ∨ z = 7 := by omega
    rcases this with h | h | h | h | h | h | h | h | h | h | h | h | h | h | h <;> subst h <;> decide
  obtain ⟨k1, k2, k3⟩ := key a.toInt h1 h2
  rw [ti_mul e rfl rfl (by omega) (by omega)]
  exact k3
theorem nar_b {v : Int32} (h1 : 0 ≤ v.toInt) (h2 : v.toInt ≤ 1) : vp_nar .boolean v = v := by
  have h : v = 0 ∨ v = 1 := by
    by_cases e : v.toInt = 0
    · exact Or.inl (Int32.toInt_inj.mp e)
    · exact Or.inr (Int32.toInt_inj.mp (show v.toInt = 1 by omega))
  rcases h with h | h <;> subst h <;> decide
def tB (k : Nat) : Int × Int := if k = 0 then (0, 2) else if k = 1 then (0, 2000) else if k = 3 then (0, 80000) else if k = 5 then (0, 1) else if k = 6 then (0, 300) else if k = 25 then (0, 1) else if k = 29 then (-1, 2000) else if k = 33 then (0, 2048) else if k = 36 then (0, 16) else if k = 37 then (0, 2100) else if k = 38 then (0, 4000) else if k = 39 then (0, 1536) else (-2147483648, 2147483647)
def tF : Int × Int := (-2147483648, 2147483647)
def tC (j i : Nat) : Int × Int := if j = 2 then (0, 65535) else if j = 4 then (0, 65535) else if j = 7 then (0, 300) else if j = 8 then (-1, 300) else if j = 9 then (-1, 24575) else if j = 10 then (-1, 300) else if j = 11 then (-1, 300) else if j = 12 then (0, 4) else if j = 13 then (0, 255) else if j = 14 then (0, 200) else if j = 15 then (0, 65535) else if j = 17 then (if i % 5 = 0 then (0, 1) else if i % 5 = 4 then (0, 999) else tF) else if j = 18 then (0, 8) else if j = 19 then (0, 12) else if j = 20 then (0, 65535) else if j = 21 then (0, 96) else if j = 22 then (0, 65535) else if j = 23 then (-1, 3) else if j = 31 then (if i = 0 then (0, 1) else if i = 4 then (-1, 2000) else tF) else if j = 32 then (0, 24575) else if j = 34 then (0, 300) else if j = 35 then (0, 65535) else tF
def TJ (I : Nat → Int32) : Prop := ∀ k, (tB k).1 ≤ (I k).toInt ∧ (I k).toInt ≤ (tB k).2
def TK (A : Nat → Nat → Int32) : Prop := ∀ j i, (tC j i).1 ≤ (A j i).toInt ∧ (A j i).toInt ≤ (tC j i).2
theorem tf_b (v : Int32) : tF.1 ≤ v.toInt ∧ v.toInt ≤ tF.2 := ⟨Int32.le_toInt v, Int32.toInt_le v⟩
theorem tj_u {I : Nat → Int32} {k : Nat} {v : Int32} (h : TJ I) (h1 : (tB k).1 ≤ v.toInt) (h2 : v.toInt ≤ (tB k).2) : TJ (upd I k v) := by
  intro i
  by_cases e : i = k
  · have : upd I k v i = v := if_pos e
    rw [this, e]; exact ⟨h1, h2⟩
  · have : upd I k v i = I i := if_neg e
    rw [this]; exact h i
theorem tj_w {I : Nat → Int32} {k : Nat} {v : Int32} (h : TJ I) (hk : tB k = tF) : TJ (upd I k v) := tj_u h (by rw [hk]; exact (tf_b v).1) (by rw [hk]; exact (tf_b v).2)
theorem tk_x {A : Nat → Nat → Int32} {j : Nat} {f : Nat → Int32} (h : TK A) (h1 : ∀ i, (tC j i).1 ≤ (f i).toInt ∧ (f i).toInt ≤ (tC j i).2) : TK (va_up A j f) := by
  intro j' i
  by_cases e : j' = j
  · have : va_up A j f j' = f := by rw [e]; exact va_up_self _ _ _
    rw [this, e]; exact h1 i
  · rw [va_up_ne _ _ e]; exact h j' i
theorem tk_i {A : Nat → Nat → Int32} {j i0 : Nat} {v : Int32} (h : TK A) (h1 : (tC j i0).1 ≤ v.toInt ∧ v.toInt ≤ (tC j i0).2) : TK (va_up A j (upd (A j) i0 v)) := tk_x h (fun i => by
  by_cases e : i = i0
  · have : upd (A j) i0 v i = v := if_pos e
    rw [this, e]; exact h1
  · have : upd (A j) i0 v i = A j i := if_neg e
    rw [this]; exact h j i)
theorem tk_u {A : Nat → Nat → Int32} {j i0 : Nat} {v : Int32} (h : TK A) (h1 : (tC j i0).1 ≤ v.toInt) (h2 : v.toInt ≤ (tC j i0).2) : TK (va_up A j (upd (A j) i0 v)) := tk_i h ⟨h1, h2⟩
theorem tk_w {A : Nat → Nat → Int32} {j i0 : Nat} {v : Int32} (h : TK A) (hj : tC j i0 = tF) : TK (va_up A j (upd (A j) i0 v)) := tk_i h (by rw [hj]; exact tf_b v)
theorem nar_rg (v : Int32) : 0 ≤ (vp_nar .char v).toInt ∧ (vp_nar .char v).toInt ≤ 65535 := by
  have e : vp_nar .char v = (v.toUInt32 % 65536).toInt32 := rfl
  rw [e]
  generalize hu : v.toUInt32 % 65536 = u
  have h1 : u.toNat < 65536 := by rw [← hu, UInt32.toNat_mod]; exact Nat.mod_lt _ (by decide)
  have h3 : u.toBitVec.toNat = u.toNat := rfl
  have h2 : u.toInt32.toInt = u.toBitVec.toInt := rfl
  rw [h2, BitVec.toInt_eq_toNat_of_lt (by omega)]
  omega
theorem nar_c {v : Int32} (h1 : 0 ≤ v.toInt) (h2 : v.toInt ≤ 65535) : vp_nar .char v = v := by
  have e : vp_nar .char v = (v.toUInt32 % 65536).toInt32 := rfl
  rw [e]
  have h3 : v.toInt = v.toBitVec.toInt := rfl
  have h4 : v.toBitVec.toNat < 65536 := by
    have h5 := BitVec.toInt_eq_toNat_bmod v.toBitVec
    rw [← h3, Int.bmod_def] at h5
    have h6 := v.toBitVec.isLt
    split at h5 <;> omega
  have h7 : v.toUInt32 % 65536 = v.toUInt32 := by
    apply UInt32.toNat_inj.mp
    rw [UInt32.toNat_mod]
    exact Nat.mod_eq_of_lt h4
  rw [h7]
  rfl
theorem nar_ci {v : Int32} {x : Int} (e : v.toInt = x) (h1 : 0 ≤ x) (h2 : x ≤ 65535) : (vp_nar .char v).toInt = x := by
  rw [nar_c (by omega) (by omega), e]
theorem nar_cb {c v : Int32} (e : c = vp_nar .char v) : 0 ≤ c.toInt ∧ c.toInt ≤ 65535 := by
  rw [e]; exact nar_rg v
theorem tk_n {A : Nat → Nat → Int32} {j i0 : Nat} {v : Int32} (h : TK A) (hj : tC j i0 = (0, 65535)) : TK (va_up A j (upd (A j) i0 (vp_nar .char v))) := tk_i h (by rw [hj]; exact nar_cb rfl)
theorem tk_17 {A : Nat → Nat → Int32} {i0 : Nat} {v : Int32} (h : TK A) (h0 : i0 % 5 = 0 → 0 ≤ v.toInt ∧ v.toInt ≤ 1) (h4 : i0 % 5 = 4 → 0 ≤ v.toInt ∧ v.toInt ≤ 999) : TK (va_up A 17 (upd (A 17) i0 v)) := tk_i h (by
  by_cases e0 : i0 % 5 = 0
  · have : tC 17 i0 = (0, 1) := by show (if i0 % 5 = 0 then _ else _) = _; rw [if_pos e0]
    rw [this]; exact h0 e0
  · by_cases e4 : i0 % 5 = 4
    · have : tC 17 i0 = (0, 999) := by show (if i0 % 5 = 0 then _ else _) = _; rw [if_neg e0, if_pos e4]
      rw [this]; exact h4 e4
    · have : tC 17 i0 = tF := by show (if i0 % 5 = 0 then _ else _) = _; rw [if_neg e0, if_neg e4]
      rw [this]; exact tf_b v)
theorem tA_17 {A : Nat → Nat → Int32} (h : TK A) (i : Nat) : (i % 5 = 0 → 0 ≤ (A 17 i).toInt ∧ (A 17 i).toInt ≤ 1) ∧ (i % 5 = 4 → 0 ≤ (A 17 i).toInt ∧ (A 17 i).toInt ≤ 999) := by
  have h1 := h 17 i
  refine ⟨fun e0 => ?_, fun e4 => ?_⟩
  · have : tC 17 i = (0, 1) := by show (if i % 5 = 0 then _ else _) = _; rw [if_pos e0]
    rw [this] at h1; exact h1
  · have : tC 17 i = (0, 999) := by show (if i % 5 = 0 then _ else _) = _; rw [if_neg (by omega), if_pos e4]
    rw [this] at h1; exact h1
theorem tA_31 {A : Nat → Nat → Int32} (h : TK A) (i : Nat) : (i = 0 → 0 ≤ (A 31 i).toInt ∧ (A 31 i).toInt ≤ 1) ∧ (i = 4 → -1 ≤ (A 31 i).toInt ∧ (A 31 i).toInt ≤ 2000) := by
  have h1 := h 31 i
  refine ⟨fun e0 => ?_, fun e4 => ?_⟩
  · subst e0; exact h1
  · subst e4; exact h1
theorem tk_nA {I : Nat → Int32} {A : Nat → Nat → Int32} (hI : TJ I) (hA : TK A) : TK (nA I A) := by
  unfold nA
  refine tk_x (tk_x hA (fun i => tf_b _)) (fun i => ?_)
  by_cases e0 : i = 0
  · subst e0; exact hI 25
  · by_cases e4 : i = 4
    · subst e4; exact hI 29
    · have : tC 31 i = tF := by show (if i = 0 then _ else _) = _; rw [if_neg e0, if_neg e4]
      rw [this]; exact tf_b _
theorem tj_nB {I : Nat → Int32} {A : Nat → Nat → Int32} (hI : TJ I) (hA : TK A) : TJ (nB I A) := by
  intro k
  by_cases e25 : k = 25
  · subst e25; exact hA 31 0
  · by_cases e29 : k = 29
    · subst e29; exact hA 31 4
    · by_cases e : k = 26 ∨ k = 27 ∨ k = 28
      · have : tB k = tF := by rcases e with e | e | e <;> subst e <;> rfl
        rw [this]; exact tf_b _
      · have : nB I A k = I k := nB_o (by simp; omega)
        rw [this]; exact hI k
theorem tk_bb {A : Nat → Nat → Int32} (hA : TK A) : TK (va_up A 24 (A 30)) := tk_x hA (fun i => tf_b _)
theorem tI_0 {I : Nat → Int32} (h : TJ I) : (0 : Int) ≤ (I 0).toInt ∧ (I 0).toInt ≤ (2 : Int) := h 0
theorem tI_1 {I : Nat → Int32} (h : TJ I) : (0 : Int) ≤ (I 1).toInt ∧ (I 1).toInt ≤ (2000 : Int) := h 1
theorem tI_3 {I : Nat → Int32} (h : TJ I) : (0 : Int) ≤ (I 3).toInt ∧ (I 3).toInt ≤ (80000 : Int) := h 3
theorem tI_5 {I : Nat → Int32} (h : TJ I) : (0 : Int) ≤ (I 5).toInt ∧ (I 5).toInt ≤ (1 : Int) := h 5
theorem tI_6 {I : Nat → Int32} (h : TJ I) : (0 : Int) ≤ (I 6).toInt ∧ (I 6).toInt ≤ (300 : Int) := h 6
theorem tI_25 {I : Nat → Int32} (h : TJ I) : (0 : Int) ≤ (I 25).toInt ∧ (I 25).toInt ≤ (1 : Int) := h 25
theorem tI_29 {I : Nat → Int32} (h : TJ I) : (-1 : Int) ≤ (I 29).toInt ∧ (I 29).toInt ≤ (2000 : Int) := h 29
theorem tI_33 {I : Nat → Int32} (h : TJ I) : (0 : Int) ≤ (I 33).toInt ∧ (I 33).toInt ≤ (2048 : Int) := h 33
theorem tI_36 {I : Nat → Int32} (h : TJ I) : (0 : Int) ≤ (I 36).toInt ∧ (I 36).toInt ≤ (16 : Int) := h 36
theorem tI_37 {I : Nat → Int32} (h : TJ I) : (0 : Int) ≤ (I 37).toInt ∧ (I 37).toInt ≤ (2100 : Int) := h 37
theorem tI_38 {I : Nat → Int32} (h : TJ I) : (0 : Int) ≤ (I 38).toInt ∧ (I 38).toInt ≤ (4000 : Int) := h 38
theorem tI_39 {I : Nat → Int32} (h : TJ I) : (0 : Int) ≤ (I 39).toInt ∧ (I 39).toInt ≤ (1536 : Int) := h 39
theorem tA_2 {A : Nat → Nat → Int32} (h : TK A) (i : Nat) : (0 : Int) ≤ (A 2 i).toInt ∧ (A 2 i).toInt ≤ (65535 : Int) := h 2 i
theorem tA_4 {A : Nat → Nat → Int32} (h : TK A) (i : Nat) : (0 : Int) ≤ (A 4 i).toInt ∧ (A 4 i).toInt ≤ (65535 : Int) := h 4 i
theorem tA_15 {A : Nat → Nat → Int32} (h : TK A) (i : Nat) : (0 : Int) ≤ (A 15 i).toInt ∧ (A 15 i).toInt ≤ (65535 : Int) := h 15 i
theorem tA_20 {A : Nat → Nat → Int32} (h : TK A) (i : Nat) : (0 : Int) ≤ (A 20 i).toInt ∧ (A 20 i).toInt ≤ (65535 : Int) := h 20 i
theorem tA_22 {A : Nat → Nat → Int32} (h : TK A) (i : Nat) : (0 : Int) ≤ (A 22 i).toInt ∧ (A 22 i).toInt ≤ (65535 : Int) := h 22 i
theorem tA_35 {A : Nat → Nat → Int32} (h : TK A) (i : Nat) : (0 : Int) ≤ (A 35 i).toInt ∧ (A 35 i).toInt ≤ (65535 : Int) := h 35 i
theorem tA_7 {A : Nat → Nat → Int32} (h : TK A) (i : Nat) : (0 : Int) ≤ (A 7 i).toInt ∧ (A 7 i).toInt ≤ (300 : Int) := h 7 i
theorem tA_8 {A : Nat → Nat → Int32} (h : TK A) (i : Nat) : (-1 : Int) ≤ (A 8 i).toInt ∧ (A 8 i).toInt ≤ (300 : Int) := h 8 i
theorem tA_9 {A : Nat → Nat → Int32} (h : TK A) (i : Nat) : (-1 : Int) ≤ (A 9 i).toInt ∧ (A 9 i).toInt ≤ (24575 : Int) := h 9 i
theorem tA_10 {A : Nat → Nat → Int32} (h : TK A) (i : Nat) : (-1 : Int) ≤ (A 10 i).toInt ∧ (A 10 i).toInt ≤ (300 : Int) := h 10 i
theorem tA_11 {A : Nat → Nat → Int32} (h : TK A) (i : Nat) : (-1 : Int) ≤ (A 11 i).toInt ∧ (A 11 i).toInt ≤ (300 : Int) := h 11 i
theorem tA_12 {A : Nat → Nat → Int32} (h : TK A) (i : Nat) : (0 : Int) ≤ (A 12 i).toInt ∧ (A 12 i).toInt ≤ (4 : Int) := h 12 i
theorem tA_13 {A : Nat → Nat → Int32} (h : TK A) (i : Nat) : (0 : Int) ≤ (A 13 i).toInt ∧ (A 13 i).toInt ≤ (255 : Int) := h 13 i
theorem tA_14 {A : Nat → Nat → Int32} (h : TK A) (i : Nat) : (0 : Int) ≤ (A 14 i).toInt ∧ (A 14 i).toInt ≤ (200 : Int) := h 14 i
theorem tA_18 {A : Nat → Nat → Int32} (h : TK A) (i : Nat) : (0 : Int) ≤ (A 18 i).toInt ∧ (A 18 i).toInt ≤ (8 : Int) := h 18 i
theorem tA_19 {A : Nat → Nat → Int32} (h : TK A) (i : Nat) : (0 : Int) ≤ (A 19 i).toInt ∧ (A 19 i).toInt ≤ (12 : Int) := h 19 i
theorem tA_21 {A : Nat → Nat → Int32} (h : TK A) (i : Nat) : (0 : Int) ≤ (A 21 i).toInt ∧ (A 21 i).toInt ≤ (96 : Int) := h 21 i
theorem tA_23 {A : Nat → Nat → Int32} (h : TK A) (i : Nat) : (-1 : Int) ≤ (A 23 i).toInt ∧ (A 23 i).toInt ≤ (3 : Int) := h 23 i
theorem tA_32 {A : Nat → Nat → Int32} (h : TK A) (i : Nat) : (0 : Int) ≤ (A 32 i).toInt ∧ (A 32 i).toInt ≤ (24575 : Int) := h 32 i
theorem tA_34 {A : Nat → Nat → Int32} (h : TK A) (i : Nat) : (0 : Int) ≤ (A 34 i).toInt ∧ (A 34 i).toInt ≤ (300 : Int) := h 34 i
