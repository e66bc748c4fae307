theorem TTd_u {n : Nat} {P M C : Nat → Int} {D D2 : Nat → Nat} (hb : TTb n P M) (h1 : TTd n P C D) (h2 : TTd n P C D2) : ∀ k, k ≤ n → D k = D2 k := by
  intro k
  induction k using Nat.strongRecOn with
  | ind k ih =>
    intro hk
    by_cases e : k = 0
    · subst e; rw [h1.1, h2.1]
    · have h3 := (hb k (by omega) hk).1
      rw [h1.2.1 k (by omega) hk, h2.2.1 k (by omega) hk, ih _ (by omega) (by omega)]
theorem TTd_app {n node : Nat} {P M C N P' C' : Nat → Int} {L : Nat → List Nat} {D : Nat → Nat} (hb : TTb n P M) (hl : TTl n P C N L) (hd : TTd n P C D) (hnode : node ≤ n) (hdeep : D node + (if L node = [] then 0 else 1) ≤ 6)
    (eP : ∀ j, j ≤ n → P' j = P j) (eP1 : P' (n + 1) = (node : Int)) (eC : ∀ j, j ≤ n → j ≠ node → C' j = C j) (eC0 : L node ≠ [] → C' node = C node) (eC1 : L node = [] → C' node = ((n + 1 : Nat) : Int)) : TTd (n + 1) P' C' (fun j => if j = n + 1 then D node + (if L node = [] then 0 else 1) else D j) := by
  have hLn : ∀ p, p ≤ n → ∀ k ∈ L p, 1 ≤ k ∧ k ≤ n ∧ P k = (p : Int) := fun p hp k hk => ((hl p hp).2.2 k).mp hk
  refine ⟨?_, fun k h1 h2 => ?_, fun k hk => ?_⟩
  · show (if 0 = n + 1 then _ else D 0) = 0
    rw [if_neg (by omega)]; exact hd.1
  · have hCn : L node ≠ [] → C node ≠ ((n + 1 : Nat) : Int) := fun h0 he => by
      obtain ⟨a, b, c⟩ := hl node hnode
      cases hL : L node with
      | nil => exact h0 hL
      | cons x l =>
        rw [hL] at a
        have h1 := a.1
        have h2 := hLn node hnode x (by rw [hL]; exact List.mem_cons_self)
        omega
    by_cases e : k = n + 1
    · subst e
      have e3 : (P' (n + 1)).toNat = node := by rw [eP1]; exact Int.toNat_natCast node
      rw [e3]
      show (if n + 1 = n + 1 then _ else _) = (if node = n + 1 then _ else D node) + _
      rw [if_pos rfl, if_neg (show ¬ node = n + 1 by omega)]
      by_cases h0 : L node = []
      · rw [if_pos h0, if_pos (eC1 h0)]
      · rw [if_neg h0, if_neg (by rw [eC0 h0]; exact hCn h0)]
    · have h3 := (hb k h1 (by omega)).1
      show (if k = n + 1 then _ else D k) = (if (P' k).toNat = n + 1 then _ else D (P' k).toNat) + _
      rw [if_neg e, eP k (by omega), if_neg (show ¬ (P k).toNat = n + 1 by omega), hd.2.1 k h1 (by omega)]
      congr 1
      by_cases e4 : (P k).toNat = node
      · rw [e4]
        have hmem : k ∈ L node := ((hl node hnode).2.2 k).mpr ⟨h1, by omega, by omega⟩
        have h0 : L node ≠ [] := fun h => by rw [h] at hmem; cases hmem
        rw [eC0 h0]
      · rw [eC _ (by omega) e4]
  · show (if k = n + 1 then _ else D k) ≤ 6
    by_cases e : k = n + 1
    · rw [if_pos e]; exact hdeep
    · rw [if_neg e]; exact hd.2.2 k (by omega)
/-- node k is there, and at most d deep -/
def lnk (A : Nat → Nat → Int32) (g k : Nat) (d : Int) : Prop := k ≤ aK A g ∧ ∀ D, TTd (aK A g) (aP A g) (aC A g) D → (D k : Int) ≤ d
/-- a new node behind k would be at most d deep -/
def apd (A : Nat → Nat → Int32) (g k : Nat) (d : Int) : Prop := k ≤ aK A g ∧ ∀ D, TTd (aK A g) (aP A g) (aC A g) D → (D k : Int) + (if aC A g k < 0 then 0 else 1) ≤ d
def leaf (A : Nat → Nat → Int32) (g k : Nat) : Prop := aC A g k < 0
theorem lnk_fr {A A' : Nat → Nat → Int32} {g k : Nat} {d : Int} (e7 : A' 7 = A 7) (e8 : A' 8 = A 8) (e10 : A' 10 = A 10) (h : lnk A g k d) : lnk A' g k d := by
  have a : aK A' g = aK A g := by unfold aK; rw [e7]
  have b : aP A' g = aP A g := by funext j; unfold aP; rw [e8]
  have c : aC A' g = aC A g := by funext j; unfold aC; rw [e10]
  unfold lnk; rw [a, b, c]; exact h
theorem apd_fr {A A' : Nat → Nat → Int32} {g k : Nat} {d : Int} (e7 : A' 7 = A 7) (e8 : A' 8 = A 8) (e10 : A' 10 = A 10) (h : apd A g k d) : apd A' g k d := by
  have a : aK A' g = aK A g := by unfold aK; rw [e7]
  have b : aP A' g = aP A g := by funext j; unfold aP; rw [e8]
  have c : aC A' g = aC A g := by funext j; unfold aC; rw [e10]
  unfold apd; rw [a, b, c]; exact h
theorem leaf_fr {A A' : Nat → Nat → Int32} {g k : Nat} (e10 : A' 10 = A 10) (h : leaf A g k) : leaf A' g k := by
  unfold leaf aC; rw [e10]; exact h
theorem apd_leaf {A : Nat → Nat → Int32} {g k : Nat} {d : Int} (h : lnk A g k d) (hl : leaf A g k) : apd A g k d := ⟨h.1, fun D hD => by
  rw [if_pos (show aC A g k < 0 from hl)]; have := h.2 D hD; omega⟩
theorem apd_lnk {A : Nat → Nat → Int32} {g k : Nat} {d : Int} (h : lnk A g k d) : apd A g k (d + 1) := ⟨h.1, fun D hD => by
  have := h.2 D hD
  split <;> omega⟩
theorem lnk_apd {A : Nat → Nat → Int32} {g k : Nat} {d : Int} (h : apd A g k d) : lnk A g k d := ⟨h.1, fun D hD => by
  have := h.2 D hD
  split at this <;> omega⟩
theorem apd_le {A : Nat → Nat → Int32} {g k : Nat} {d d' : Int} (h : apd A g k d) (hd : d ≤ d') : apd A g k d' := ⟨h.1, fun D hD => by
  have := h.2 D hD
  omega⟩
/-- what an append leaves of a game -/
def AP (A A' : Nat → Nat → Int32) (g node r : Nat) : Prop := r = aK A g + 1 ∧ aK A' g = aK A g + 1 ∧ (∀ k d, lnk A g k d → lnk A' g k d) ∧ (∀ k, k ≤ aK A g → k ≠ node → leaf A g k → leaf A' g k) ∧ leaf A' g r ∧ (∀ d, apd A g node d → lnk A' g r d)
theorem chn_len {n : Nat} {P C N : Nat → Int} {L : Nat → List Nat} (hl : TTl n P C N L) {p : Nat} (hp : p ≤ n) : (L p).length ≤ n := pig n _ (hl p hp).2.1 (fun k hk => by
  have := ((hl p hp).2.2 k).mp hk
  omega)
theorem t_childWith_14 {I : Nat → Int32} {A : Nat → Nat → Int32} {g : Nat} (hg : g ≤ 1) : ∀ (l : List Nat) (n : Nat) (x1 x3 x4 : Int32), x1.toInt = (g : Int) → (∀ k ∈ l, k ≤ 300) → chn (aN A g) l x4.toInt → l.length < n → Ok (f_childWith_14 n x1 x3 x4 I A) (fun o => o.2 = (I, A) ∧ (o.1.toInt = -1 ∨ ∃ k ∈ l, o.1.toInt = (k : Int))) := by
  intro l
  induction l with
  | nil =>
    intro n x1 x3 x4 h1 h2 h3 h4
    cases n with
    | zero => omega
    | succ n =>
      have h5 : x4.toInt = -1 := h3
      show Ok (f_childWith_14s (f_childWith_14 n) x1 x3 x4 I A) _
      unfold f_childWith_14s
      exact ok_ifT (Int32.lt_iff_toInt_lt.mpr (by rw [h5]; decide)) (show Ok (some (x4, (I, A))) _ from ok_ret ⟨rfl, Or.inl h5⟩)
  | cons k l ih =>
    intro n x1 x3 x4 h1 h2 h3 h4
    cases n with
    | zero => exact absurd h4 (Nat.not_lt_zero _)
    | succ n =>
      have hk := h2 k List.mem_cons_self
      have h5 : x4.toInt = (k : Int) := h3.1
      show Ok (f_childWith_14s (f_childWith_14 n) x1 x3 x4 I A) _
      unfold f_childWith_14s
      refine ok_ifF (fun h => by have := ti_ltP h rfl (show (0 : Int32).toInt = 0 from rfl); omega) ?_
      refine ok_bnd (fun v1 e1 => ?_)
      have t1 := ti_mul e1 (show (301 : Int32).toInt = 301 from rfl) h1 (by omega) (by omega)
      refine ok_bnd (fun v2 e2 => ?_)
      have t2 := ti_add e2 t1 h5 (by omega) (by omega)
      refine ok_chk (ti_in (by omega) (by omega)) ?_
      refine ok_bnd (fun v3 e3 => ?_)
      refine ok_if (fun _ => show Ok (some (x4, (I, A))) _ from ok_ret ⟨rfl, Or.inr ⟨k, List.mem_cons_self, h5⟩⟩) (fun _ => ?_)
      refine ok_bnd (fun v4 e4 => ?_)
      have t4 := ti_mul e4 (show (301 : Int32).toInt = 301 from rfl) h1 (by omega) (by omega)
      refine ok_bnd (fun v5 e5 => ?_)
      have t5 := ti_add e5 t4 h5 (by omega) (by omega)
      refine ok_chk (ti_in (by omega) (by omega)) ?_
      refine ok_bnd (fun v6 e6 => ?_)
      have i5 : v5.toNatClampNeg = 301 * g + k := by have := ti_nc (a := v5) (by omega); omega
      have w6 : v6.toInt = aN A g k := by rw [e6, i5]; rfl
      refine ok_mono (ih n x1 x3 v6 h1 (fun j hj => h2 j (List.mem_cons_of_mem _ hj)) (by rw [w6]; exact h3.2) (by simp only [List.length_cons] at h4; omega)) (fun o ho => ⟨ho.1, ?_⟩)
      rcases ho.2 with h | ⟨j, hj, he⟩
      · exact Or.inl h
      · exact Or.inr ⟨j, List.mem_cons_of_mem _ hj, he⟩
theorem aK_le {A : Nat → Nat → Int32} {g : Nat} (hA : TK A) : aK A g ≤ 300 := by
  have := tA_7 hA g
  unfold aK; omega
theorem t_childWith {gg : Nat} {I : Nat → Int32} {A : Nat → Nat → Int32} {x1 x2 x3 : Int32} (hI : TJ I) (hA : TK A) (r_x1 : (0 : Int) ≤ x1.toInt ∧ x1.toInt ≤ (1 : Int)) (r_x2 : (0 : Int) ≤ x2.toInt ∧ x2.toInt ≤ (300 : Int)) (q0 : TRE A gg) (q1 : x1.toInt = (gg : Int)) (q2 : x2.toInt ≤ (aK A gg : Int)) : Ok (f_childWith x1 x2 x3 I A) (fun o => o.2 = (I, A) ∧ ((-1 : Int) ≤ o.1.toInt ∧ o.1.toInt ≤ (300 : Int)) ∧ (o.1.toInt ≤ (aK A gg : Int))) := by
  obtain ⟨hb, L, D, hl, hd⟩ := q0
  have hk := aK_le (g := gg) hA
  show Ok (f_childWith_0 x1 x2 x3 I A) _
  unfold f_childWith_0
  refine ok_bnd (fun v1 e1 => ?_)
  have t1 := ti_mul e1 (show (301 : Int32).toInt = 301 from rfl) q1 (by omega) (by omega)
  refine ok_bnd (fun v2 e2 => ?_)
  have t2 := ti_add e2 t1 rfl (by omega) (by omega)
  refine ok_chk (ti_in (by omega) (by omega)) ?_
  refine ok_bnd (fun v3 e3 => ?_)
  have i2 : v2.toNatClampNeg = 301 * gg + x2.toInt.toNat := by have := ti_nc (a := v2) (by omega); omega
  have w3 : v3.toInt = aC A gg x2.toInt.toNat := by rw [e3, i2]; rfl
  have hp : x2.toInt.toNat ≤ aK A gg := by omega
  have hlen := chn_len hl hp
  refine ok_mono (t_childWith_14 (by omega) (L x2.toInt.toNat) mFuel x1 x3 v3 q1 (fun k hk' => ?_) (by rw [w3]; exact (hl _ hp).1) (by show _ < 200000; omega)) (fun o ho => ⟨ho.1, ?_⟩)
  · have := ((hl _ hp).2.2 k).mp hk'; omega
  · rcases ho.2 with h | ⟨k, hk', he⟩
    · omega
    · have := ((hl _ hp).2.2 k).mp hk'; omega
theorem t_append_94 {I : Nat → Int32} {A : Nat → Nat → Int32} {g : Nat} (hg : g ≤ 1) : ∀ (l : List Nat) (hne : l ≠ []) (n : Nat) (x1 x4 x5 : Int32), x1.toInt = (g : Int) → (∀ k ∈ l, k ≤ 300) → chn (aN A g) l x5.toInt → l.length < n → f_append_94 n x1 x4 x5 I A = some (x4, (I, va_up A 11 (upd (A 11) (301 * g + l.getLast hne) x4))) := by
  intro l
  induction l with
  | nil => intro hne; exact absurd rfl hne
  | cons k l ih =>
    intro hne n x1 x4 x5 h1 h2 h3 h4
    cases n with
    | zero => exact absurd h4 (Nat.not_lt_zero _)
    | succ n =>
      have hk := h2 k List.mem_cons_self
      have h5 : x5.toInt = (k : Int) := h3.1
      have key : Ok (f_append_94s (f_append_94 n) x1 x4 x5 I A) (fun o => o = (x4, (I, va_up A 11 (upd (A 11) (301 * g + (k :: l).getLast hne) x4)))) := by
        unfold f_append_94s
        refine ok_bnd (fun v1 e1 => ?_)
        have t1 := ti_mul e1 (show (301 : Int32).toInt = 301 from rfl) h1 (by omega) (by omega)
        refine ok_bnd (fun v2 e2 => ?_)
        have t2 := ti_add e2 t1 h5 (by omega) (by omega)
        refine ok_chk (ti_in (by omega) (by omega)) ?_
        refine ok_bnd (fun v3 e3 => ?_)
        have i2 : v2.toNatClampNeg = 301 * g + k := by have := ti_nc (a := v2) (by omega); omega
        have w3 : v3.toInt = aN A g k := by rw [e3, i2]; rfl
        have h6 := h3.2
        rw [← w3] at h6
        refine ok_if (fun c => ?_) (fun c => ?_)
        · replace c := ti_ltP c rfl (show (0 : Int32).toInt = 0 from rfl)
          have hl0 := chn_nil h6 c
          subst hl0
          refine ok_bnd (fun v4 e4 => ?_)
          have t4 := ti_mul e4 (show (301 : Int32).toInt = 301 from rfl) h1 (by omega) (by omega)
          refine ok_bnd (fun v5 e5 => ?_)
          have t5 := ti_add e5 t4 h5 (by omega) (by omega)
          have i5 : v5.toNatClampNeg = 301 * g + k := by have := ti_nc (a := v5) (by omega); omega
          refine ok_chk (ti_in (by omega) (by omega)) ?_
          refine ok_bnd (fun A6 e6 => ?_)
          rw [i5] at e6
          exact ok_ret (by rw [e6]; rfl)
        · replace c := ti_ltN c rfl (show (0 : Int32).toInt = 0 from rfl)
          have hl0 : l ≠ [] := fun h => by rw [h] at h6; have : v3.toInt = -1 := h6; omega
          refine ok_bnd (fun v7 e7 => ?_)
          have t7 := ti_mul e7 (show (301 : Int32).toInt = 301 from rfl) h1 (by omega) (by omega)
          refine ok_bnd (fun v8 e8 => ?_)
          have t8 := ti_add e8 t7 h5 (by omega) (by omega)
          have i8 : v8.toNatClampNeg = 301 * g + k := by have := ti_nc (a := v8) (by omega); omega
          refine ok_chk (ti_in (by omega) (by omega)) ?_
          refine ok_bnd (fun v9 e9 => ?_)
          have w9 : v9.toInt = aN A g k := by rw [e9, i8]; rfl
          have h7 := ih hl0 n x1 x4 v9 h1 (fun j hj => h2 j (List.mem_cons_of_mem _ hj)) (by rw [w9]; exact h3.2) (by simp only [List.length_cons] at h4; omega)
          exact ⟨_, h7, by rw [List.getLast_cons hl0]⟩
      obtain ⟨o, h8, h9⟩ := key
      show f_append_94s (f_append_94 n) x1 x4 x5 I A = _
      rw [h8, h9]
