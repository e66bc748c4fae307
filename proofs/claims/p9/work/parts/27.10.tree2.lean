/-- a is k, or stands on the way from k to node 0 -/
def bhf (P : Nat → Int) : Nat → Nat → Nat → Prop
  | 0, a, k => k = a
  | m + 1, a, k => k = a ∨ (1 ≤ k ∧ bhf P m a (P k).toNat)
def bh (P : Nat → Int) (a k : Nat) : Prop := bhf P k a k
theorem bhf_eq {n : Nat} {P M : Nat → Int} (hb : TTb n P M) (a : Nat) : ∀ m k, k ≤ m → k ≤ n → (bhf P m a k ↔ bh P a k) := by
  intro m
  induction m with
  | zero => intro k h1 _; have : k = 0 := by omega
            subst this; exact Iff.rfl
  | succ m ih =>
    intro k h1 h2
    cases k with
    | zero =>
      show (0 = a ∨ (1 ≤ 0 ∧ _)) ↔ 0 = a
      constructor
      · intro h
        rcases h with h | h
        · exact h
        · omega
      · intro h; exact Or.inl h
    | succ k =>
      have h3 := (hb (k + 1) (by omega) h2).1
      show (k + 1 = a ∨ (1 ≤ k + 1 ∧ bhf P m a (P (k + 1)).toNat)) ↔ (k + 1 = a ∨ (1 ≤ k + 1 ∧ bhf P k a (P (k + 1)).toNat))
      rw [ih _ (by omega) (by omega)]
      have h4 : ∀ j, j ≤ k → j ≤ n → (bhf P k a j ↔ bh P a j) := by
        intro j h5 h6
        by_cases e : k = m
        · subst e; exact ih j h5 h6
        · have aux : ∀ d j, j ≤ n → (bhf P (j + d) a j ↔ bh P a j) := by
            intro d
            induction d with
            | zero => intro j _; exact Iff.rfl
            | succ d ih2 =>
              intro j hj
              have step : ∀ q j, j ≤ q → j ≤ n → (bhf P (q + 1) a j ↔ bhf P q a j) := by
                intro q
                induction q with
                | zero => intro j h _; have : j = 0 := by omega
                          subst this
                          constructor
                          · intro h
                            rcases h with h | h
                            · exact h
                            · omega
                          · intro h; exact Or.inl h
                | succ q ihq =>
                  intro j h h'
                  cases j with
                  | zero =>
                    constructor
                    · intro h
                      rcases h with h | h
                      · exact Or.inl h
                      · omega
                    · intro h
                      rcases h with h | h
                      · exact Or.inl h
                      · omega
                  | succ j =>
                    have h7 := (hb (j + 1) (by omega) h').1
                    show (j + 1 = a ∨ (1 ≤ j + 1 ∧ bhf P (q + 1) a (P (j + 1)).toNat)) ↔ (j + 1 = a ∨ (1 ≤ j + 1 ∧ bhf P q a (P (j + 1)).toNat))
                    rw [ihq _ (by omega) (by omega)]
              rw [show j + (d + 1) = (j + d) + 1 by omega, step (j + d) j (by omega) hj]
              exact ih2 j hj
          have := aux (k - j) j h6
          rw [show j + (k - j) = k by omega] at this
          exact this
      rw [h4 _ (by omega) (by omega)]
theorem bh_step {n : Nat} {P M : Nat → Int} (hb : TTb n P M) {a k : Nat} (h1 : 1 ≤ k) (h2 : k ≤ n) : bh P a k ↔ (k = a ∨ bh P a (P k).toNat) := by
  have h3 := (hb k h1 h2).1
  cases k with
  | zero => omega
  | succ k =>
    show (k + 1 = a ∨ (1 ≤ k + 1 ∧ bhf P k a (P (k + 1)).toNat)) ↔ _
    rw [bhf_eq hb a k _ (by omega) (by omega)]
    constructor
    · intro h
      rcases h with h | h
      · exact Or.inl h
      · exact Or.inr h.2
    · intro h
      rcases h with h | h
      · exact Or.inl h
      · exact Or.inr ⟨by omega, h⟩
theorem bh_le {n : Nat} {P M : Nat → Int} (hb : TTb n P M) {a : Nat} : ∀ k, k ≤ n → bh P a k → a ≤ k := by
  intro k
  induction k using Nat.strongRecOn with
  | ind k ih =>
    intro hk h
    cases k with
    | zero => have : 0 = a := h
              omega
    | succ k =>
      have h3 := (hb (k + 1) (by omega) hk).1
      rcases (bh_step hb (by omega) hk).mp h with h | h
      · omega
      · have := ih _ (by omega) (by omega) h
        omega
theorem bh_D {n : Nat} {P M C : Nat → Int} {D : Nat → Nat} (hb : TTb n P M) (hd : TTd n P C D) {a : Nat} : ∀ k, k ≤ n → bh P a k → D a ≤ D k := by
  intro k
  induction k using Nat.strongRecOn with
  | ind k ih =>
    intro hk h
    cases k with
    | zero => have : 0 = a := h
              rw [← this]; exact Nat.le_refl _
    | succ k =>
      have h3 := (hb (k + 1) (by omega) hk).1
      rcases (bh_step hb (by omega) hk).mp h with h | h
      · rw [h]; exact Nat.le_refl _
      · have h4 := ih _ (by omega) (by omega) h
        rw [hd.2.1 (k + 1) (by omega) hk]
        exact Nat.le_trans h4 (Nat.le_add_right _ _)
theorem chn_del {N N' : Nat → Int} {b h : Nat} {r : List Nat} (hb : N' b = N h) (hr : ∀ j ∈ r, N' j = N j) : ∀ (l : List Nat) (v : Int), (∀ j ∈ l, N' j = N j) → chn N (l ++ b :: h :: r) v → chn N' (l ++ b :: r) v
  | [], v, _, hc => ⟨hc.1, by rw [hb]; exact chn_congr hr hc.2.2⟩
  | k :: l, v, hl, hc => ⟨hc.1, by
      rw [hl k List.mem_cons_self]
      exact chn_del hb hr l _ (fun j hj => hl j (List.mem_cons_of_mem _ hj)) hc.2⟩
/-- one of a row goes to its front -/
theorem TT_lead {n u F H b : Nat} {l r : List Nat} {P M C N C' N' : Nat → Int} {L : Nat → List Nat} {D : Nat → Nat} (hb : TTb n P M) (hl : TTl n P C N L) (hd : TTd n P C D) (hu : u ≤ n) (hL : L u = l ++ b :: H :: r) (hF : C u = (F : Int)) (hchk : ∀ k, 1 ≤ k → k ≤ n → bh P F k → D k ≠ 6)
    (eC : ∀ j, j ≤ n → j ≠ u → C' j = C j) (eCu : C' u = (H : Int)) (eNb : N' b = N H) (eNH : N' H = (F : Int)) (eN : ∀ j, j ≤ n → j ≠ b → j ≠ H → N' j = N j) : TT n P M C' N' := by
  have hc := (hl u hu).1
  have hnd := (hl u hu).2.1
  have hmem := (hl u hu).2.2
  rw [hL] at hc hnd hmem
  have hF' : (F : Nat) ∈ l ++ b :: H :: r ∧ (l ++ b :: r).head? = some F := by
    cases l with
    | nil => have := hc.1
             have e : F = b := by omega
             subst e; exact ⟨by simp, rfl⟩
    | cons x l => have := hc.1
                  have e : F = x := by omega
                  subst e; exact ⟨by simp, rfl⟩
  obtain ⟨f1, f2, f3⟩ := (hmem F).mp hF'.1
  obtain ⟨g1, g2, g3⟩ := (hmem H).mp (by simp)
  have hnd2 := List.nodup_append.mp hnd
  have hbH : b ≠ H := by
    intro e
    have := (List.nodup_cons.mp hnd2.2.1).1
    exact this (by rw [e]; exact List.mem_cons_self)
  have hHr : H ∉ r := (List.nodup_cons.mp (List.nodup_cons.mp hnd2.2.1).2).1
  have hHl : H ∉ l := fun h => hnd2.2.2 H h H (by simp) rfl
  have hbl : b ∉ l := fun h => hnd2.2.2 b h b (by simp) rfl
  have hbr : b ∉ r := fun h => (List.nodup_cons.mp hnd2.2.1).1 (List.mem_cons_of_mem _ h)
  have hFH : F ≠ H := by
    intro e
    cases l with
    | nil => have := hc.1
             exact hbH (by omega)
    | cons x l => have := hc.1
                  have e1 : x = H := by omega
                  exact hHl (by rw [e1]; exact List.mem_cons_self)
  have hbn : b ≤ n := ((hmem b).mp (by simp)).2.1
  have hln : ∀ j ∈ l, j ≤ n := fun j hj => ((hmem j).mp (by simp [hj])).2.1
  have hrn : ∀ j ∈ r, j ≤ n := fun j hj => ((hmem j).mp (by simp [hj])).2.1
  have hPF := (hb F f1 f2).1
  have hPH := (hb H g1 g2).1
  have nFu : ¬ bh P F u := fun h => by have := bh_le hb u hu h; omega
  have nHu : ¬ bh P H u := fun h => by have := bh_le hb u hu h; omega
  have eFu : (P F).toNat = u := by omega
  have eHu : (P H).toNat = u := by omega
  have nFH : ¬ bh P F H := fun h => by
    rcases (bh_step hb g1 g2).mp h with h | h
    · exact hFH h.symm
    · rw [eHu] at h; exact nFu h
  have nHF : ¬ bh P H F := fun h => by
    rcases (bh_step hb f1 f2).mp h with h | h
    · exact hFH h
    · rw [eFu] at h; exact nHu h
  have dF : D F = D u := by
    have := hd.2.1 F f1 f2
    rw [eFu, if_pos hF] at this
    omega
  have dH : D H = D u + 1 := by
    have := hd.2.1 H g1 g2
    rw [eHu, if_neg (by rw [hF]; omega)] at this
    exact this
  refine ⟨hb, fun p => if p = u then H :: (l ++ b :: r) else L p, fun k => by classical exact if bh P F k then D k + 1 else if bh P H k then D k - 1 else D k, fun p hp => ?_, ?_, fun k h1 h2 => ?_, fun k hk => ?_⟩
  · dsimp only
    by_cases e : p = u
    · subst e
      rw [if_pos rfl]
      refine ⟨⟨eCu, ?_⟩, ?_, fun k => ?_⟩
      · rw [eNH]
        have h5 : chn N (l ++ b :: H :: r) (F : Int) := by rw [← hF]; exact hc
        exact chn_del eNb (fun j hj => eN j (hrn j hj) (fun e => hbr (e ▸ hj)) (fun e => hHr (e ▸ hj))) l _ (fun j hj => eN j (hln j hj) (fun e => hbl (e ▸ hj)) (fun e => hHl (e ▸ hj))) h5
      · refine List.nodup_cons.mpr ⟨by simp [hHl, hHr, Ne.symm hbH], ?_⟩
        refine List.nodup_append.mpr ⟨hnd2.1, List.nodup_cons.mpr ⟨hbr, (List.nodup_cons.mp (List.nodup_cons.mp hnd2.2.1).2).2⟩, fun x hx y hy => hnd2.2.2 x hx y ?_⟩
        rcases List.mem_cons.mp hy with h | h
        · rw [h]; exact List.mem_cons_self
        · exact List.mem_cons_of_mem _ (List.mem_cons_of_mem _ h)
      · rw [← hmem k]
        simp only [List.mem_cons, List.mem_append]
        constructor
        · intro h; rcases h with h | h | h | h
          · exact Or.inr (Or.inr (Or.inl h))
          · exact Or.inl h
          · exact Or.inr (Or.inl h)
          · exact Or.inr (Or.inr (Or.inr h))
        · intro h; rcases h with h | h | h | h
          · exact Or.inr (Or.inl h)
          · exact Or.inr (Or.inr (Or.inl h))
          · exact Or.inl h
          · exact Or.inr (Or.inr (Or.inr h))
    · rw [if_neg e]
      obtain ⟨a, c, d⟩ := hl p hp
      refine ⟨?_, c, d⟩
      rw [eC p hp e]
      refine chn_congr (fun j hj => ?_) a
      have h6 := (d j).mp hj
      have h7 := (hmem b).mp (by simp)
      exact eN j h6.2.1 (fun e1 => by subst e1; omega) (fun e1 => by subst e1; omega)
  · dsimp only
    rw [if_neg (fun h => by have : 0 = F := h; omega), if_neg (fun h => by have : 0 = H := h; omega)]
    exact hd.1
  · have h3 := (hb k h1 h2).1
    dsimp only
    by_cases eF : k = F
    · subst eF
      rw [eFu, if_pos ((bh_step hb h1 h2).mpr (Or.inl rfl)), if_neg nFu, if_neg nHu, if_neg (by rw [eCu]; omega), dF]
    · by_cases eH : k = H
      · subst eH
        rw [eHu, if_neg nFH, if_pos ((bh_step hb h1 h2).mpr (Or.inl rfl)), if_neg nFu, if_neg nHu, if_pos eCu, dH]
        omega
      · have iF : bh P F k ↔ bh P F (P k).toNat := by
          rw [bh_step hb h1 h2]
          exact ⟨fun h => h.elim (fun h => absurd h eF) id, Or.inr⟩
        have iH : bh P H k ↔ bh P H (P k).toNat := by
          rw [bh_step hb h1 h2]
          exact ⟨fun h => h.elim (fun h => absurd h eH) id, Or.inr⟩
        have ind : (if C' (P k).toNat = (k : Int) then 0 else 1) = (if C (P k).toNat = (k : Int) then 0 else 1) := by
          by_cases e4 : (P k).toNat = u
          · rw [e4, eCu, hF, if_neg (by omega), if_neg (by omega)]
          · rw [eC _ (by omega) e4]
        rw [ind]
        have hk := hd.2.1 k h1 h2
        by_cases c1 : bh P F k
        · rw [if_pos c1, if_pos (iF.mp c1), hk]; omega
        · rw [if_neg c1, if_neg (fun h => c1 (iF.mpr h))]
          by_cases c2 : bh P H k
          · rw [if_pos c2, if_pos (iH.mp c2), hk]
            have h8 := bh_D hb hd _ (by omega) (iH.mp c2)
            omega
          · rw [if_neg c2, if_neg (fun h => c2 (iH.mpr h))]
            exact hk
  · dsimp only
    have h9 := hd.2.2 k hk
    by_cases c1 : bh P F k
    · rw [if_pos c1]
      by_cases k0 : k = 0
      · subst k0; have : 0 = F := c1; omega
      · have := hchk k (by omega) hk c1
        omega
    · rw [if_neg c1]
      by_cases c2 : bh P H k
      · rw [if_pos c2]; omega
      · rw [if_neg c2]; exact h9
/-- the nodes behind p -/
def dsc (L : Nat → List Nat) : Nat → Nat → List Nat
  | 0, _ => []
  | m + 1, p => (L p).flatMap (fun x => x :: dsc L m x)
theorem dsc_gt {n : Nat} {P M C N : Nat → Int} {L : Nat → List Nat} (hb : TTb n P M) (hl : TTl n P C N L) : ∀ m p, p ≤ n → ∀ k ∈ dsc L m p, p < k ∧ k ≤ n := by
  intro m
  induction m with
  | zero => intro p _ k hk; cases hk
  | succ m ih =>
    intro p hp k hk
    obtain ⟨x, hx, hk⟩ := List.mem_flatMap.mp hk
    obtain ⟨x1, x2, x3⟩ := ((hl p hp).2.2 x).mp hx
    have := (hb x x1 x2).1
    rcases List.mem_cons.mp hk with h | h
    · subst h; omega
    · have := ih x x2 k h
      omega
theorem dsc_up {n : Nat} {P M C N : Nat → Int} {L : Nat → List Nat} (hb : TTb n P M) (hl : TTl n P C N L) : ∀ m p, p ≤ n → ∀ k ∈ dsc L m p, (P k).toNat ∈ p :: dsc L m p := by
  intro m
  induction m with
  | zero => intro p _ k hk; cases hk
  | succ m ih =>
    intro p hp k hk
    obtain ⟨x, hx, hk⟩ := List.mem_flatMap.mp hk
    obtain ⟨x1, x2, x3⟩ := ((hl p hp).2.2 x).mp hx
    rcases List.mem_cons.mp hk with h | h
    · subst h
      have : (P k).toNat = p := by omega
      rw [this]; exact List.mem_cons_self
    · exact List.mem_cons_of_mem _ (List.mem_flatMap.mpr ⟨x, hx, ih x x2 k h⟩)
theorem dsc_one {n : Nat} {P M C N : Nat → Int} {L : Nat → List Nat} (hb : TTb n P M) (hl : TTl n P C N L) {m p x y : Nat} (hp : p ≤ n) (hx : x ∈ L p) (hy : y ∈ L p) : ∀ k, k ∈ x :: dsc L m x → k ∈ y :: dsc L m y → x = y := by
  obtain ⟨x1, x2, x3⟩ := ((hl p hp).2.2 x).mp hx
  obtain ⟨y1, y2, y3⟩ := ((hl p hp).2.2 y).mp hy
  have hx4 := (hb x x1 x2).1
  have hy4 := (hb y y1 y2).1
  intro k
  induction k using Nat.strongRecOn with
  | ind k ih =>
    intro h1 h2
    rcases List.mem_cons.mp h1 with h1 | h1 <;> rcases List.mem_cons.mp h2 with h2 | h2
    · rw [← h1, h2]
    · have h3 := dsc_up hb hl m y y2 k h2
      rw [h1] at h3
      have h4 : p ∈ y :: dsc L m y := by
        have : (P x).toNat = p := by omega
        rw [this] at h3; exact h3
      rcases List.mem_cons.mp h4 with h5 | h5
      · omega
      · have := dsc_gt hb hl m y y2 p h5
        omega
    · have h3 := dsc_up hb hl m x x2 k h1
      rw [h2] at h3
      have h4 : p ∈ x :: dsc L m x := by
        have : (P y).toNat = p := by omega
        rw [this] at h3; exact h3
      rcases List.mem_cons.mp h4 with h5 | h5
      · omega
      · have := dsc_gt hb hl m x x2 p h5
        omega
    · have a := dsc_gt hb hl m x x2 k h1
      have c := (hb k (by omega) a.2).1
      exact ih (P k).toNat (by omega) (dsc_up hb hl m x x2 k h1) (dsc_up hb hl m y y2 k h2)
theorem dsc_nodup {n : Nat} {P M C N : Nat → Int} {L : Nat → List Nat} (hb : TTb n P M) (hl : TTl n P C N L) : ∀ m p, p ≤ n → (dsc L m p).Nodup := by
  intro m
  induction m with
  | zero => intro p _; exact List.nodup_nil
  | succ m ih =>
    intro p hp
    refine List.pairwise_flatMap.mpr ⟨fun x hx => ?_, ?_⟩
    · obtain ⟨x1, x2, x3⟩ := ((hl p hp).2.2 x).mp hx
      refine List.nodup_cons.mpr ⟨fun h => ?_, ih x x2⟩
      have := dsc_gt hb hl m x x2 x h
      omega
    · refine List.Pairwise.imp_of_mem ?_ (hl p hp).2.1
      intro x y hx hy hne a ha b hb' e
      subst e
      exact hne (dsc_one hb hl hp hx hy a ha hb')
theorem pig : ∀ (n : Nat) (l : List Nat), l.Nodup → (∀ k ∈ l, 1 ≤ k ∧ k ≤ n) → l.length ≤ n := by
  intro n
  induction n with
  | zero =>
    intro l _ h
    cases l with
    | nil => exact Nat.le_refl _
    | cons x l => have := h x List.mem_cons_self; omega
  | succ n ih =>
    intro l hnd h
    by_cases hm : n + 1 ∈ l
    · have h1 := ih (l.erase (n + 1)) (hnd.erase _) (fun k hk => by
        have h2 := (hnd.mem_erase_iff).mp hk
        have h3 := h k h2.2
        omega)
      rw [List.length_erase_of_mem hm] at h1
      have h4 : 0 < l.length := List.length_pos_of_mem hm
      omega
    · have h1 := ih l hnd (fun k hk => by
        have h2 := h k hk
        have : k ≠ n + 1 := fun e => hm (e ▸ hk)
        omega)
      omega
theorem dsc_len {n : Nat} {P M C N : Nat → Int} {L : Nat → List Nat} (hb : TTb n P M) (hl : TTl n P C N L) (m : Nat) : (dsc L m 0).length ≤ n := pig n _ (dsc_nodup hb hl m 0 (Nat.zero_le _)) (fun k hk => by
  have := dsc_gt hb hl m 0 (Nat.zero_le _) k hk
  omega)
