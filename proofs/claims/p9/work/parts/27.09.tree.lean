def aP (A : Nat → Nat → Int32) (g k : Nat) : Int := (A 8 (301 * g + k)).toInt
def aM (A : Nat → Nat → Int32) (g k : Nat) : Int := (A 9 (301 * g + k)).toInt
def aC (A : Nat → Nat → Int32) (g k : Nat) : Int := (A 10 (301 * g + k)).toInt
def aN (A : Nat → Nat → Int32) (g k : Nat) : Int := (A 11 (301 * g + k)).toInt
def aK (A : Nat → Nat → Int32) (g : Nat) : Nat := (A 7 g).toInt.toNat
/-- a row of nodes: v names its first one, N the next -/
def chn (N : Nat → Int) : List Nat → Int → Prop
  | [], v => v = -1
  | k :: l, v => v = (k : Int) ∧ chn N l (N k)
def TTl (n : Nat) (P C N : Nat → Int) (L : Nat → List Nat) : Prop := ∀ p, p ≤ n → chn N (L p) (C p) ∧ (L p).Nodup ∧ ∀ k, k ∈ L p ↔ (1 ≤ k ∧ k ≤ n ∧ P k = (p : Int))
def TTd (n : Nat) (P C : Nat → Int) (D : Nat → Nat) : Prop := D 0 = 0 ∧ (∀ k, 1 ≤ k → k ≤ n → D k = D (P k).toNat + (if C (P k).toNat = (k : Int) then 0 else 1)) ∧ ∀ k, k ≤ n → D k ≤ 6
def TTb (n : Nat) (P M : Nat → Int) : Prop := ∀ k, 1 ≤ k → k ≤ n → (0 ≤ P k ∧ P k < (k : Int)) ∧ 0 ≤ M k
def TT (n : Nat) (P M C N : Nat → Int) : Prop := TTb n P M ∧ ∃ (L : Nat → List Nat) (D : Nat → Nat), TTl n P C N L ∧ TTd n P C D
theorem chn_congr {N N' : Nat → Int} : ∀ {l : List Nat} {v : Int}, (∀ k ∈ l, N' k = N k) → chn N l v → chn N' l v
  | [], _, _, h => h
  | k :: l, v, hk, h => ⟨h.1, by
      have h1 := h.2
      rw [← hk k (List.mem_cons_self)] at h1
      exact chn_congr (fun j hj => hk j (List.mem_cons_of_mem _ hj)) h1⟩
theorem TT_congr {n : Nat} {P M C N P' M' C' N' : Nat → Int} (h : TT n P M C N) (e : ∀ k, k ≤ n → P' k = P k ∧ M' k = M k ∧ C' k = C k ∧ N' k = N k) : TT n P' M' C' N' := by
  obtain ⟨hb, L, D, hl, hd⟩ := h
  refine ⟨fun k h1 h2 => ?_, L, D, fun p hp => ?_, hd.1, fun k h1 h2 => ?_, hd.2.2⟩
  · rw [(e k h2).1, (e k h2).2.1]; exact hb k h1 h2
  · obtain ⟨a, b, c⟩ := hl p hp
    refine ⟨?_, b, fun k => ?_⟩
    · rw [(e p hp).2.2.1]
      exact chn_congr (fun k hk => (e k ((c k).mp hk).2.1).2.2.2) a
    · rw [c k]
      constructor
      · intro h; exact ⟨h.1, h.2.1, by rw [(e k h.2.1).1]; exact h.2.2⟩
      · intro h; exact ⟨h.1, h.2.1, by rw [← (e k h.2.1).1]; exact h.2.2⟩
  · have h3 := (hb k h1 h2).1
    rw [(e k h2).1, (e (P k).toNat (by omega)).2.2.1]
    exact hd.2.1 k h1 h2
theorem TT_nil {P M C N : Nat → Int} (h : C 0 = -1) : TT 0 P M C N := by
  refine ⟨fun k h1 h2 => by omega, fun _ => [], fun _ => 0, fun p hp => ⟨?_, List.nodup_nil, fun k => ?_⟩, rfl, fun k h1 h2 => by omega, fun k _ => Nat.zero_le _⟩
  · have : p = 0 := by omega
    subst this; exact h
  · constructor
    · intro h; cases h
    · intro h; omega
theorem chn_nn {N : Nat → Int} {l : List Nat} {v : Int} (h : chn N l v) : v = -1 ∨ 0 ≤ v := by
  cases l with
  | nil => exact Or.inl h
  | cons k l => right; rw [h.1]; exact Int.natCast_nonneg k
theorem chn_nil {N : Nat → Int} {l : List Nat} {v : Int} (h : chn N l v) (hv : v < 0) : l = [] := by
  cases l with
  | nil => rfl
  | cons k l => have := h.1; omega
theorem chn_snoc {N N' : Nat → Int} {k : Nat} : ∀ {l : List Nat} {v : Int}, chn N l v → (hl : l ≠ []) → l.Nodup → k ∉ l → N' k = -1 → N' (l.getLast hl) = (k : Int) → (∀ j ∈ l, j ≠ l.getLast hl → N' j = N j) → chn N' (l ++ [k]) v
  | [a], v, h, _, _, _, hk, hlast, _ => ⟨h.1, by
      have : N' a = (k : Int) := hlast
      exact ⟨this, hk⟩⟩
  | a :: b :: l, v, h, _, hnd, hkl, hk, hlast, ho => by
      have hab : a ≠ (b :: l).getLast (by simp) := by
        intro e
        have : a ∈ b :: l := by rw [e]; exact List.getLast_mem _
        exact (List.nodup_cons.mp hnd).1 this
      refine ⟨h.1, ?_⟩
      have e1 : N' a = N a := ho a List.mem_cons_self (by rw [List.getLast_cons (by simp)]; exact hab)
      show chn N' (b :: l ++ [k]) (N' a)
      rw [e1]
      refine chn_snoc h.2 (by simp) (List.nodup_cons.mp hnd).2 (fun hm => hkl (List.mem_cons_of_mem _ hm)) hk ?_ ?_
      · rw [List.getLast_cons (by simp)] at hlast; exact hlast
      · intro j hj hne
        exact ho j (List.mem_cons_of_mem _ hj) (by rw [List.getLast_cons (by simp)]; exact hne)
/-- a new node at the end of its parent's row -/
theorem TT_app {n node : Nat} {P M C N P' M' C' N' : Nat → Int} {L : Nat → List Nat} {D : Nat → Nat} (hb : TTb n P M) (hl : TTl n P C N L) (hd : TTd n P C D) (hnode : node ≤ n) (hdeep : D node + (if L node = [] then 0 else 1) ≤ 6)
    (eP : ∀ j, j ≤ n → P' j = P j) (eP1 : P' (n + 1) = (node : Int)) (eM : ∀ j, j ≤ n → M' j = M j) (eM1 : 0 ≤ M' (n + 1))
    (eC : ∀ j, j ≤ n → j ≠ node → C' j = C j) (eC0 : L node ≠ [] → C' node = C node) (eC1 : L node = [] → C' node = ((n + 1 : Nat) : Int)) (eC2 : C' (n + 1) = -1)
    (eN : ∀ j, j ≤ n → (∀ h : L node ≠ [], j ≠ (L node).getLast h) → N' j = N j) (eN1 : ∀ h : L node ≠ [], N' ((L node).getLast h) = ((n + 1 : Nat) : Int)) (eN2 : N' (n + 1) = -1) : TT (n + 1) P' M' C' N' := by
  have hLn : ∀ p, p ≤ n → ∀ k ∈ L p, 1 ≤ k ∧ k ≤ n ∧ P k = (p : Int) := fun p hp k hk => ((hl p hp).2.2 k).mp hk
  refine ⟨fun k h1 h2 => ?_, fun p => if p = node then L node ++ [n + 1] else if p = n + 1 then [] else L p, fun j => if j = n + 1 then D node + (if L node = [] then 0 else 1) else D j, fun p hp => ?_, ?_, fun k h1 h2 => ?_, fun k hk => ?_⟩
  · by_cases e : k = n + 1
    · subst e; rw [eP1]; exact ⟨by omega, eM1⟩
    · rw [eP k (by omega), eM k (by omega)]; exact hb k h1 (by omega)
  · by_cases e : p = node
    · subst e
      obtain ⟨a, b, c⟩ := hl p hnode
      dsimp only
      rw [if_pos rfl]
      have hnm : n + 1 ∉ L p := fun h => by have := hLn p hnode _ h; omega
      refine ⟨?_, ?_, fun k => ?_⟩
      · by_cases h0 : L p = []
        · rw [h0, eC1 h0]
          exact ⟨rfl, eN2⟩
        · rw [eC0 h0]
          refine chn_snoc a h0 b hnm eN2 (eN1 h0) (fun j hj hne => eN j (hLn p hnode j hj).2.1 (fun _ => hne))
      · rw [List.nodup_append]
        refine ⟨b, by simp, fun x hx y hy => ?_⟩
        have : y = n + 1 := by simpa using hy
        subst this
        intro e; subst e; exact hnm hx
      · rw [List.mem_append, c k]
        constructor
        · intro h
          rcases h with h | h
          · exact ⟨h.1, by omega, by rw [eP k h.2.1]; exact h.2.2⟩
          · have : k = n + 1 := by simpa using h
            subst this; exact ⟨by omega, by omega, eP1⟩
        · intro h
          by_cases e : k = n + 1
          · right; simp [e]
          · left; exact ⟨h.1, by omega, by rw [← eP k (by omega)]; exact h.2.2⟩
    · dsimp only
      rw [if_neg e]
      by_cases e1 : p = n + 1
      · rw [if_pos e1]
        subst e1
        refine ⟨eC2, List.nodup_nil, fun k => ?_⟩
        constructor
        · intro h; cases h
        · intro h
          by_cases e2 : k = n + 1
          · subst e2; rw [eP1] at h; omega
          · have h3 := (hb k h.1 (by omega)).1
            rw [eP k (by omega)] at h
            omega
      · rw [if_neg e1]
        obtain ⟨a, b, c⟩ := hl p (by omega)
        refine ⟨?_, b, fun k => ?_⟩
        · rw [eC p (by omega) e]
          refine chn_congr (fun j hj => eN j (hLn p (by omega) j hj).2.1 (fun h he => ?_)) a
          have h4 := hLn p (by omega) j hj
          have h5 := hLn node hnode _ (List.getLast_mem h)
          rw [← he] at h5
          omega
        · rw [c k]
          constructor
          · intro h; exact ⟨h.1, by omega, by rw [eP k h.2.1]; exact h.2.2⟩
          · intro h
            by_cases e2 : k = n + 1
            · subst e2; rw [eP1] at h; omega
            · exact ⟨h.1, by omega, by rw [← eP k (by omega)]; exact h.2.2⟩
  · show (if 0 = n + 1 then _ else D 0) = 0
    rw [if_neg (by omega)]; exact hd.1
  · have hCn : L node ≠ [] → C node ≠ ((n + 1 : Nat) : Int) := fun h0 he => by
      obtain ⟨a, b, c⟩ := hl node hnode
      cases hL : L node with
      | nil => exact h0 hL
      | cons x l =>
        rw [hL] at a
        have h1 := a.1
        have h2 := hLn node hnode x (by rw [hL]; exact List.mem_cons_self)
        omega
    by_cases e : k = n + 1
    · subst e
      have e3 : (P' (n + 1)).toNat = node := by rw [eP1]; exact Int.toNat_natCast node
      rw [e3]
      show (if n + 1 = n + 1 then _ else _) = (if node = n + 1 then _ else D node) + _
      rw [if_pos rfl, if_neg (show ¬ node = n + 1 by omega)]
      by_cases h0 : L node = []
      · rw [if_pos h0, if_pos (eC1 h0)]
      · rw [if_neg h0, if_neg (by rw [eC0 h0]; exact hCn h0)]
    · have h3 := (hb k h1 (by omega)).1
      show (if k = n + 1 then _ else D k) = (if (P' k).toNat = n + 1 then _ else D (P' k).toNat) + _
      rw [if_neg e, eP k (by omega), if_neg (show ¬ (P k).toNat = n + 1 by omega), hd.2.1 k h1 (by omega)]
      congr 1
      by_cases e4 : (P k).toNat = node
      · rw [e4]
        have hmem : k ∈ L node := ((hl node hnode).2.2 k).mpr ⟨h1, by omega, by omega⟩
        have h0 : L node ≠ [] := fun h => by rw [h] at hmem; cases hmem
        rw [eC0 h0]
      · rw [eC _ (by omega) e4]
  · show (if k = n + 1 then _ else D k) ≤ 6
    by_cases e : k = n + 1
    · rw [if_pos e]; exact hdeep
    · rw [if_neg e]; exact hd.2.2 k (by omega)
