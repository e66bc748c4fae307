theorem TTl_app {n node : Nat} {P M C N P' C' N' : Nat → Int} {L : Nat → List Nat} (hb : TTb n P M) (hl : TTl n P C N L) (hnode : node ≤ n)
    (eP : ∀ j, j ≤ n → P' j = P j) (eP1 : P' (n + 1) = (node : Int))
    (eC : ∀ j, j ≤ n → j ≠ node → C' j = C j) (eC0 : L node ≠ [] → C' node = C node) (eC1 : L node = [] → C' node = ((n + 1 : Nat) : Int)) (eC2 : C' (n + 1) = -1)
    (eN : ∀ j, j ≤ n → (∀ h : L node ≠ [], j ≠ (L node).getLast h) → N' j = N j) (eN1 : ∀ h : L node ≠ [], N' ((L node).getLast h) = ((n + 1 : Nat) : Int)) (eN2 : N' (n + 1) = -1) : TTl (n + 1) P' C' N' (fun p => if p = node then L node ++ [n + 1] else if p = n + 1 then [] else L p) := by
  have hLn : ∀ p, p ≤ n → ∀ k ∈ L p, 1 ≤ k ∧ k ≤ n ∧ P k = (p : Int) := fun p hp k hk => ((hl p hp).2.2 k).mp hk
  intro p hp
  by_cases e : p = node
  · subst e
    obtain ⟨a, b, c⟩ := hl p hnode
    dsimp only
    rw [if_pos rfl]
    have hnm : n + 1 ∉ L p := fun h => by have := hLn p hnode _ h; omega
    refine ⟨?_, ?_, fun k => ?_⟩
    · by_cases h0 : L p = []
      · rw [h0, eC1 h0]
        exact ⟨rfl, eN2⟩
      · rw [eC0 h0]
        refine chn_snoc a h0 b hnm eN2 (eN1 h0) (fun j hj hne => eN j (hLn p hnode j hj).2.1 (fun _ => hne))
    · rw [List.nodup_append]
      refine ⟨b, by simp, fun x hx y hy => ?_⟩
      have : y = n + 1 := by simpa using hy
      subst this
      intro e; subst e; exact hnm hx
    · rw [List.mem_append, c k]
      constructor
      · intro h
        rcases h with h | h
        · exact ⟨h.1, by omega, by rw [eP k h.2.1]; exact h.2.2⟩
        · have : k = n + 1 := by simpa using h
          subst this; exact ⟨by omega, by omega, eP1⟩
      · intro h
        by_cases e : k = n + 1
        · right; simp [e]
        · left; exact ⟨h.1, by omega, by rw [← eP k (by omega)]; exact h.2.2⟩
  · dsimp only
    rw [if_neg e]
    by_cases e1 : p = n + 1
    · rw [if_pos e1]
      subst e1
      refine ⟨eC2, List.nodup_nil, fun k => ?_⟩
      constructor
      · intro h; cases h
      · intro h
        by_cases e2 : k = n + 1
        · subst e2; rw [eP1] at h; omega
        · have h3 := (hb k h.1 (by omega)).1
          rw [eP k (by omega)] at h
          omega
    · rw [if_neg e1]
      obtain ⟨a, b, c⟩ := hl p (by omega)
      refine ⟨?_, b, fun k => ?_⟩
      · rw [eC p (by omega) e]
        refine chn_congr (fun j hj => eN j (hLn p (by omega) j hj).2.1 (fun h he => ?_)) a
        have h4 := hLn p (by omega) j hj
        have h5 := hLn node hnode _ (List.getLast_mem h)
        rw [← he] at h5
        omega
      · rw [c k]
        constructor
        · intro h; exact ⟨h.1, by omega, by rw [eP k h.2.1]; exact h.2.2⟩
        · intro h
          by_cases e2 : k = n + 1
          · subst e2; rw [eP1] at h; omega
          · exact ⟨h.1, by omega, by rw [← eP k (by omega)]; exact h.2.2⟩
theorem TTl_lead {n u F H b : Nat} {l r : List Nat} {P C N C' N' : Nat → Int} {L : Nat → List Nat} (hl : TTl n P C N L) (hu : u ≤ n) (hL : L u = l ++ b :: H :: r) (hF : C u = (F : Int))
    (eC : ∀ j, j ≤ n → j ≠ u → C' j = C j) (eCu : C' u = (H : Int)) (eNb : N' b = N H) (eNH : N' H = (F : Int)) (eN : ∀ j, j ≤ n → j ≠ b → j ≠ H → N' j = N j) : TTl n P C' N' (fun p => if p = u then H :: (l ++ b :: r) else L p) := by
  have hc := (hl u hu).1
  have hnd := (hl u hu).2.1
  have hmem := (hl u hu).2.2
  rw [hL] at hc hnd hmem
  have hF' : (F : Nat) ∈ l ++ b :: H :: r ∧ (l ++ b :: r).head? = some F := by
    cases l with
    | nil => have := hc.1
             have e : F = b := by omega
             subst e; exact ⟨by simp, rfl⟩
    | cons x l => have := hc.1
                  have e : F = x := by omega
                  subst e; exact ⟨by simp, rfl⟩
  obtain ⟨f1, f2, f3⟩ := (hmem F).mp hF'.1
  obtain ⟨g1, g2, g3⟩ := (hmem H).mp (by simp)
  have hnd2 := List.nodup_append.mp hnd
  have hbH : b ≠ H := by
    intro e
    have := (List.nodup_cons.mp hnd2.2.1).1
    exact this (by rw [e]; exact List.mem_cons_self)
  have hHr : H ∉ r := (List.nodup_cons.mp (List.nodup_cons.mp hnd2.2.1).2).1
  have hHl : H ∉ l := fun h => hnd2.2.2 H h H (by simp) rfl
  have hbl : b ∉ l := fun h => hnd2.2.2 b h b (by simp) rfl
  have hbr : b ∉ r := fun h => (List.nodup_cons.mp hnd2.2.1).1 (List.mem_cons_of_mem _ h)
  have hFH : F ≠ H := by
    intro e
    cases l with
    | nil => have := hc.1
             exact hbH (by omega)
    | cons x l => have := hc.1
                  have e1 : x = H := by omega
                  exact hHl (by rw [e1]; exact List.mem_cons_self)
  have hbn : b ≤ n := ((hmem b).mp (by simp)).2.1
  have hln : ∀ j ∈ l, j ≤ n := fun j hj => ((hmem j).mp (by simp [hj])).2.1
  have hrn : ∀ j ∈ r, j ≤ n := fun j hj => ((hmem j).mp (by simp [hj])).2.1
  intro p hp
  dsimp only
  by_cases e : p = u
  · subst e
    rw [if_pos rfl]
    refine ⟨⟨eCu, ?_⟩, ?_, fun k => ?_⟩
    · rw [eNH]
      have h5 : chn N (l ++ b :: H :: r) (F : Int) := by rw [← hF]; exact hc
      exact chn_del eNb (fun j hj => eN j (hrn j hj) (fun e => hbr (e ▸ hj)) (fun e => hHr (e ▸ hj))) l _ (fun j hj => eN j (hln j hj) (fun e => hbl (e ▸ hj)) (fun e => hHl (e ▸ hj))) h5
    · refine List.nodup_cons.mpr ⟨by simp [hHl, hHr, Ne.symm hbH], ?_⟩
      refine List.nodup_append.mpr ⟨hnd2.1, List.nodup_cons.mpr ⟨hbr, (List.nodup_cons.mp (List.nodup_cons.mp hnd2.2.1).2).2⟩, fun x hx y hy => hnd2.2.2 x hx y ?_⟩
      rcases List.mem_cons.mp hy with h | h
      · rw [h]; exact List.mem_cons_self
      · exact List.mem_cons_of_mem _ (List.mem_cons_of_mem _ h)
    · rw [← hmem k]
      simp only [List.mem_cons, List.mem_append]
      constructor
      · intro h; rcases h with h | h | h | h
        · exact Or.inr (Or.inr (Or.inl h))
        · exact Or.inl h
        · exact Or.inr (Or.inl h)
        · exact Or.inr (Or.inr (Or.inr h))
      · intro h; rcases h with h | h | h | h
        · exact Or.inr (Or.inl h)
        · exact Or.inr (Or.inr (Or.inl h))
        · exact Or.inl h
        · exact Or.inr (Or.inr (Or.inr h))
  · rw [if_neg e]
    obtain ⟨a, c, d⟩ := hl p hp
    refine ⟨?_, c, d⟩
    rw [eC p hp e]
    refine chn_congr (fun j hj => ?_) a
    have h6 := (d j).mp hj
    have h7 := (hmem b).mp (by simp)
    exact eN j h6.2.1 (fun e1 => by subst e1; omega) (fun e1 => by subst e1; omega)
