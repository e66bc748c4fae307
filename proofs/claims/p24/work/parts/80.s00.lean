section
noncomputable def stp (s f r : Int) : Int := if 0 ≤ s % 8 + f ∧ s % 8 + f < 8 ∧ 0 ≤ s / 8 + r ∧ s / 8 + r < 8 then 8 * (s / 8 + r) + (s % 8 + f) else -1
noncomputable def mR (A : Nat → Nat → Int32) (s : Int) : Int := if 0 ≤ s ∧ s < 64 then (A 24 s.toNat).toInt else 0
noncomputable def mCb (S : ZS) (b : Nat) (s : Int) : Int := if 0 ≤ s ∧ s < 64 then (match zP S 0 b with | some c => (zA S c s.toNat).toInt | none => 0) else 0
noncomputable def MBd (m : Int → Int) : Prop := ∀ s, 0 ≤ m s ∧ m s ≤ 14 ∧ m s ≠ 7 ∧ m s ≠ 8
noncomputable def sg (x : Int) : Int := if 0 < x then 1 else if x < 0 then -1 else 0
noncomputable def nst (x y : Int) : Int := if x ≤ y ∧ -x ≤ y ∨ x ≤ -y ∧ -x ≤ -y then (if 0 ≤ y then y else -y) else (if 0 ≤ x then x else -x)
noncomputable def clr (m : Int → Int) (a x y : Int) : Prop := ∀ j : Int, 1 ≤ j → j < nst x y → m (a + j * (sg x + 8 * sg y)) = 0
noncomputable def lin (k x y : Int) : Prop := (x ≠ 0 ∨ y ≠ 0) ∧ (((x = 0 ∨ y = 0) ∧ (k = 4 ∨ k = 5)) ∨ (x ≠ 0 ∧ y ≠ 0 ∧ (x = y ∨ x = -y) ∧ (k = 3 ∨ k = 5)))
noncomputable def kni (x y : Int) : Prop := ((x = 1 ∨ x = -1) ∧ (y = 2 ∨ y = -2)) ∨ ((x = 2 ∨ x = -2) ∧ (y = 1 ∨ y = -1))
noncomputable def kin (x y : Int) : Prop := -1 ≤ x ∧ x ≤ 1 ∧ -1 ≤ y ∧ y ≤ 1 ∧ (x ≠ 0 ∨ y ≠ 0)
noncomputable def paw (v x y : Int) : Prop := (x = 1 ∨ x = -1) ∧ ((v < 8 ∧ y = 1) ∨ (8 ≤ v ∧ y = -1))
noncomputable def attk (m : Int → Int) (a b : Int) : Prop := (m a % 8 = 1 ∧ paw (m a) (b % 8 - a % 8) (b / 8 - a / 8)) ∨ (m a % 8 = 2 ∧ kni (b % 8 - a % 8) (b / 8 - a / 8)) ∨ (m a % 8 = 6 ∧ kin (b % 8 - a % 8) (b / 8 - a / 8)) ∨ (lin (m a % 8) (b % 8 - a % 8) (b / 8 - a / 8) ∧ clr m a (b % 8 - a % 8) (b / 8 - a / 8))
noncomputable def attd (m : Int → Int) (b w : Int) : Prop := ∃ a : Int, 0 ≤ a ∧ a < 64 ∧ m a ≠ 0 ∧ m a / 8 = w ∧ attk m a b
noncomputable def onr (s f r n : Int) : Prop := 0 ≤ s % 8 + n * f ∧ s % 8 + n * f < 8 ∧ 0 ≤ s / 8 + n * r ∧ s / 8 + n * r < 8
theorem dir9 {f r : Int} (h : kin f r) {P : Int → Int → Prop} (h1 : P (-1) (-1)) (h2 : P (-1) 0) (h3 : P (-1) 1) (h4 : P 0 (-1)) (h5 : P 0 1) (h6 : P 1 (-1)) (h7 : P 1 0) (h8 : P 1 1) : P f r := by
  obtain ⟨a1, a2, a3, a4, a5⟩ := h
  have hf : f = -1 ∨ f = 0 ∨ f = 1 := by omega
  have hr : r = -1 ∨ r = 0 ∨ r = 1 := by omega
  rcases hf with e | e | e <;> rcases hr with e2 | e2 | e2 <;> subst e <;> subst e2
  · exact h1
  · exact h2
  · exact h3
  · exact h4
  · omega
  · exact h5
  · exact h6
  · exact h7
  · exact h8
theorem onr_le {s f r n k : Int} (hs : 0 ≤ s ∧ s < 64) (hd : kin f r) (h : onr s f r n) (hk : 0 ≤ k) (hkn : k ≤ n) : onr s f r k := by
  revert h
  refine dir9 hd (P := fun f r => onr s f r n → onr s f r k) ?_ ?_ ?_ ?_ ?_ ?_ ?_ ?_ <;> (unfold onr; omega)
theorem onr_sq {s f r n : Int} (hs : 0 ≤ s ∧ s < 64) (hd : kin f r) (h : onr s f r n) : 0 ≤ s + n * (f + 8 * r) ∧ s + n * (f + 8 * r) < 64 ∧ (s + n * (f + 8 * r)) % 8 = s % 8 + n * f ∧ (s + n * (f + 8 * r)) / 8 = s / 8 + n * r := by
  revert h
  refine dir9 hd (P := fun f r => onr s f r n → 0 ≤ s + n * (f + 8 * r) ∧ s + n * (f + 8 * r) < 64 ∧ (s + n * (f + 8 * r)) % 8 = s % 8 + n * f ∧ (s + n * (f + 8 * r)) / 8 = s / 8 + n * r) ?_ ?_ ?_ ?_ ?_ ?_ ?_ ?_ <;> (unfold onr; omega)
noncomputable def SQ (s f r t : Int) : Prop := (0 ≤ s % 8 + f ∧ s % 8 + f < 8 ∧ 0 ≤ s / 8 + r ∧ s / 8 + r < 8 ∧ t = 8 * (s / 8 + r) + (s % 8 + f)) ∨ (t = -1 ∧ (s % 8 + f < 0 ∨ 8 ≤ s % 8 + f ∨ s / 8 + r < 0 ∨ 8 ≤ s / 8 + r))
theorem stp_of {s f r t : Int} (h : SQ s f r t) : t = stp s f r := by
  unfold SQ at h
  unfold stp
  split <;> omega
noncomputable def pr8 (m : Int → Int) (q f r s : Int) : Prop := ∃ n : Int, 1 ≤ n ∧ ((onr q f r n ∧ s = q + n * (f + 8 * r)) ∨ (¬ onr q f r n ∧ s = -1)) ∧ ∀ j, 1 ≤ j → j < n → m (q + j * (f + 8 * r)) = 0
noncomputable def metS (m : Int → Int) (q f r v : Int) : Prop := (v ≠ 0 ∧ ∃ n : Int, 1 ≤ n ∧ onr q f r n ∧ m (q + n * (f + 8 * r)) = v ∧ ∀ j, 1 ≤ j → j < n → m (q + j * (f + 8 * r)) = 0) ∨ (v = 0 ∧ ∀ n : Int, 1 ≤ n → onr q f r n → m (q + n * (f + 8 * r)) = 0)
theorem pr8_0 {m : Int → Int} {q f r s : Int} (hq : 0 ≤ q ∧ q < 64) (hd : kin f r) (h : SQ q f r s) : pr8 m q f r s := by
  refine ⟨1, by omega, ?_, fun j a b => by omega⟩
  unfold SQ at h
  revert h
  refine dir9 hd (P := fun f r => (0 ≤ q % 8 + f ∧ q % 8 + f < 8 ∧ 0 ≤ q / 8 + r ∧ q / 8 + r < 8 ∧ s = 8 * (q / 8 + r) + (q % 8 + f)) ∨ (s = -1 ∧ (q % 8 + f < 0 ∨ 8 ≤ q % 8 + f ∨ q / 8 + r < 0 ∨ 8 ≤ q / 8 + r)) → (onr q f r 1 ∧ s = q + 1 * (f + 8 * r)) ∨ (¬ onr q f r 1 ∧ s = -1)) ?_ ?_ ?_ ?_ ?_ ?_ ?_ ?_ <;> (unfold onr; omega)
theorem pr8_s {m : Int → Int} {q f r s t : Int} (hq : 0 ≤ q ∧ q < 64) (hd : kin f r) (h : pr8 m q f r s) (h0 : 0 ≤ s) (hm : m s = 0) (hs : SQ s f r t) : pr8 m q f r t := by
  obtain ⟨n, n1, n2, n3⟩ := h
  have n4 : onr q f r n ∧ s = q + n * (f + 8 * r) := by
    rcases n2 with h | h
    · exact h
    · omega
  obtain ⟨o1, o2⟩ := n4
  obtain ⟨p1, p2, p3, p4⟩ := onr_sq hq hd o1
  refine ⟨n + 1, by omega, ?_, fun j a b => ?_⟩
  · unfold SQ at hs
    rw [o2, p3, p4] at hs
    clear hm n3 o2 p1 p2 p3 p4
    revert hs
    revert o1
    refine dir9 hd (P := fun f r => onr q f r n → (0 ≤ q % 8 + n * f + f ∧ q % 8 + n * f + f < 8 ∧ 0 ≤ q / 8 + n * r + r ∧ q / 8 + n * r + r < 8 ∧ t = 8 * (q / 8 + n * r + r) + (q % 8 + n * f + f)) ∨ (t = -1 ∧ (q % 8 + n * f + f < 0 ∨ 8 ≤ q % 8 + n * f + f ∨ q / 8 + n * r + r < 0 ∨ 8 ≤ q / 8 + n * r + r)) → (onr q f r (n + 1) ∧ t = q + (n + 1) * (f + 8 * r)) ∨ (¬ onr q f r (n + 1) ∧ t = -1)) ?_ ?_ ?_ ?_ ?_ ?_ ?_ ?_ <;> (unfold onr; omega)
  · by_cases e : j = n
    · rw [e, ← o2]; exact hm
    · exact n3 j a (by omega)
theorem pr8_off {m : Int → Int} {q f r s : Int} (hq : 0 ≤ q ∧ q < 64) (hd : kin f r) (h : pr8 m q f r s) (h0 : s < 0) : metS m q f r 0 := by
  obtain ⟨n, n1, n2, n3⟩ := h
  refine Or.inr ⟨rfl, fun k k1 k2 => ?_⟩
  rcases n2 with ⟨o1, o2⟩ | ⟨o1, o2⟩
  · have := (onr_sq hq hd o1).1
    omega
  · by_cases e : k < n
    · exact n3 k k1 e
    · exact absurd (onr_le hq hd k2 (by omega) (by omega)) o1
theorem pr8_hit {m : Int → Int} {q f r s : Int} (h : pr8 m q f r s) (h0 : 0 ≤ s) (hm : m s ≠ 0) : metS m q f r (m s) := by
  obtain ⟨n, n1, n2, n3⟩ := h
  rcases n2 with ⟨o1, o2⟩ | ⟨o1, o2⟩
  · exact Or.inl ⟨hm, n, n1, o1, by rw [← o2], n3⟩
  · omega
noncomputable def hK (m : Int → Int) (q w f r : Int) : Prop := kni f r ∧ 0 ≤ stp q f r ∧ m (stp q f r) = 2 + w
noncomputable def hG (m : Int → Int) (q w f r : Int) : Prop := kin f r ∧ 0 ≤ stp q f r ∧ m (stp q f r) = 6 + w
noncomputable def hL (m : Int → Int) (q w f r : Int) : Prop := kin f r ∧ ∃ v, metS m q f r v ∧ (v = 5 + w ∨ ((f = 0 ∨ r = 0) ∧ v = 4 + w) ∨ (f ≠ 0 ∧ r ≠ 0 ∧ v = 3 + w))
noncomputable def hitR (m : Int → Int) (q w f r : Int) : Prop := hK m q w f r ∨ hG m q w f r ∨ hL m q w f r
noncomputable def pwR (m : Int → Int) (q b : Int) : Prop := (0 ≤ stp q (-1) (if b = 0 then -1 else 1) ∧ m (stp q (-1) (if b = 0 then -1 else 1)) = 1 + 8 * b) ∨ (0 ≤ stp q 1 (if b = 0 then -1 else 1) ∧ m (stp q 1 (if b = 0 then -1 else 1)) = 1 + 8 * b)
noncomputable def attR (m : Int → Int) (q b : Int) : Prop := pwR m q b ∨ ∃ f r : Int, -2 ≤ f ∧ f ≤ 2 ∧ -2 ≤ r ∧ r ≤ 2 ∧ hitR m q (8 * b) f r
theorem stp_in {q f r : Int} (h : 0 ≤ stp q f r) : 0 ≤ q % 8 + f ∧ q % 8 + f < 8 ∧ 0 ≤ q / 8 + r ∧ q / 8 + r < 8 ∧ stp q f r = 8 * (q / 8 + r) + (q % 8 + f) := by
  unfold stp at h ⊢
  split at h
  · rename_i c
    rw [if_pos c]
    omega
  · omega
theorem stp_to {q a : Int} (hq : 0 ≤ q ∧ q < 64) (ha : 0 ≤ a ∧ a < 64) : stp q (a % 8 - q % 8) (a / 8 - q / 8) = a := by
  unfold stp
  rw [if_pos (by omega)]
  omega
theorem sg_n {x n f : Int} (hn : 1 ≤ n) (hf : f = -1 ∨ f = 0 ∨ f = 1) : sg (x - (x + n * f)) = -f := by
  unfold sg
  rcases hf with e | e | e <;> subst e
  · rw [if_pos (by omega)]; rfl
  · rw [if_neg (by omega), if_neg (by omega)]; rfl
  · rw [if_neg (by omega), if_pos (by omega)]
theorem att_mp {m : Int → Int} {q b : Int} (hb : b = 0 ∨ b = 1) (hq : 0 ≤ q ∧ q < 64) (h : attR m q b) : attd m q b := by
  rcases h with h | ⟨f, r, f1, f2, r1, r2, h⟩
  · unfold pwR at h
    rcases hb with e | e
    · subst e
      rw [if_pos rfl] at h
      rcases h with ⟨h1, h2⟩ | ⟨h1, h2⟩
      · have := stp_in h1
        refine ⟨_, h1, by omega, by omega, by omega, Or.inl ⟨by omega, ?_⟩⟩
        rw [h2]
        unfold paw
        omega
      · have := stp_in h1
        refine ⟨_, h1, by omega, by omega, by omega, Or.inl ⟨by omega, ?_⟩⟩
        rw [h2]
        unfold paw
        omega
    · subst e
      rw [if_neg (by decide)] at h
      rcases h with ⟨h1, h2⟩ | ⟨h1, h2⟩
      · have := stp_in h1
        refine ⟨_, h1, by omega, by omega, by omega, Or.inl ⟨by omega, ?_⟩⟩
        rw [h2]
        unfold paw
        omega
      · have := stp_in h1
        refine ⟨_, h1, by omega, by omega, by omega, Or.inl ⟨by omega, ?_⟩⟩
        rw [h2]
        unfold paw
        omega
  · rcases h with ⟨h1, h2, h3⟩ | ⟨h1, h2, h3⟩ | ⟨h1, v, h2, h3⟩
    · have := stp_in h2
      refine ⟨_, h2, by omega, by omega, by omega, Or.inr (Or.inl ⟨by omega, ?_⟩)⟩
      unfold kni at h1 ⊢
      omega
    · have := stp_in h2
      refine ⟨_, h2, by omega, by omega, by omega, Or.inr (Or.inr (Or.inl ⟨by omega, ?_⟩))⟩
      unfold kin at h1 ⊢
      omega
    · rcases h2 with ⟨v0, n, n1, n2, n3, n4⟩ | ⟨v0, n2⟩
      · obtain ⟨p1, p2, p3, p4⟩ := onr_sq hq h1 n2
        refine ⟨q + n * (f + 8 * r), p1, p2, by omega, by rw [n3]; omega, Or.inr (Or.inr (Or.inr ⟨?_, ?_⟩))⟩
        · rw [n3, p3, p4]
          revert h3
          refine dir9 h1 (P := fun f r => v = 5 + 8 * b ∨ (f = 0 ∨ r = 0) ∧ v = 4 + 8 * b ∨ f ≠ 0 ∧ r ≠ 0 ∧ v = 3 + 8 * b → lin (v % 8) (q % 8 - (q % 8 + n * f)) (q / 8 - (q / 8 + n * r))) ?_ ?_ ?_ ?_ ?_ ?_ ?_ ?_ <;> (intro h3; unfold lin; omega)
        · rw [p3, p4]
          intro j j1 j2
          have e : m (q + n * (f + 8 * r) + j * (sg (q % 8 - (q % 8 + n * f)) + 8 * sg (q / 8 - (q / 8 + n * r)))) = m (q + (n - j) * (f + 8 * r)) ∧ j < n := by
            rw [sg_n (x := q % 8) n1 (by unfold kin at h1; omega), sg_n (x := q / 8) n1 (by unfold kin at h1; omega)]
            revert j2
            refine dir9 h1 (P := fun f r => j < nst (q % 8 - (q % 8 + n * f)) (q / 8 - (q / 8 + n * r)) → m (q + n * (f + 8 * r) + j * (-f + 8 * (-r))) = m (q + (n - j) * (f + 8 * r)) ∧ j < n) ?_ ?_ ?_ ?_ ?_ ?_ ?_ ?_ <;>
            · intro j2
              unfold nst at j2
              exact ⟨congrArg m (by omega), by omega⟩
          rw [e.1]
          exact n4 _ (by omega) (by omega)
      · omega
theorem att_mr {m : Int → Int} {q b : Int} (hm : MBd m) (hb : b = 0 ∨ b = 1) (hq : 0 ≤ q ∧ q < 64) (h : attd m q b) : attR m q b := by
  obtain ⟨a, a1, a2, a3, a4, h⟩ := h
  have hma := hm a
  have st := stp_to hq ⟨a1, a2⟩
  rcases h with ⟨h1, h2⟩ | ⟨h1, h2⟩ | ⟨h1, h2⟩ | ⟨h1, h2⟩
  · refine Or.inl ?_
    unfold paw at h2
    have hx : a % 8 - q % 8 = -1 ∨ a % 8 - q % 8 = 1 := by omega
    have hy : a / 8 - q / 8 = if b = 0 then -1 else 1 := by
      split <;> omega
    rcases hx with hx | hx
    · rw [hx, hy] at st
      refine Or.inl ?_
      rw [st]
      omega
    · rw [hx, hy] at st
      refine Or.inr ?_
      rw [st]
      omega
  · refine Or.inr ⟨a % 8 - q % 8, a / 8 - q / 8, ?_, ?_, ?_, ?_, Or.inl ⟨?_, ?_, ?_⟩⟩ <;> (try rw [st]) <;> unfold kni at * <;> omega
  · refine Or.inr ⟨a % 8 - q % 8, a / 8 - q / 8, ?_, ?_, ?_, ?_, Or.inr (Or.inl ⟨?_, ?_, ?_⟩)⟩ <;> (try rw [st]) <;> unfold kin at * <;> omega
  · have k1 : kin (sg (a % 8 - q % 8)) (sg (a / 8 - q / 8)) := by
      unfold lin at h1
      unfold kin sg
      omega
    have hn : onr q (sg (a % 8 - q % 8)) (sg (a / 8 - q / 8)) (nst (q % 8 - a % 8) (q / 8 - a / 8)) ∧ q + nst (q % 8 - a % 8) (q / 8 - a / 8) * (sg (a % 8 - q % 8) + 8 * sg (a / 8 - q / 8)) = a ∧ 1 ≤ nst (q % 8 - a % 8) (q / 8 - a / 8) := by
      have key : ∀ n : Int, n = nst (q % 8 - a % 8) (q / 8 - a / 8) → onr q (sg (a % 8 - q % 8)) (sg (a / 8 - q / 8)) n ∧ q + n * (sg (a % 8 - q % 8) + 8 * sg (a / 8 - q / 8)) = a ∧ 1 ≤ n := by
        intro n hn
        unfold lin at h1
        unfold nst at hn
        generalize hf : sg (a % 8 - q % 8) = f at *
        generalize hr : sg (a / 8 - q / 8) = r at *
        unfold sg at hf hr
        revert hf hr
        refine dir9 k1 (P := fun f r => (if 0 < a % 8 - q % 8 then 1 else if a % 8 - q % 8 < 0 then -1 else 0) = f → (if 0 < a / 8 - q / 8 then 1 else if a / 8 - q / 8 < 0 then -1 else 0) = r → onr q f r n ∧ q + n * (f + 8 * r) = a ∧ 1 ≤ n) ?_ ?_ ?_ ?_ ?_ ?_ ?_ ?_ <;> (intro hf hr; unfold onr; omega)
      exact key _ rfl
    obtain ⟨g1, g2, g3⟩ := hn
    refine Or.inr ⟨sg (a % 8 - q % 8), sg (a / 8 - q / 8), ?_, ?_, ?_, ?_, Or.inr (Or.inr ⟨k1, m a, Or.inl ⟨a3, nst (q % 8 - a % 8) (q / 8 - a / 8), g3, g1, by rw [g2], fun j j1 j2 => ?_⟩, ?_⟩)⟩
    · unfold sg; omega
    · unfold sg; omega
    · unfold sg; omega
    · unfold sg; omega
    · have z := h2 (nst (q % 8 - a % 8) (q / 8 - a / 8) - j) (by omega) (by omega)
      rw [← z]
      refine congrArg m ?_
      generalize hn : nst (q % 8 - a % 8) (q / 8 - a / 8) = n at *
      have s1 : sg (q % 8 - a % 8) = - sg (a % 8 - q % 8) := by unfold sg; omega
      have s2 : sg (q / 8 - a / 8) = - sg (a / 8 - q / 8) := by unfold sg; omega
      rw [s1, s2]
      clear z h2 s1 s2 hn j2
      generalize sg (a % 8 - q % 8) = f at *
      generalize sg (a / 8 - q / 8) = r at *
      revert g2
      refine dir9 k1 (P := fun f r => q + n * (f + 8 * r) = a → q + j * (f + 8 * r) = a + (n - j) * (-f + 8 * -r)) ?_ ?_ ?_ ?_ ?_ ?_ ?_ ?_ <;> (intro g2; omega)
    · unfold lin at h1
      unfold sg
      omega
theorem att_eq {m : Int → Int} {q b : Int} (hm : MBd m) (hb : b = 0 ∨ b = 1) (hq : 0 ≤ q ∧ q < 64) : attR m q b ↔ attd m q b := ⟨att_mp hb hq, att_mr hm hb hq⟩
end
section
theorem mR_at {A : Nat → Nat → Int32} {x v : Int32} (e : v = A 24 (x).toNatClampNeg) (h1 : 0 ≤ x.toInt) (h2 : x.toInt < 64) : v.toInt = mR A x.toInt := by
  unfold mR
  rw [if_pos ⟨h1, h2⟩, e]
  rfl
theorem metS_fun {m : Int → Int} {q f r v v2 : Int} (hq : 0 ≤ q ∧ q < 64) (hd : kin f r) (h : metS m q f r v) (h2 : metS m q f r v2) : v = v2 := by
  rcases h with ⟨a, n, n1, n2, n3, n4⟩ | ⟨a, n2⟩
  · rcases h2 with ⟨b, k, k1, k2, k3, k4⟩ | ⟨b, k2⟩
    · rcases Int.lt_trichotomy n k with c | c | c
      · have := k4 n n1 c
        omega
      · subst c
        omega
      · have := n4 k k1 c
        omega
    · have := k2 n n1 n2
      omega
  · rcases h2 with ⟨b, k, k1, k2, k3, k4⟩ | ⟨b, k2⟩
    · have := n2 k k1 k2
      omega
    · omega
theorem hL_iff {m : Int → Int} {q w f r v : Int} (hq : 0 ≤ q ∧ q < 64) (hd : kin f r) (h : metS m q f r v) : hL m q w f r ↔ (v = 5 + w ∨ ((f = 0 ∨ r = 0) ∧ v = 4 + w) ∨ (f ≠ 0 ∧ r ≠ 0 ∧ v = 3 + w)) := by
  constructor
  · rintro ⟨-, u, h1, h2⟩
    have := metS_fun hq hd h h1
    subst this
    exact h2
  · intro h1
    exact ⟨hd, v, h, h1⟩
noncomputable def pwX (m : Int → Int) (q w t : Int) : Prop := (0 ≤ stp q (-1) t ∧ m (stp q (-1) t) = 1 + w) ∨ (0 ≤ stp q 1 t ∧ m (stp q 1 t) = 1 + w)
noncomputable def rem (m : Int → Int) (q w f0 r0 : Int) : Prop := ∃ f r : Int, -2 ≤ f ∧ f ≤ 2 ∧ -2 ≤ r ∧ r ≤ 2 ∧ (f0 < f ∨ f = f0 ∧ r0 ≤ r) ∧ hitR m q w f r
noncomputable def FAR (f r x : Int) : Prop := x = 0 ∧ f = 0 ∧ r = 0 ∨ x = 1 ∧ kin f r ∧ (f = 0 ∨ r = 0) ∨ x = 2 ∧ kin f r ∧ f ≠ 0 ∧ r ≠ 0 ∨ 3 ≤ x ∧ ¬ kin f r
section ATT
variable {P Q R : Prop} {m : Int → Int} {q w f r : Int}
theorem rem_s (h1 : -2 ≤ f ∧ f ≤ 2) (h2 : -2 ≤ r ∧ r ≤ 2) : rem m q w f r ↔ hitR m q w f r ∨ rem m q w f (r + 1) := by
  constructor
  · rintro ⟨a, b, h⟩
    by_cases e : a = f ∧ b = r
    · obtain ⟨e1, e2⟩ := e
      subst e1
      subst e2
      exact Or.inl h.2.2.2.2.2
    · exact Or.inr ⟨a, b, by omega, by omega, by omega, by omega, by omega, h.2.2.2.2.2⟩
  · rintro (h | ⟨a, b, h⟩)
    · exact ⟨f, r, h1.1, h1.2, h2.1, h2.2, Or.inr ⟨rfl, Int.le_refl _⟩, h⟩
    · exact ⟨a, b, by omega, by omega, by omega, by omega, by omega, h.2.2.2.2.2⟩
theorem rem_r (h : 3 ≤ r) : rem m q w f r ↔ rem m q w (f + 1) (-2) := by
  constructor
  · rintro ⟨a, b, h⟩
    exact ⟨a, b, by omega, by omega, by omega, by omega, by omega, h.2.2.2.2.2⟩
  · rintro ⟨a, b, h⟩
    exact ⟨a, b, by omega, by omega, by omega, by omega, by omega, h.2.2.2.2.2⟩
theorem rem_e (h : 3 ≤ f) : ¬ rem m q w f r := by
  rintro ⟨a, b, h⟩
  omega
theorem at_14 {b t : Int} (h : P ↔ attR m q b) (hb : (b = 0 ∧ t = -1) ∨ (b = 1 ∧ t = 1)) (hw : w = 8 * b) : P ↔ pwX m q w t ∨ rem m q w (-2) (-2) := by
  rw [h]
  have e : (if b = 0 then (-1 : Int) else 1) = t := by omega
  unfold attR pwR
  rw [e, ← hw]
  refine or_congr Iff.rfl ⟨?_, ?_⟩
  · rintro ⟨a, c, h⟩
    exact ⟨a, c, by omega, by omega, by omega, by omega, by omega, h.2.2.2.2⟩
  · rintro ⟨a, c, h⟩
    exact ⟨a, c, by omega, by omega, by omega, by omega, h.2.2.2.2.2⟩
theorem at_t (h : P) : P ↔ (1 : Int32).toInt = 1 ∨ R := ⟨fun _ => Or.inl rfl, fun _ => h⟩
theorem at_f (h : P ↔ Q ∨ R) (hQ : ¬ Q) : P ↔ (0 : Int32).toInt = 1 ∨ R := by
  rw [h]
  exact or_congr ⟨fun a => absurd a hQ, fun a => absurd a (by decide)⟩ Iff.rfl
theorem pw_n {t a b : Int} (e1 : a = stp q (-1) t) (e2 : b = stp q 1 t) (h1 : ¬ (0 ≤ a ∧ m a = 1 + w)) (h2 : ¬ (0 ≤ b ∧ m b = 1 + w)) : ¬ pwX m q w t := by
  subst e1
  subst e2
  exact fun h => h.elim h1 h2
theorem pw_l {t a : Int} (e1 : a = stp q (-1) t) (h1 : 0 ≤ a ∧ m a = 1 + w) : pwX m q w t := by
  subst e1
  exact Or.inl h1
theorem pw_r {t a : Int} (e1 : a = stp q 1 t) (h1 : 0 ≤ a ∧ m a = 1 + w) : pwX m q w t := by
  subst e1
  exact Or.inr h1
theorem at_119 {x : Int} (h : P ↔ x = 1 ∨ rem m q w f r) (hx : x = 0) (h1 : -2 ≤ f ∧ f ≤ 2) (h2 : -2 ≤ r ∧ r ≤ 2) (hk : ¬ hK m q w f r) : P ↔ hG m q w f r ∨ hL m q w f r ∨ rem m q w f (r + 1) := by
  rw [h, rem_s h1 h2, hx]
  unfold hitR
  constructor
  · rintro (h | (h | h | h) | h)
    · exact absurd h (by decide)
    · exact absurd h hk
    · exact Or.inl h
    · exact Or.inr (Or.inl h)
    · exact Or.inr (Or.inr h)
  · rintro (h | h | h)
    · exact Or.inr (Or.inl (Or.inr (Or.inl h)))
    · exact Or.inr (Or.inl (Or.inr (Or.inr h)))
    · exact Or.inr (Or.inr h)
theorem at_hk {x : Int} (h : P ↔ x = 1 ∨ rem m q w f r) (h1 : -2 ≤ f ∧ f ≤ 2) (h2 : -2 ≤ r ∧ r ≤ 2) (hk : hK m q w f r) : P := h.2 (Or.inr ((rem_s h1 h2).2 (Or.inl (Or.inl hk))))
theorem at_ngl (h : P ↔ Q ∨ hL m q w f r ∨ R) (hk : ¬ kin f r) : P ↔ Q ∨ R := by
  rw [h]
  refine or_congr Iff.rfl ⟨fun a => a.elim (fun b => absurd b.1 hk) id, Or.inr⟩
theorem hG_s {a : Int} (e : a = stp q f r) (h : ¬ (0 ≤ a ∧ m a = 6 + w)) : ¬ hG m q w f r := by
  subst e
  exact fun g => h g.2
theorem hG_y {a : Int} (e : a = stp q f r) (hd : kin f r) (h : 0 ≤ a ∧ m a = 6 + w) : hG m q w f r := by
  subst e
  exact ⟨hd, h⟩
theorem hK_s {a : Int} (e : a = stp q f r) (h : ¬ (0 ≤ a ∧ m a = 2 + w)) : ¬ hK m q w f r := by
  subst e
  exact fun g => h g.2
theorem hK_y {a : Int} (e : a = stp q f r) (hd : kni f r) (h : 0 ≤ a ∧ m a = 2 + w) : hK m q w f r := by
  subst e
  exact ⟨hd, h⟩
theorem at_hL {x v t : Int} (h : P ↔ x = 1 ∨ hL m q w f r ∨ R) (hx : x = 0) (hq : 0 ≤ q ∧ q < 64) (hd : kin f r) (hm : metS m q f r v) (h5 : v ≠ 5 + w) (ht : ((f = 0 ∨ r = 0) ∧ t = 4) ∨ (f ≠ 0 ∧ r ≠ 0 ∧ t = 3)) : P ↔ v = t + w ∨ R := by
  rw [h, hL_iff hq hd hm, hx]
  constructor
  · rintro (h | h | h)
    · exact absurd h (by decide)
    · exact Or.inl (by omega)
    · exact Or.inr h
  · rintro (h | h)
    · exact Or.inr (Or.inl (by omega))
    · exact Or.inr (Or.inr h)
theorem at_5 {x v : Int} (h : P ↔ x = 1 ∨ hL m q w f r ∨ R) (hd : kin f r) (hm : metS m q f r v) (h5 : v = 5 + w) : P := h.2 (Or.inr (Or.inl ⟨hd, v, hm, Or.inl h5⟩))
end ATT
theorem x_kind_0  {I : Nat → Int32} {A : Nat → Nat → Int32} {x0 : Int32} (hI : TJ I) (hA : TK A) (r_x0 : (0 : Int) ≤ x0.toInt ∧ x0.toInt ≤ (14 : Int)) : Ok (f_kind_0 x0 I A) (fun o => o.2 = (I, A) ∧ ((0 : Int) ≤ o.1.toInt ∧ o.1.toInt ≤ (7 : Int)) ∧ (o.1.toInt = x0.toInt % 8)) := by
  unfold f_kind_0
  refine ok_bnd (fun v1 e1 => ?_)
  have t_v1 := ti_and e1 (show (7 : Int32).toBitVec.toNat = 7 from rfl) (by decide)
  exact ok_ret ⟨rfl, (show (0 : Int) ≤ v1.toInt ∧ v1.toInt ≤ (7 : Int) from (by omega)), (by show (v1 : Int32).toInt = x0.toInt % 8; exact b_and7 e1 (by omega))⟩
theorem x_kind  {I : Nat → Int32} {A : Nat → Nat → Int32} {x0 : Int32} (hI : TJ I) (hA : TK A) (r_x0 : (0 : Int) ≤ x0.toInt ∧ x0.toInt ≤ (14 : Int)) : Ok (f_kind x0 I A) (fun o => o.2 = (I, A) ∧ ((0 : Int) ≤ o.1.toInt ∧ o.1.toInt ≤ (7 : Int)) ∧ (o.1.toInt = x0.toInt % 8)) := x_kind_0  hI hA r_x0
theorem x_sideOf_0  {I : Nat → Int32} {A : Nat → Nat → Int32} {x0 : Int32} (hI : TJ I) (hA : TK A) (r_x0 : (0 : Int) ≤ x0.toInt ∧ x0.toInt ≤ (14 : Int)) : Ok (f_sideOf_0 x0 I A) (fun o => o.2 = (I, A) ∧ ((-1 : Int) ≤ o.1.toInt ∧ o.1.toInt ≤ (1 : Int)) ∧ (o.1.toInt = (if x0.toInt = 0 then -1 else x0.toInt / 8))) := by
  unfold f_sideOf_0
  refine ok_if (fun c2 => ?_) (fun c2 => ?_)
  ·
    replace c2 := ti_eqP c2 rfl (show (0 : Int32).toInt = 0 from rfl)
    unfold f_sideOf_11
    exact ok_ret ⟨rfl, (show (-1 : Int) ≤ (-1 : Int32).toInt ∧ (-1 : Int32).toInt ≤ (1 : Int) from (by decide)), (by show (-1 : Int32).toInt = (if x0.toInt = 0 then -1 else x0.toInt / 8); have z : (-1 : Int32).toInt = -1 := rfl; omega)⟩
  ·
    replace c2 := ti_eqN c2 rfl (show (0 : Int32).toInt = 0 from rfl)
    refine ok_bnd (fun v1 e3 => ?_)
    have t_v1 : v1.toInt = x0.toInt / 8 := b_sh3 e3 (by omega)
    unfold f_sideOf_11
    exact ok_ret ⟨rfl, (show (-1 : Int) ≤ v1.toInt ∧ v1.toInt ≤ (1 : Int) from (by omega)), (by show (v1 : Int32).toInt = (if x0.toInt = 0 then -1 else x0.toInt / 8); have z : (-1 : Int32).toInt = -1 := rfl; omega)⟩
theorem x_sideOf  {I : Nat → Int32} {A : Nat → Nat → Int32} {x0 : Int32} (hI : TJ I) (hA : TK A) (r_x0 : (0 : Int) ≤ x0.toInt ∧ x0.toInt ≤ (14 : Int)) : Ok (f_sideOf x0 I A) (fun o => o.2 = (I, A) ∧ ((-1 : Int) ≤ o.1.toInt ∧ o.1.toInt ≤ (1 : Int)) ∧ (o.1.toInt = (if x0.toInt = 0 then -1 else x0.toInt / 8))) := x_sideOf_0  hI hA r_x0
theorem x_stands_0  {I : Nat → Int32} {A : Nat → Nat → Int32} {x1 : Int32} {x2 : Int32} (hI : TJ I) (hA : TK A) (r_x1 : (-1 : Int) ≤ x1.toInt ∧ x1.toInt ≤ (63 : Int)) : Ok (f_stands_0 x1 x2 I A) (fun o => o.2 = (I, A) ∧ ((0 : Int) ≤ o.1.toInt ∧ o.1.toInt ≤ (1 : Int)) ∧ ((o.1.toInt = 1 ↔ 0 ≤ x1.toInt ∧ mR A x1.toInt = x2.toInt))) := by
  unfold f_stands_0
  refine ok_if (fun c4 => ?_) (fun c4 => ?_)
  ·
    replace c4 := ti_ltP c4 rfl (show (0 : Int32).toInt = 0 from rfl)
    unfold f_stands_18
    unfold f_stands_19
    refine ok_chk (by decide) ?_
    exact ok_ret ⟨rfl, (show (0 : Int) ≤ (0 : Int32).toInt ∧ (0 : Int32).toInt ≤ (1 : Int) from (by decide)), (by show ((0 : Int32).toInt = 1 ↔ 0 ≤ x1.toInt ∧ mR A x1.toInt = x2.toInt); have z0 : (0 : Int32).toInt = 0 := rfl; have z1 : (1 : Int32).toInt = 1 := rfl; omega)⟩
  ·
    replace c4 := ti_ltN c4 rfl (show (0 : Int32).toInt = 0 from rfl)
    refine ok_chk (ti_in (by omega) (by omega)) ?_
    refine ok_bnd (fun v1 e5 => ?_)
    have u_v1 : v1.toInt = mR A x1.toInt := mR_at e5 (by omega) (by omega)
    refine ok_if (fun c6 => ?_) (fun c6 => ?_)
    ·
      replace c6 := ti_eqP c6 rfl rfl
      unfold f_stands_19
      refine ok_chk (by decide) ?_
      exact ok_ret ⟨rfl, (show (0 : Int) ≤ (1 : Int32).toInt ∧ (1 : Int32).toInt ≤ (1 : Int) from (by decide)), (by show ((1 : Int32).toInt = 1 ↔ 0 ≤ x1.toInt ∧ mR A x1.toInt = x2.toInt); have z0 : (0 : Int32).toInt = 0 := rfl; have z1 : (1 : Int32).toInt = 1 := rfl; omega)⟩
    ·
      replace c6 := ti_eqN c6 rfl rfl
      unfold f_stands_18
      unfold f_stands_19
      refine ok_chk (by decide) ?_
      exact ok_ret ⟨rfl, (show (0 : Int) ≤ (0 : Int32).toInt ∧ (0 : Int32).toInt ≤ (1 : Int) from (by decide)), (by show ((0 : Int32).toInt = 1 ↔ 0 ≤ x1.toInt ∧ mR A x1.toInt = x2.toInt); have z0 : (0 : Int32).toInt = 0 := rfl; have z1 : (1 : Int32).toInt = 1 := rfl; omega)⟩
theorem x_stands  {I : Nat → Int32} {A : Nat → Nat → Int32} {x1 : Int32} {x2 : Int32} (hI : TJ I) (hA : TK A) (r_x1 : (-1 : Int) ≤ x1.toInt ∧ x1.toInt ≤ (63 : Int)) : Ok (f_stands x1 x2 I A) (fun o => o.2 = (I, A) ∧ ((0 : Int) ≤ o.1.toInt ∧ o.1.toInt ≤ (1 : Int)) ∧ ((o.1.toInt = 1 ↔ 0 ≤ x1.toInt ∧ mR A x1.toInt = x2.toInt))) := x_stands_0  hI hA r_x1
theorem x_met_8s {sq : Int} {I : Nat → Int32} {A : Nat → Nat → Int32} {self8 : Int32 → Int32 → Int32 → (Nat → Int32) → (Nat → Nat → Int32) → Option (Int32 × MS)} {N8 : Nat} (hself8 : ∀ (x2 : Int32) (x3 : Int32) (x4 : Int32),  ((-1 : Int) ≤ x2.toInt ∧ x2.toInt ≤ (1 : Int)) → ((-1 : Int) ≤ x3.toInt ∧ x3.toInt ≤ (1 : Int)) → ((-1 : Int) ≤ x4.toInt ∧ x4.toInt ≤ (63 : Int)) → (0 ≤ sq ∧ sq < 64) → (kin x2.toInt x3.toInt) → (pr8 (mR A) sq x2.toInt x3.toInt x4.toInt) → (mst x2.toInt x3.toInt x4.toInt) < (N8 : Int) → Ok (self8 x2 x3 x4 I A) (fun o => o.2 = (I, A) ∧ (metS (mR A) sq x2.toInt x3.toInt o.1.toInt))) {x2 : Int32} {x3 : Int32} {x4 : Int32} (hI : TJ I) (hA : TK A) (r_x2 : (-1 : Int) ≤ x2.toInt ∧ x2.toInt ≤ (1 : Int)) (r_x3 : (-1 : Int) ≤ x3.toInt ∧ x3.toInt ≤ (1 : Int)) (r_x4 : (-1 : Int) ≤ x4.toInt ∧ x4.toInt ≤ (63 : Int)) (q0 : 0 ≤ sq ∧ sq < 64) (q1 : kin x2.toInt x3.toInt) (q2 : pr8 (mR A) sq x2.toInt x3.toInt x4.toInt) (m8 : (mst x2.toInt x3.toInt x4.toInt) ≤ (N8 : Int)) : Ok (f_met_8s self8 x2 x3 x4 I A) (fun o => o.2 = (I, A) ∧ (metS (mR A) sq x2.toInt x3.toInt o.1.toInt)) := by
  unfold f_met_8s
  refine ok_if (fun c7 => ?_) (fun c7 => ?_)
  ·
    replace c7 := ti_ltP c7 rfl (show (0 : Int32).toInt = 0 from rfl)
    unfold f_met_35
    refine ok_if (fun c8 => ?_) (fun c8 => ?_)
    ·
      replace c8 := ti_leP c8 (show (0 : Int32).toInt = 0 from rfl) rfl
      refine ok_chk (ti_in (by omega) (by omega)) ?_
      refine ok_bnd (fun v1 e9 => ?_)
      have u_v1 : v1.toInt = mR A x4.toInt := mR_at e9 (by omega) (by omega)
      unfold f_met_51
      exact ok_ret ⟨rfl, (by show metS (mR A) sq x2.toInt x3.toInt (v1 : Int32).toInt; first | exact pr8_off q0 q1 q2 (by omega) | (rw [u_v1]; exact pr8_hit q2 (by omega) (by omega)) | (rw [u_v1u]; exact pr8_hit q2 (by omega) (by omega)))⟩
    ·
      replace c8 := ti_leN c8 (show (0 : Int32).toInt = 0 from rfl) rfl
      unfold f_met_51
      exact ok_ret ⟨rfl, (by show metS (mR A) sq x2.toInt x3.toInt (0 : Int32).toInt; first | exact pr8_off q0 q1 q2 (by omega) | (rw [u_v1]; exact pr8_hit q2 (by omega) (by omega)) | (rw [u_v1u]; exact pr8_hit q2 (by omega) (by omega)))⟩
  ·
    replace c7 := ti_ltN c7 rfl (show (0 : Int32).toInt = 0 from rfl)
    refine ok_chk (ti_in (by omega) (by omega)) ?_
    refine ok_bnd (fun v1 e10 => ?_)
    have u_v1 : v1.toInt = mR A x4.toInt := mR_at e10 (by omega) (by omega)
    refine ok_if (fun c11 => ?_) (fun c11 => ?_)
    ·
      replace c11 := ti_eqP c11 rfl (show (0 : Int32).toInt = 0 from rfl)
      obtain ⟨r2, h_r2, p_r2⟩ := ro (t_step (x0 := x4) (x1 := x2) (x2 := x3)  hI hA (by omega) (by omega) (by omega))
      refine ok_clR h_r2 ?_
      dsimp only at p_r2
      exact hself8 x2 x3 r2 r_x2 r_x3 (by omega) q0 q1 (pr8_s q0 q1 q2 (by omega) (by omega) p_r2.2) (Int.lt_of_lt_of_le (mst_dec r_x2 r_x3 q1.2.2.2.2 (by omega) p_r2.2) m8)
    ·
      replace c11 := ti_eqN c11 rfl (show (0 : Int32).toInt = 0 from rfl)
      unfold f_met_35
      refine ok_if (fun c12 => ?_) (fun c12 => ?_)
      ·
        replace c12 := ti_leP c12 (show (0 : Int32).toInt = 0 from rfl) rfl
        refine ok_chk (ti_in (by omega) (by omega)) ?_
        refine ok_bnd (fun v1 e13 => ?_)
        have u_v1 : v1.toInt = mR A x4.toInt := mR_at e13 (by omega) (by omega)
        unfold f_met_51
        exact ok_ret ⟨rfl, (by show metS (mR A) sq x2.toInt x3.toInt (v1 : Int32).toInt; first | exact pr8_off q0 q1 q2 (by omega) | (rw [u_v1]; exact pr8_hit q2 (by omega) (by omega)) | (rw [u_v1u]; exact pr8_hit q2 (by omega) (by omega)))⟩
      ·
        replace c12 := ti_leN c12 (show (0 : Int32).toInt = 0 from rfl) rfl
        unfold f_met_51
        exact ok_ret ⟨rfl, (by show metS (mR A) sq x2.toInt x3.toInt (0 : Int32).toInt; first | exact pr8_off q0 q1 q2 (by omega) | (rw [u_v1]; exact pr8_hit q2 (by omega) (by omega)) | (rw [u_v1u]; exact pr8_hit q2 (by omega) (by omega)))⟩
theorem x_met_8 {sq : Int} {I : Nat → Int32} {A : Nat → Nat → Int32} (hI : TJ I) (hA : TK A) : ∀ (n : Nat) (x2 : Int32) (x3 : Int32) (x4 : Int32),  ((-1 : Int) ≤ x2.toInt ∧ x2.toInt ≤ (1 : Int)) → ((-1 : Int) ≤ x3.toInt ∧ x3.toInt ≤ (1 : Int)) → ((-1 : Int) ≤ x4.toInt ∧ x4.toInt ≤ (63 : Int)) → (0 ≤ sq ∧ sq < 64) → (kin x2.toInt x3.toInt) → (pr8 (mR A) sq x2.toInt x3.toInt x4.toInt) → (mst x2.toInt x3.toInt x4.toInt) < (n : Int) → Ok (f_met_8  n x2 x3 x4 I A) (fun o => o.2 = (I, A) ∧ (metS (mR A) sq x2.toInt x3.toInt o.1.toInt)) := by
  intro n
  induction n with
  | zero => intro x2 x3 x4 g0 g1 g2 g3 g4 g5  hm; exfalso; have := mst_nn g0 g1 g2; omega
  | succ n ih =>
    intro x2 x3 x4 g0 g1 g2 g3 g4 g5  hm
    exact x_met_8s (sq := sq)  (N8 := n)  ih hI hA g0 g1 g2 g3 g4 g5  (by omega)
theorem x_met_0 {sq : Int} {I : Nat → Int32} {A : Nat → Nat → Int32} {x1 : Int32} {x2 : Int32} {x3 : Int32} (hI : TJ I) (hA : TK A) (r_x1 : (0 : Int) ≤ x1.toInt ∧ x1.toInt ≤ (63 : Int)) (r_x2 : (-1 : Int) ≤ x2.toInt ∧ x2.toInt ≤ (1 : Int)) (r_x3 : (-1 : Int) ≤ x3.toInt ∧ x3.toInt ≤ (1 : Int)) (q0 : sq = x1.toInt) (q1 : kin x2.toInt x3.toInt) (q2 : 0 ≤ sq ∧ sq < 64) : Ok (f_met_0 x1 x2 x3 I A) (fun o => o.2 = (I, A) ∧ (metS (mR A) sq x2.toInt x3.toInt o.1.toInt)) := by
  unfold f_met_0
  obtain ⟨r1, h_r1, p_r1⟩ := ro (t_step (x0 := x1) (x1 := x2) (x2 := x3)  hI hA r_x1 (by omega) (by omega))
  refine ok_clR h_r1 ?_
  dsimp only at p_r1
  exact x_met_8 (sq := sq)   hI hA mFuel x2 x3 r1  r_x2 r_x3 (by omega) q2 q1 (pr8_0 (by omega) q1 (by rw [q0]; exact p_r1.2)) (mst_lt r_x2 r_x3 (by omega))
theorem x_met {sq : Int} {I : Nat → Int32} {A : Nat → Nat → Int32} {x1 : Int32} {x2 : Int32} {x3 : Int32} (hI : TJ I) (hA : TK A) (r_x1 : (0 : Int) ≤ x1.toInt ∧ x1.toInt ≤ (63 : Int)) (r_x2 : (-1 : Int) ≤ x2.toInt ∧ x2.toInt ≤ (1 : Int)) (r_x3 : (-1 : Int) ≤ x3.toInt ∧ x3.toInt ≤ (1 : Int)) (q0 : sq = x1.toInt) (q1 : kin x2.toInt x3.toInt) (q2 : 0 ≤ sq ∧ sq < 64) : Ok (f_met x1 x2 x3 I A) (fun o => o.2 = (I, A) ∧ (metS (mR A) sq x2.toInt x3.toInt o.1.toInt)) := x_met_0 (sq := sq) hI hA r_x1 r_x2 r_x3 q0 q1 q2
theorem x_isAttacked_217 {P : Prop} {I : Nat → Int32} {A : Nat → Nat → Int32} {self61 : Int32 → Int32 → Int32 → Int32 → (Nat → Int32) → (Nat → Nat → Int32) → Option (Int32 × MS)} {N61 : Nat} (hself61 : ∀ (x1 : Int32) (x3 : Int32) (x5 : Int32) (x6 : Int32),  ((0 : Int) ≤ x1.toInt ∧ x1.toInt ≤ (63 : Int)) → ((0 : Int) ≤ x3.toInt ∧ x3.toInt ≤ (8 : Int)) → ((0 : Int) ≤ x5.toInt ∧ x5.toInt ≤ (1 : Int)) → ((-2 : Int) ≤ x6.toInt ∧ x6.toInt ≤ (3 : Int)) → (P ↔ x5.toInt = 1 ∨ rem (mR A) x1.toInt x3.toInt x6.toInt (-2)) → (3 - x6.toInt) < (N61 : Int) → Ok (self61 x1 x3 x5 x6 I A) (fun o => o.2 = (I, A) ∧ ((0 : Int) ≤ o.1.toInt ∧ o.1.toInt ≤ (1 : Int)) ∧ ((o.1.toInt = 1 ↔ P)))) {self71 : Int32 → Int32 → Int32 → Int32 → Int32 → (Nat → Int32) → (Nat → Nat → Int32) → Option (Int32 × MS)} {N71 : Nat} (hself71 : ∀ (x1 : Int32) (x3 : Int32) (x5 : Int32) (x6 : Int32) (x7 : Int32),  ((0 : Int) ≤ x1.toInt ∧ x1.toInt ≤ (63 : Int)) → ((0 : Int) ≤ x3.toInt ∧ x3.toInt ≤ (8 : Int)) → ((0 : Int) ≤ x5.toInt ∧ x5.toInt ≤ (1 : Int)) → ((-2 : Int) ≤ x6.toInt ∧ x6.toInt ≤ (2 : Int)) → ((-2 : Int) ≤ x7.toInt ∧ x7.toInt ≤ (3 : Int)) → (P ↔ x5.toInt = 1 ∨ rem (mR A) x1.toInt x3.toInt x6.toInt x7.toInt) → ((3 - x6.toInt) ≤ (N61 : Int)) → (3 - x7.toInt) < (N71 : Int) → Ok (self71 x1 x3 x5 x6 x7 I A) (fun o => o.2 = (I, A) ∧ ((0 : Int) ≤ o.1.toInt ∧ o.1.toInt ≤ (1 : Int)) ∧ ((o.1.toInt = 1 ↔ P)))) {x1 : Int32} {x3 : Int32} {x5 : Int32} {x6 : Int32} {x7 : Int32} (hI : TJ I) (hA : TK A) (r_x1 : (0 : Int) ≤ x1.toInt ∧ x1.toInt ≤ (63 : Int)) (r_x3 : (0 : Int) ≤ x3.toInt ∧ x3.toInt ≤ (8 : Int)) (r_x5 : (0 : Int) ≤ x5.toInt ∧ x5.toInt ≤ (1 : Int)) (r_x6 : (-2 : Int) ≤ x6.toInt ∧ x6.toInt ≤ (2 : Int)) (r_x7 : (-2 : Int) ≤ x7.toInt ∧ x7.toInt ≤ (2 : Int)) (q0 : P ↔ x5.toInt = 1 ∨ rem (mR A) x1.toInt x3.toInt x6.toInt (x7.toInt + 1)) (m61 : (3 - x6.toInt) ≤ (N61 : Int)) (m71 : (3 - x7.toInt) ≤ (N71 : Int)) : Ok (f_isAttacked_217 self61 self71 x1 x3 x5 x6 x7 I A) (fun o => o.2 = (I, A) ∧ ((0 : Int) ≤ o.1.toInt ∧ o.1.toInt ≤ (1 : Int)) ∧ ((o.1.toInt = 1 ↔ P))) := by
  unfold f_isAttacked_217
  refine ok_bnd (fun v1 e14 => ?_)
  have t_v1 : v1.toInt = x7.toInt + 1 := ti_add e14 rfl (show (1 : Int32).toInt = 1 from rfl) (by omega) (by omega)
  exact hself71 x1 x3 x5 x6 v1 r_x1 r_x3 r_x5 r_x6 (by omega) (by rw [t_v1]; exact q0) m61 (by omega)
theorem x_isAttacked_205 {P : Prop} {I : Nat → Int32} {A : Nat → Nat → Int32} {self61 : Int32 → Int32 → Int32 → Int32 → (Nat → Int32) → (Nat → Nat → Int32) → Option (Int32 × MS)} {N61 : Nat} (hself61 : ∀ (x1 : Int32) (x3 : Int32) (x5 : Int32) (x6 : Int32),  ((0 : Int) ≤ x1.toInt ∧ x1.toInt ≤ (63 : Int)) → ((0 : Int) ≤ x3.toInt ∧ x3.toInt ≤ (8 : Int)) → ((0 : Int) ≤ x5.toInt ∧ x5.toInt ≤ (1 : Int)) → ((-2 : Int) ≤ x6.toInt ∧ x6.toInt ≤ (3 : Int)) → (P ↔ x5.toInt = 1 ∨ rem (mR A) x1.toInt x3.toInt x6.toInt (-2)) → (3 - x6.toInt) < (N61 : Int) → Ok (self61 x1 x3 x5 x6 I A) (fun o => o.2 = (I, A) ∧ ((0 : Int) ≤ o.1.toInt ∧ o.1.toInt ≤ (1 : Int)) ∧ ((o.1.toInt = 1 ↔ P)))) {self71 : Int32 → Int32 → Int32 → Int32 → Int32 → (Nat → Int32) → (Nat → Nat → Int32) → Option (Int32 × MS)} {N71 : Nat} (hself71 : ∀ (x1 : Int32) (x3 : Int32) (x5 : Int32) (x6 : Int32) (x7 : Int32),  ((0 : Int) ≤ x1.toInt ∧ x1.toInt ≤ (63 : Int)) → ((0 : Int) ≤ x3.toInt ∧ x3.toInt ≤ (8 : Int)) → ((0 : Int) ≤ x5.toInt ∧ x5.toInt ≤ (1 : Int)) → ((-2 : Int) ≤ x6.toInt ∧ x6.toInt ≤ (2 : Int)) → ((-2 : Int) ≤ x7.toInt ∧ x7.toInt ≤ (3 : Int)) → (P ↔ x5.toInt = 1 ∨ rem (mR A) x1.toInt x3.toInt x6.toInt x7.toInt) → ((3 - x6.toInt) ≤ (N61 : Int)) → (3 - x7.toInt) < (N71 : Int) → Ok (self71 x1 x3 x5 x6 x7 I A) (fun o => o.2 = (I, A) ∧ ((0 : Int) ≤ o.1.toInt ∧ o.1.toInt ≤ (1 : Int)) ∧ ((o.1.toInt = 1 ↔ P)))) {x1 : Int32} {x3 : Int32} {x6 : Int32} {x7 : Int32} {t0 : Int32} {t1 : Int32} (hI : TJ I) (hA : TK A) (r_x1 : (0 : Int) ≤ x1.toInt ∧ x1.toInt ≤ (63 : Int)) (r_x3 : (0 : Int) ≤ x3.toInt ∧ x3.toInt ≤ (8 : Int)) (r_x6 : (-2 : Int) ≤ x6.toInt ∧ x6.toInt ≤ (2 : Int)) (r_x7 : (-2 : Int) ≤ x7.toInt ∧ x7.toInt ≤ (2 : Int)) (r_t0 : (3 : Int) ≤ t0.toInt ∧ t0.toInt ≤ (4 : Int)) (q0 : P ↔ t1.toInt = t0.toInt + x3.toInt ∨ rem (mR A) x1.toInt x3.toInt x6.toInt (x7.toInt + 1)) (m61 : (3 - x6.toInt) ≤ (N61 : Int)) (m71 : (3 - x7.toInt) ≤ (N71 : Int)) : Ok (f_isAttacked_205 self61 self71 x1 x3 x6 x7 t0 t1 I A) (fun o => o.2 = (I, A) ∧ ((0 : Int) ≤ o.1.toInt ∧ o.1.toInt ≤ (1 : Int)) ∧ ((o.1.toInt = 1 ↔ P))) := by
  unfold f_isAttacked_205
  refine ok_bnd (fun v1 e15 => ?_)
  have t_v1 : v1.toInt = t0.toInt + x3.toInt := ti_add e15 rfl rfl (by omega) (by omega)
  refine ok_if (fun c16 => ?_) (fun c16 => ?_)
  ·
    replace c16 := ti_eqP c16 rfl rfl
    unfold f_isAttacked_210
    unfold f_isAttacked_215
    exact x_isAttacked_217 (P := P)  hself61 hself71 (x1 := x1) (x3 := x3) (x5 := (1 : Int32)) (x6 := x6) (x7 := x7) hI hA r_x1 r_x3 (by decide) r_x6 r_x7 (by first | exact at_t (at_5 q1 q0.1 p_r1 (by omega)) | exact at_t (q1.2 (Or.inl (by omega))) | exact at_t (q0.2 (Or.inl (by omega))) | exact at_f q0 (by omega)) m61 m71
  ·
    replace c16 := ti_eqN c16 rfl rfl
    unfold f_isAttacked_215
    exact x_isAttacked_217 (P := P)  hself61 hself71 (x1 := x1) (x3 := x3) (x5 := (0 : Int32)) (x6 := x6) (x7 := x7) hI hA r_x1 r_x3 (by decide) r_x6 r_x7 (by first | exact at_t (at_5 q1 q0.1 p_r1 (by omega)) | exact at_t (q1.2 (Or.inl (by omega))) | exact at_t (q0.2 (Or.inl (by omega))) | exact at_f q0 (by omega)) m61 m71
theorem x_isAttacked_168 {P : Prop} {I : Nat → Int32} {A : Nat → Nat → Int32} {self61 : Int32 → Int32 → Int32 → Int32 → (Nat → Int32) → (Nat → Nat → Int32) → Option (Int32 × MS)} {N61 : Nat} (hself61 : ∀ (x1 : Int32) (x3 : Int32) (x5 : Int32) (x6 : Int32),  ((0 : Int) ≤ x1.toInt ∧ x1.toInt ≤ (63 : Int)) → ((0 : Int) ≤ x3.toInt ∧ x3.toInt ≤ (8 : Int)) → ((0 : Int) ≤ x5.toInt ∧ x5.toInt ≤ (1 : Int)) → ((-2 : Int) ≤ x6.toInt ∧ x6.toInt ≤ (3 : Int)) → (P ↔ x5.toInt = 1 ∨ rem (mR A) x1.toInt x3.toInt x6.toInt (-2)) → (3 - x6.toInt) < (N61 : Int) → Ok (self61 x1 x3 x5 x6 I A) (fun o => o.2 = (I, A) ∧ ((0 : Int) ≤ o.1.toInt ∧ o.1.toInt ≤ (1 : Int)) ∧ ((o.1.toInt = 1 ↔ P)))) {self71 : Int32 → Int32 → Int32 → Int32 → Int32 → (Nat → Int32) → (Nat → Nat → Int32) → Option (Int32 × MS)} {N71 : Nat} (hself71 : ∀ (x1 : Int32) (x3 : Int32) (x5 : Int32) (x6 : Int32) (x7 : Int32),  ((0 : Int) ≤ x1.toInt ∧ x1.toInt ≤ (63 : Int)) → ((0 : Int) ≤ x3.toInt ∧ x3.toInt ≤ (8 : Int)) → ((0 : Int) ≤ x5.toInt ∧ x5.toInt ≤ (1 : Int)) → ((-2 : Int) ≤ x6.toInt ∧ x6.toInt ≤ (2 : Int)) → ((-2 : Int) ≤ x7.toInt ∧ x7.toInt ≤ (3 : Int)) → (P ↔ x5.toInt = 1 ∨ rem (mR A) x1.toInt x3.toInt x6.toInt x7.toInt) → ((3 - x6.toInt) ≤ (N61 : Int)) → (3 - x7.toInt) < (N71 : Int) → Ok (self71 x1 x3 x5 x6 x7 I A) (fun o => o.2 = (I, A) ∧ ((0 : Int) ≤ o.1.toInt ∧ o.1.toInt ≤ (1 : Int)) ∧ ((o.1.toInt = 1 ↔ P)))) {x1 : Int32} {x3 : Int32} {x5 : Int32} {x6 : Int32} {x7 : Int32} {x8 : Int32} (hI : TJ I) (hA : TK A) (r_x1 : (0 : Int) ≤ x1.toInt ∧ x1.toInt ≤ (63 : Int)) (r_x3 : (0 : Int) ≤ x3.toInt ∧ x3.toInt ≤ (8 : Int)) (r_x5 : (0 : Int) ≤ x5.toInt ∧ x5.toInt ≤ (1 : Int)) (r_x6 : (-1 : Int) ≤ x6.toInt ∧ x6.toInt ≤ (1 : Int)) (r_x7 : (-1 : Int) ≤ x7.toInt ∧ x7.toInt ≤ (1 : Int)) (r_x8 : (0 : Int) ≤ x8.toInt ∧ x8.toInt ≤ (8 : Int)) (q0 : kin x6.toInt x7.toInt ∧ ((x8.toInt = 1 ∧ (x6.toInt = 0 ∨ x7.toInt = 0)) ∨ (x8.toInt = 2 ∧ x6.toInt ≠ 0 ∧ x7.toInt ≠ 0))) (q1 : P ↔ x5.toInt = 1 ∨ hL (mR A) x1.toInt x3.toInt x6.toInt x7.toInt ∨ rem (mR A) x1.toInt x3.toInt x6.toInt (x7.toInt + 1)) (m61 : (3 - x6.toInt) ≤ (N61 : Int)) (m71 : (3 - x7.toInt) ≤ (N71 : Int)) : Ok (f_isAttacked_168 self61 self71 x1 x3 x5 x6 x7 x8 I A) (fun o => o.2 = (I, A) ∧ ((0 : Int) ≤ o.1.toInt ∧ o.1.toInt ≤ (1 : Int)) ∧ ((o.1.toInt = 1 ↔ P))) := by
  unfold f_isAttacked_168
  obtain ⟨r1, h_r1, p_r1⟩ := ro (x_met (x1 := x1) (x2 := x6) (x3 := x7) (sq := x1.toInt) hI hA r_x1 r_x6 r_x7 rfl q0.1 (by omega))
  refine ok_clR h_r1 ?_
  dsimp only at p_r1
  refine ok_if (fun c17 => ?_) (fun c17 => ?_)
  ·
    replace c17 := ti_eqP c17 rfl (show (0 : Int32).toInt = 0 from rfl)
    refine ok_bnd (fun v2 e18 => ?_)
    have t_v2 : v2.toInt = 5 + x3.toInt := ti_add e18 (show (5 : Int32).toInt = 5 from rfl) rfl (by omega) (by omega)
    refine ok_if (fun c19 => ?_) (fun c19 => ?_)
    ·
      replace c19 := ti_eqP c19 rfl rfl
      unfold f_isAttacked_210
      unfold f_isAttacked_215
      exact x_isAttacked_217 (P := P)  hself61 hself71 (x1 := x1) (x3 := x3) (x5 := (1 : Int32)) (x6 := x6) (x7 := x7) hI hA r_x1 r_x3 (by decide) (by omega) (by omega) (by first | exact at_t (at_5 q1 q0.1 p_r1 (by omega)) | exact at_t (q1.2 (Or.inl (by omega))) | exact at_t (q0.2 (Or.inl (by omega))) | exact at_f q0 (by omega)) m61 m71
    ·
      replace c19 := ti_eqN c19 rfl rfl
      refine ok_if (fun c20 => ?_) (fun c20 => ?_)
      ·
        replace c20 := ti_eqP c20 rfl (show (1 : Int32).toInt = 1 from rfl)
        exact x_isAttacked_205 (P := P)  hself61 hself71 (x1 := x1) (x3 := x3) (x6 := x6) (x7 := x7) (t0 := (4 : Int32)) (t1 := r1) hI hA r_x1 r_x3 (by omega) (by omega) (by decide) (at_hL q1 (by omega) (by omega) q0.1 p_r1 (by omega) (by have z4 : (4 : Int32).toInt = 4 := rfl; have z3 : (3 : Int32).toInt = 3 := rfl; have := q0.2; omega)) m61 m71
      ·
        replace c20 := ti_eqN c20 rfl (show (1 : Int32).toInt = 1 from rfl)
        exact x_isAttacked_205 (P := P)  hself61 hself71 (x1 := x1) (x3 := x3) (x6 := x6) (x7 := x7) (t0 := (3 : Int32)) (t1 := r1) hI hA r_x1 r_x3 (by omega) (by omega) (by decide) (at_hL q1 (by omega) (by omega) q0.1 p_r1 (by omega) (by have z4 : (4 : Int32).toInt = 4 := rfl; have z3 : (3 : Int32).toInt = 3 := rfl; have := q0.2; omega)) m61 m71
  ·
    replace c17 := ti_eqN c17 rfl (show (0 : Int32).toInt = 0 from rfl)
    unfold f_isAttacked_210
    unfold f_isAttacked_215
    exact x_isAttacked_217 (P := P)  hself61 hself71 (x1 := x1) (x3 := x3) (x5 := (1 : Int32)) (x6 := x6) (x7 := x7) hI hA r_x1 r_x3 (by decide) (by omega) (by omega) (by first | exact at_t (at_5 q1 q0.1 p_r1 (by omega)) | exact at_t (q1.2 (Or.inl (by omega))) | exact at_t (q0.2 (Or.inl (by omega))) | exact at_f q0 (by omega)) m61 m71
theorem x_isAttacked_154 {P : Prop} {I : Nat → Int32} {A : Nat → Nat → Int32} {self61 : Int32 → Int32 → Int32 → Int32 → (Nat → Int32) → (Nat → Nat → Int32) → Option (Int32 × MS)} {N61 : Nat} (hself61 : ∀ (x1 : Int32) (x3 : Int32) (x5 : Int32) (x6 : Int32),  ((0 : Int) ≤ x1.toInt ∧ x1.toInt ≤ (63 : Int)) → ((0 : Int) ≤ x3.toInt ∧ x3.toInt ≤ (8 : Int)) → ((0 : Int) ≤ x5.toInt ∧ x5.toInt ≤ (1 : Int)) → ((-2 : Int) ≤ x6.toInt ∧ x6.toInt ≤ (3 : Int)) → (P ↔ x5.toInt = 1 ∨ rem (mR A) x1.toInt x3.toInt x6.toInt (-2)) → (3 - x6.toInt) < (N61 : Int) → Ok (self61 x1 x3 x5 x6 I A) (fun o => o.2 = (I, A) ∧ ((0 : Int) ≤ o.1.toInt ∧ o.1.toInt ≤ (1 : Int)) ∧ ((o.1.toInt = 1 ↔ P)))) {self71 : Int32 → Int32 → Int32 → Int32 → Int32 → (Nat → Int32) → (Nat → Nat → Int32) → Option (Int32 × MS)} {N71 : Nat} (hself71 : ∀ (x1 : Int32) (x3 : Int32) (x5 : Int32) (x6 : Int32) (x7 : Int32),  ((0 : Int) ≤ x1.toInt ∧ x1.toInt ≤ (63 : Int)) → ((0 : Int) ≤ x3.toInt ∧ x3.toInt ≤ (8 : Int)) → ((0 : Int) ≤ x5.toInt ∧ x5.toInt ≤ (1 : Int)) → ((-2 : Int) ≤ x6.toInt ∧ x6.toInt ≤ (2 : Int)) → ((-2 : Int) ≤ x7.toInt ∧ x7.toInt ≤ (3 : Int)) → (P ↔ x5.toInt = 1 ∨ rem (mR A) x1.toInt x3.toInt x6.toInt x7.toInt) → ((3 - x6.toInt) ≤ (N61 : Int)) → (3 - x7.toInt) < (N71 : Int) → Ok (self71 x1 x3 x5 x6 x7 I A) (fun o => o.2 = (I, A) ∧ ((0 : Int) ≤ o.1.toInt ∧ o.1.toInt ≤ (1 : Int)) ∧ ((o.1.toInt = 1 ↔ P)))) {x1 : Int32} {x3 : Int32} {x6 : Int32} {x7 : Int32} {x8 : Int32} {t0 : Int32} (hI : TJ I) (hA : TK A) (r_x1 : (0 : Int) ≤ x1.toInt ∧ x1.toInt ≤ (63 : Int)) (r_x3 : (0 : Int) ≤ x3.toInt ∧ x3.toInt ≤ (8 : Int)) (r_x6 : (-2 : Int) ≤ x6.toInt ∧ x6.toInt ≤ (2 : Int)) (r_x7 : (-2 : Int) ≤ x7.toInt ∧ x7.toInt ≤ (2 : Int)) (r_x8 : (0 : Int) ≤ x8.toInt ∧ x8.toInt ≤ (8 : Int)) (r_t0 : (0 : Int) ≤ t0.toInt ∧ t0.toInt ≤ (1 : Int)) (q0 : FAR x6.toInt x7.toInt x8.toInt) (q1 : P ↔ t0.toInt = 1 ∨ hL (mR A) x1.toInt x3.toInt x6.toInt x7.toInt ∨ rem (mR A) x1.toInt x3.toInt x6.toInt (x7.toInt + 1)) (m61 : (3 - x6.toInt) ≤ (N61 : Int)) (m71 : (3 - x7.toInt) ≤ (N71 : Int)) : Ok (f_isAttacked_154 self61 self71 x1 x3 x6 x7 x8 t0 I A) (fun o => o.2 = (I, A) ∧ ((0 : Int) ≤ o.1.toInt ∧ o.1.toInt ≤ (1 : Int)) ∧ ((o.1.toInt = 1 ↔ P))) := by
  unfold f_isAttacked_154
  refine ok_if (fun c21 => ?_) (fun c21 => ?_)
  ·
    replace c21 := ti_eqP c21 rfl (show (1 : Int32).toInt = 1 from rfl)
    have q0u := q0
    unfold FAR kin at q0u
    exact x_isAttacked_168 (P := P)  hself61 hself71 (x1 := x1) (x3 := x3) (x5 := t0) (x6 := x6) (x7 := x7) (x8 := x8) hI hA r_x1 r_x3 r_t0 (by omega) (by omega) r_x8 (by unfold FAR kin at q0; unfold kin; omega) q1 m61 m71
  ·
    replace c21 := ti_eqN c21 rfl (show (1 : Int32).toInt = 1 from rfl)
    refine ok_if (fun c22 => ?_) (fun c22 => ?_)
    ·
      replace c22 := ti_eqP c22 rfl (show (2 : Int32).toInt = 2 from rfl)
      have q0u := q0
      unfold FAR kin at q0u
      exact x_isAttacked_168 (P := P)  hself61 hself71 (x1 := x1) (x3 := x3) (x5 := t0) (x6 := x6) (x7 := x7) (x8 := x8) hI hA r_x1 r_x3 r_t0 (by omega) (by omega) r_x8 (by unfold FAR kin at q0; unfold kin; omega) q1 m61 m71
    ·
      replace c22 := ti_eqN c22 rfl (show (2 : Int32).toInt = 2 from rfl)
      exact x_isAttacked_217 (P := P)  hself61 hself71 (x1 := x1) (x3 := x3) (x5 := t0) (x6 := x6) (x7 := x7) hI hA r_x1 r_x3 r_t0 r_x6 r_x7 (at_ngl q1 (by unfold FAR kin at q0; unfold kin; omega)) m61 m71
theorem x_isAttacked_119 {P : Prop} {I : Nat → Int32} {A : Nat → Nat → Int32} {self61 : Int32 → Int32 → Int32 → Int32 → (Nat → Int32) → (Nat → Nat → Int32) → Option (Int32 × MS)} {N61 : Nat} (hself61 : ∀ (x1 : Int32) (x3 : Int32) (x5 : Int32) (x6 : Int32),  ((0 : Int) ≤ x1.toInt ∧ x1.toInt ≤ (63 : Int)) → ((0 : Int) ≤ x3.toInt ∧ x3.toInt ≤ (8 : Int)) → ((0 : Int) ≤ x5.toInt ∧ x5.toInt ≤ (1 : Int)) → ((-2 : Int) ≤ x6.toInt ∧ x6.toInt ≤ (3 : Int)) → (P ↔ x5.toInt = 1 ∨ rem (mR A) x1.toInt x3.toInt x6.toInt (-2)) → (3 - x6.toInt) < (N61 : Int) → Ok (self61 x1 x3 x5 x6 I A) (fun o => o.2 = (I, A) ∧ ((0 : Int) ≤ o.1.toInt ∧ o.1.toInt ≤ (1 : Int)) ∧ ((o.1.toInt = 1 ↔ P)))) {self71 : Int32 → Int32 → Int32 → Int32 → Int32 → (Nat → Int32) → (Nat → Nat → Int32) → Option (Int32 × MS)} {N71 : Nat} (hself71 : ∀ (x1 : Int32) (x3 : Int32) (x5 : Int32) (x6 : Int32) (x7 : Int32),  ((0 : Int) ≤ x1.toInt ∧ x1.toInt ≤ (63 : Int)) → ((0 : Int) ≤ x3.toInt ∧ x3.toInt ≤ (8 : Int)) → ((0 : Int) ≤ x5.toInt ∧ x5.toInt ≤ (1 : Int)) → ((-2 : Int) ≤ x6.toInt ∧ x6.toInt ≤ (2 : Int)) → ((-2 : Int) ≤ x7.toInt ∧ x7.toInt ≤ (3 : Int)) → (P ↔ x5.toInt = 1 ∨ rem (mR A) x1.toInt x3.toInt x6.toInt x7.toInt) → ((3 - x6.toInt) ≤ (N61 : Int)) → (3 - x7.toInt) < (N71 : Int) → Ok (self71 x1 x3 x5 x6 x7 I A) (fun o => o.2 = (I, A) ∧ ((0 : Int) ≤ o.1.toInt ∧ o.1.toInt ≤ (1 : Int)) ∧ ((o.1.toInt = 1 ↔ P)))) {x1 : Int32} {x3 : Int32} {x6 : Int32} {x7 : Int32} {x8 : Int32} (hI : TJ I) (hA : TK A) (r_x1 : (0 : Int) ≤ x1.toInt ∧ x1.toInt ≤ (63 : Int)) (r_x3 : (0 : Int) ≤ x3.toInt ∧ x3.toInt ≤ (8 : Int)) (r_x6 : (-2 : Int) ≤ x6.toInt ∧ x6.toInt ≤ (2 : Int)) (r_x7 : (-2 : Int) ≤ x7.toInt ∧ x7.toInt ≤ (2 : Int)) (r_x8 : (0 : Int) ≤ x8.toInt ∧ x8.toInt ≤ (8 : Int)) (q0 : FAR x6.toInt x7.toInt x8.toInt) (q1 : P ↔ hG (mR A) x1.toInt x3.toInt x6.toInt x7.toInt ∨ hL (mR A) x1.toInt x3.toInt x6.toInt x7.toInt ∨ rem (mR A) x1.toInt x3.toInt x6.toInt (x7.toInt + 1)) (m61 : (3 - x6.toInt) ≤ (N61 : Int)) (m71 : (3 - x7.toInt) ≤ (N71 : Int)) : Ok (f_isAttacked_119 self61 self71 x1 x3 x6 x7 x8 I A) (fun o => o.2 = (I, A) ∧ ((0 : Int) ≤ o.1.toInt ∧ o.1.toInt ≤ (1 : Int)) ∧ ((o.1.toInt = 1 ↔ P))) := by
  unfold f_isAttacked_119
  refine ok_if (fun c23 => ?_) (fun c23 => ?_)
  ·
    replace c23 := ti_leP c23 rfl (show (0 : Int32).toInt = 0 from rfl)
    unfold f_isAttacked_153
    exact x_isAttacked_154 (P := P)  hself61 hself71 (x1 := x1) (x3 := x3) (x6 := x6) (x7 := x7) (x8 := x8) (t0 := (0 : Int32)) hI hA r_x1 r_x3 r_x6 r_x7 r_x8 (by decide) q0 (at_f q1 (by first | (intro h9; unfold FAR kin at q0; have h8 := h9.1; unfold kin at h8; omega) | exact hG_s (stp_of p_r1.2) (by have := p_r3.2; omega))) m61 m71
  ·
    replace c23 := ti_leN c23 rfl (show (0 : Int32).toInt = 0 from rfl)
    refine ok_if (fun c24 => ?_) (fun c24 => ?_)
    ·
      replace c24 := ti_leP c24 (show (3 : Int32).toInt = 3 from rfl) rfl
      unfold f_isAttacked_153
      exact x_isAttacked_154 (P := P)  hself61 hself71 (x1 := x1) (x3 := x3) (x6 := x6) (x7 := x7) (x8 := x8) (t0 := (0 : Int32)) hI hA r_x1 r_x3 r_x6 r_x7 r_x8 (by decide) q0 (at_f q1 (by first | (intro h9; unfold FAR kin at q0; have h8 := h9.1; unfold kin at h8; omega) | exact hG_s (stp_of p_r1.2) (by have := p_r3.2; omega))) m61 m71
    ·
      replace c24 := ti_leN c24 (show (3 : Int32).toInt = 3 from rfl) rfl
      obtain ⟨r1, h_r1, p_r1⟩ := ro (t_step (x0 := x1) (x1 := x6) (x2 := x7)  hI hA r_x1 r_x6 r_x7)
      refine ok_clR h_r1 ?_
      dsimp only at p_r1
      refine ok_bnd (fun v2 e25 => ?_)
      have t_v2 : v2.toInt = 6 + x3.toInt := ti_add e25 (show (6 : Int32).toInt = 6 from rfl) rfl (by omega) (by omega)
      obtain ⟨r3, h_r3, p_r3⟩ := ro (x_stands (x1 := r1) (x2 := v2)  hI hA (by omega))
      refine ok_clR h_r3 ?_
      dsimp only at p_r3
      refine ok_if (fun c26 => ?_) (fun c26 => ?_)
      ·
        replace c26 := ti_eqP c26 rfl (show (0 : Int32).toInt = 0 from rfl)
        unfold f_isAttacked_153
        exact x_isAttacked_154 (P := P)  hself61 hself71 (x1 := x1) (x3 := x3) (x6 := x6) (x7 := x7) (x8 := x8) (t0 := (0 : Int32)) hI hA r_x1 r_x3 r_x6 r_x7 r_x8 (by decide) q0 (at_f q1 (by first | (intro h9; unfold FAR kin at q0; have h8 := h9.1; unfold kin at h8; omega) | exact hG_s (stp_of p_r1.2) (by have := p_r3.2; omega))) m61 m71
      ·
        replace c26 := ti_eqN c26 rfl (show (0 : Int32).toInt = 0 from rfl)
        unfold f_isAttacked_149
        exact x_isAttacked_154 (P := P)  hself61 hself71 (x1 := x1) (x3 := x3) (x6 := x6) (x7 := x7) (x8 := x8) (t0 := (1 : Int32)) hI hA r_x1 r_x3 r_x6 r_x7 r_x8 (by decide) (by first | assumption | (unfold FAR kin; omega)) (at_t (by first | exact q0.2 (Or.inl (by omega)) | exact at_hk q0 (by omega) (by omega) (hK_y (stp_of p_r5.2) (by unfold kni; omega) (by have := p_r7.2; omega)) | exact q1.2 (Or.inl (hG_y (stp_of p_r1.2) (by unfold FAR kin at q0; unfold kin; omega) (by have := p_r3.2; omega))))) m61 m71
theorem x_isAttacked_71s {P : Prop} {I : Nat → Int32} {A : Nat → Nat → Int32} {self61 : Int32 → Int32 → Int32 → Int32 → (Nat → Int32) → (Nat → Nat → Int32) → Option (Int32 × MS)} {N61 : Nat} (hself61 : ∀ (x1 : Int32) (x3 : Int32) (x5 : Int32) (x6 : Int32),  ((0 : Int) ≤ x1.toInt ∧ x1.toInt ≤ (63 : Int)) → ((0 : Int) ≤ x3.toInt ∧ x3.toInt ≤ (8 : Int)) → ((0 : Int) ≤ x5.toInt ∧ x5.toInt ≤ (1 : Int)) → ((-2 : Int) ≤ x6.toInt ∧ x6.toInt ≤ (3 : Int)) → (P ↔ x5.toInt = 1 ∨ rem (mR A) x1.toInt x3.toInt x6.toInt (-2)) → (3 - x6.toInt) < (N61 : Int) → Ok (self61 x1 x3 x5 x6 I A) (fun o => o.2 = (I, A) ∧ ((0 : Int) ≤ o.1.toInt ∧ o.1.toInt ≤ (1 : Int)) ∧ ((o.1.toInt = 1 ↔ P)))) {self71 : Int32 → Int32 → Int32 → Int32 → Int32 → (Nat → Int32) → (Nat → Nat → Int32) → Option (Int32 × MS)} {N71 : Nat} (hself71 : ∀ (x1 : Int32) (x3 : Int32) (x5 : Int32) (x6 : Int32) (x7 : Int32),  ((0 : Int) ≤ x1.toInt ∧ x1.toInt ≤ (63 : Int)) → ((0 : Int) ≤ x3.toInt ∧ x3.toInt ≤ (8 : Int)) → ((0 : Int) ≤ x5.toInt ∧ x5.toInt ≤ (1 : Int)) → ((-2 : Int) ≤ x6.toInt ∧ x6.toInt ≤ (2 : Int)) → ((-2 : Int) ≤ x7.toInt ∧ x7.toInt ≤ (3 : Int)) → (P ↔ x5.toInt = 1 ∨ rem (mR A) x1.toInt x3.toInt x6.toInt x7.toInt) → ((3 - x6.toInt) ≤ (N61 : Int)) → (3 - x7.toInt) < (N71 : Int) → Ok (self71 x1 x3 x5 x6 x7 I A) (fun o => o.2 = (I, A) ∧ ((0 : Int) ≤ o.1.toInt ∧ o.1.toInt ≤ (1 : Int)) ∧ ((o.1.toInt = 1 ↔ P)))) {x1 : Int32} {x3 : Int32} {x5 : Int32} {x6 : Int32} {x7 : Int32} (hI : TJ I) (hA : TK A) (r_x1 : (0 : Int) ≤ x1.toInt ∧ x1.toInt ≤ (63 : Int)) (r_x3 : (0 : Int) ≤ x3.toInt ∧ x3.toInt ≤ (8 : Int)) (r_x5 : (0 : Int) ≤ x5.toInt ∧ x5.toInt ≤ (1 : Int)) (r_x6 : (-2 : Int) ≤ x6.toInt ∧ x6.toInt ≤ (2 : Int)) (r_x7 : (-2 : Int) ≤ x7.toInt ∧ x7.toInt ≤ (3 : Int)) (q0 : P ↔ x5.toInt = 1 ∨ rem (mR A) x1.toInt x3.toInt x6.toInt x7.toInt) (m61 : (3 - x6.toInt) ≤ (N61 : Int)) (m71 : (3 - x7.toInt) ≤ (N71 : Int)) : Ok (f_isAttacked_71s self61 self71 x1 x3 x5 x6 x7 I A) (fun o => o.2 = (I, A) ∧ ((0 : Int) ≤ o.1.toInt ∧ o.1.toInt ≤ (1 : Int)) ∧ ((o.1.toInt = 1 ↔ P))) := by
  unfold f_isAttacked_71s
  refine ok_if (fun c27 => ?_) (fun c27 => ?_)
  ·
    replace c27 := ti_leP c27 (show (3 : Int32).toInt = 3 from rfl) rfl
    refine ok_bnd (fun v1 e28 => ?_)
    have t_v1 : v1.toInt = x6.toInt + 1 := ti_add e28 rfl (show (1 : Int32).toInt = 1 from rfl) (by omega) (by omega)
    exact hself61 x1 x3 x5 v1 r_x1 r_x3 r_x5 (by omega) (by rw [t_v1]; exact q0.trans (or_congr Iff.rfl (rem_r (by omega)))) (by omega)
  ·
    replace c27 := ti_leN c27 (show (3 : Int32).toInt = 3 from rfl) rfl
    refine ok_bnd (fun v2 e29 => ?_)
    have t_v2 := ti_sq e29 (by omega) (by omega)
    refine ok_bnd (fun v3 e30 => ?_)
    have t_v3 := ti_sq e30 (by omega) (by omega)
    refine ok_bnd (fun v4 e31 => ?_)
    have t_v4 : v4.toInt = v2.toInt + v3.toInt := ti_add e31 rfl rfl (by omega) (by omega)
    refine ok_if (fun c32 => ?_) (fun c32 => ?_)
    ·
      replace c32 := ti_eqP c32 rfl (show (0 : Int32).toInt = 0 from rfl)
      refine ok_if (fun c33 => ?_) (fun c33 => ?_)
      ·
        replace c33 := ti_eqP c33 rfl (show (5 : Int32).toInt = 5 from rfl)
        obtain ⟨r5, h_r5, p_r5⟩ := ro (t_step (x0 := x1) (x1 := x6) (x2 := x7)  hI hA r_x1 r_x6 (by omega))
        refine ok_clR h_r5 ?_
        dsimp only at p_r5
        refine ok_bnd (fun v6 e34 => ?_)
        have t_v6 : v6.toInt = 2 + x3.toInt := ti_add e34 (show (2 : Int32).toInt = 2 from rfl) rfl (by omega) (by omega)
        obtain ⟨r7, h_r7, p_r7⟩ := ro (x_stands (x1 := r5) (x2 := v6)  hI hA (by omega))
        refine ok_clR h_r7 ?_
        dsimp only at p_r7
        refine ok_if (fun c35 => ?_) (fun c35 => ?_)
        ·
          replace c35 := ti_eqP c35 rfl (show (0 : Int32).toInt = 0 from rfl)
          exact x_isAttacked_119 (P := P)  hself61 hself71 (x1 := x1) (x3 := x3) (x6 := x6) (x7 := x7) (x8 := v4) hI hA r_x1 r_x3 r_x6 (by omega) (by omega) (by unfold FAR kin; omega) (at_119 q0 (by omega) (by omega) (by omega) (by first | (unfold hK kni; omega) | exact hK_s (stp_of p_r5.2) (by have := p_r7.2; omega))) m61 m71
        ·
          replace c35 := ti_eqN c35 rfl (show (0 : Int32).toInt = 0 from rfl)
          unfold f_isAttacked_149
          exact x_isAttacked_154 (P := P)  hself61 hself71 (x1 := x1) (x3 := x3) (x6 := x6) (x7 := x7) (x8 := v4) (t0 := (1 : Int32)) hI hA r_x1 r_x3 r_x6 (by omega) (by omega) (by decide) (by first | assumption | (unfold FAR kin; omega)) (at_t (by first | exact q0.2 (Or.inl (by omega)) | exact at_hk q0 (by omega) (by omega) (hK_y (stp_of p_r5.2) (by unfold kni; omega) (by have := p_r7.2; omega)) | exact q1.2 (Or.inl (hG_y (stp_of p_r1.2) (by unfold FAR kin at q0; unfold kin; omega) (by have := p_r3.2; omega))))) m61 m71
      ·
        replace c33 := ti_eqN c33 rfl (show (5 : Int32).toInt = 5 from rfl)
        exact x_isAttacked_119 (P := P)  hself61 hself71 (x1 := x1) (x3 := x3) (x6 := x6) (x7 := x7) (x8 := v4) hI hA r_x1 r_x3 r_x6 (by omega) (by omega) (by unfold FAR kin; omega) (at_119 q0 (by omega) (by omega) (by omega) (by first | (unfold hK kni; omega) | exact hK_s (stp_of p_r5.2) (by have := p_r7.2; omega))) m61 m71
    ·
      replace c32 := ti_eqN c32 rfl (show (0 : Int32).toInt = 0 from rfl)
      unfold f_isAttacked_149
      exact x_isAttacked_154 (P := P)  hself61 hself71 (x1 := x1) (x3 := x3) (x6 := x6) (x7 := x7) (x8 := v4) (t0 := (1 : Int32)) hI hA r_x1 r_x3 r_x6 (by omega) (by omega) (by decide) (by first | assumption | (unfold FAR kin; omega)) (at_t (by first | exact q0.2 (Or.inl (by omega)) | exact at_hk q0 (by omega) (by omega) (hK_y (stp_of p_r5.2) (by unfold kni; omega) (by have := p_r7.2; omega)) | exact q1.2 (Or.inl (hG_y (stp_of p_r1.2) (by unfold FAR kin at q0; unfold kin; omega) (by have := p_r3.2; omega))))) m61 m71
theorem x_isAttacked_71 {P : Prop} {I : Nat → Int32} {A : Nat → Nat → Int32} {self61 : Int32 → Int32 → Int32 → Int32 → (Nat → Int32) → (Nat → Nat → Int32) → Option (Int32 × MS)} {N61 : Nat} (hself61 : ∀ (x1 : Int32) (x3 : Int32) (x5 : Int32) (x6 : Int32),  ((0 : Int) ≤ x1.toInt ∧ x1.toInt ≤ (63 : Int)) → ((0 : Int) ≤ x3.toInt ∧ x3.toInt ≤ (8 : Int)) → ((0 : Int) ≤ x5.toInt ∧ x5.toInt ≤ (1 : Int)) → ((-2 : Int) ≤ x6.toInt ∧ x6.toInt ≤ (3 : Int)) → (P ↔ x5.toInt = 1 ∨ rem (mR A) x1.toInt x3.toInt x6.toInt (-2)) → (3 - x6.toInt) < (N61 : Int) → Ok (self61 x1 x3 x5 x6 I A) (fun o => o.2 = (I, A) ∧ ((0 : Int) ≤ o.1.toInt ∧ o.1.toInt ≤ (1 : Int)) ∧ ((o.1.toInt = 1 ↔ P)))) (hI : TJ I) (hA : TK A) : ∀ (n : Nat) (x1 : Int32) (x3 : Int32) (x5 : Int32) (x6 : Int32) (x7 : Int32),  ((0 : Int) ≤ x1.toInt ∧ x1.toInt ≤ (63 : Int)) → ((0 : Int) ≤ x3.toInt ∧ x3.toInt ≤ (8 : Int)) → ((0 : Int) ≤ x5.toInt ∧ x5.toInt ≤ (1 : Int)) → ((-2 : Int) ≤ x6.toInt ∧ x6.toInt ≤ (2 : Int)) → ((-2 : Int) ≤ x7.toInt ∧ x7.toInt ≤ (3 : Int)) → (P ↔ x5.toInt = 1 ∨ rem (mR A) x1.toInt x3.toInt x6.toInt x7.toInt) → ((3 - x6.toInt) ≤ (N61 : Int)) → (3 - x7.toInt) < (n : Int) → Ok (f_isAttacked_71 self61 n x1 x3 x5 x6 x7 I A) (fun o => o.2 = (I, A) ∧ ((0 : Int) ≤ o.1.toInt ∧ o.1.toInt ≤ (1 : Int)) ∧ ((o.1.toInt = 1 ↔ P))) := by
  intro n
  induction n with
  | zero => intro x1 x3 x5 x6 x7 g0 g1 g2 g3 g4 g5 w0 hm; exfalso; omega
  | succ n ih =>
    intro x1 x3 x5 x6 x7 g0 g1 g2 g3 g4 g5 w0 hm
    exact x_isAttacked_71s (P := P)  (N71 := n) hself61 ih hI hA g0 g1 g2 g3 g4 g5 w0 (by omega)
theorem x_isAttacked_61s {P : Prop} {I : Nat → Int32} {A : Nat → Nat → Int32} {self61 : Int32 → Int32 → Int32 → Int32 → (Nat → Int32) → (Nat → Nat → Int32) → Option (Int32 × MS)} {N61 : Nat} (hself61 : ∀ (x1 : Int32) (x3 : Int32) (x5 : Int32) (x6 : Int32),  ((0 : Int) ≤ x1.toInt ∧ x1.toInt ≤ (63 : Int)) → ((0 : Int) ≤ x3.toInt ∧ x3.toInt ≤ (8 : Int)) → ((0 : Int) ≤ x5.toInt ∧ x5.toInt ≤ (1 : Int)) → ((-2 : Int) ≤ x6.toInt ∧ x6.toInt ≤ (3 : Int)) → (P ↔ x5.toInt = 1 ∨ rem (mR A) x1.toInt x3.toInt x6.toInt (-2)) → (3 - x6.toInt) < (N61 : Int) → Ok (self61 x1 x3 x5 x6 I A) (fun o => o.2 = (I, A) ∧ ((0 : Int) ≤ o.1.toInt ∧ o.1.toInt ≤ (1 : Int)) ∧ ((o.1.toInt = 1 ↔ P)))) {x1 : Int32} {x3 : Int32} {x5 : Int32} {x6 : Int32} (hI : TJ I) (hA : TK A) (r_x1 : (0 : Int) ≤ x1.toInt ∧ x1.toInt ≤ (63 : Int)) (r_x3 : (0 : Int) ≤ x3.toInt ∧ x3.toInt ≤ (8 : Int)) (r_x5 : (0 : Int) ≤ x5.toInt ∧ x5.toInt ≤ (1 : Int)) (r_x6 : (-2 : Int) ≤ x6.toInt ∧ x6.toInt ≤ (3 : Int)) (q0 : P ↔ x5.toInt = 1 ∨ rem (mR A) x1.toInt x3.toInt x6.toInt (-2)) (m61 : (3 - x6.toInt) ≤ (N61 : Int)) : Ok (f_isAttacked_61s self61 x1 x3 x5 x6 I A) (fun o => o.2 = (I, A) ∧ ((0 : Int) ≤ o.1.toInt ∧ o.1.toInt ≤ (1 : Int)) ∧ ((o.1.toInt = 1 ↔ P))) := by
  unfold f_isAttacked_61s
  refine ok_if (fun c36 => ?_) (fun c36 => ?_)
  ·
    replace c36 := ti_leP c36 (show (3 : Int32).toInt = 3 from rfl) rfl
    refine ok_chk (nar_b (by omega) (by omega)) ?_
    exact ok_ret ⟨rfl, (show (0 : Int) ≤ x5.toInt ∧ x5.toInt ≤ (1 : Int) from (by omega)), (by show ((x5 : Int32).toInt = 1 ↔ P); rw [q0]; exact ⟨Or.inl, fun h => h.elim id (fun h2 => absurd h2 (rem_e (by omega)))⟩)⟩
  ·
    replace c36 := ti_leN c36 (show (3 : Int32).toInt = 3 from rfl) rfl
    exact x_isAttacked_71 (P := P)  hself61 hI hA mFuel x1 x3 x5 x6 (-2 : Int32)  r_x1 r_x3 r_x5 (by omega) (by decide) q0 m61 (by show _ < ((200000 : Nat) : Int); have z0 : (-2 : Int32).toInt = -2 := rfl; omega)
theorem x_isAttacked_61 {P : Prop} {I : Nat → Int32} {A : Nat → Nat → Int32} (hI : TJ I) (hA : TK A) : ∀ (n : Nat) (x1 : Int32) (x3 : Int32) (x5 : Int32) (x6 : Int32),  ((0 : Int) ≤ x1.toInt ∧ x1.toInt ≤ (63 : Int)) → ((0 : Int) ≤ x3.toInt ∧ x3.toInt ≤ (8 : Int)) → ((0 : Int) ≤ x5.toInt ∧ x5.toInt ≤ (1 : Int)) → ((-2 : Int) ≤ x6.toInt ∧ x6.toInt ≤ (3 : Int)) → (P ↔ x5.toInt = 1 ∨ rem (mR A) x1.toInt x3.toInt x6.toInt (-2)) → (3 - x6.toInt) < (n : Int) → Ok (f_isAttacked_61  n x1 x3 x5 x6 I A) (fun o => o.2 = (I, A) ∧ ((0 : Int) ≤ o.1.toInt ∧ o.1.toInt ≤ (1 : Int)) ∧ ((o.1.toInt = 1 ↔ P))) := by
  intro n
  induction n with
  | zero => intro x1 x3 x5 x6 g0 g1 g2 g3 g4  hm; exfalso; omega
  | succ n ih =>
    intro x1 x3 x5 x6 g0 g1 g2 g3 g4  hm
    exact x_isAttacked_61s (P := P)  (N61 := n)  ih hI hA g0 g1 g2 g3 g4  (by omega)
theorem x_isAttacked_55 {P : Prop} {I : Nat → Int32} {A : Nat → Nat → Int32} {x1 : Int32} {x3 : Int32} {t0 : Int32} (hI : TJ I) (hA : TK A) (r_x1 : (0 : Int) ≤ x1.toInt ∧ x1.toInt ≤ (63 : Int)) (r_x3 : (0 : Int) ≤ x3.toInt ∧ x3.toInt ≤ (8 : Int)) (r_t0 : (0 : Int) ≤ t0.toInt ∧ t0.toInt ≤ (1 : Int)) (q0 : P ↔ t0.toInt = 1 ∨ rem (mR A) x1.toInt x3.toInt (-2) (-2)) : Ok (f_isAttacked_55 x1 x3 t0 I A) (fun o => o.2 = (I, A) ∧ ((0 : Int) ≤ o.1.toInt ∧ o.1.toInt ≤ (1 : Int)) ∧ ((o.1.toInt = 1 ↔ P))) := by
  unfold f_isAttacked_55
  exact x_isAttacked_61 (P := P)   hI hA mFuel x1 x3 t0 (-2 : Int32)  r_x1 r_x3 r_t0 (by decide) q0 (by show _ < ((200000 : Nat) : Int); have z0 : (-2 : Int32).toInt = -2 := rfl; omega)
theorem x_isAttacked_14 {P : Prop} {I : Nat → Int32} {A : Nat → Nat → Int32} {x1 : Int32} {x3 : Int32} {t0 : Int32} (hI : TJ I) (hA : TK A) (r_x1 : (0 : Int) ≤ x1.toInt ∧ x1.toInt ≤ (63 : Int)) (r_x3 : (0 : Int) ≤ x3.toInt ∧ x3.toInt ≤ (8 : Int)) (r_t0 : (-1 : Int) ≤ t0.toInt ∧ t0.toInt ≤ (1 : Int)) (q0 : P ↔ pwX (mR A) x1.toInt x3.toInt t0.toInt ∨ rem (mR A) x1.toInt x3.toInt (-2) (-2)) : Ok (f_isAttacked_14 x1 x3 t0 I A) (fun o => o.2 = (I, A) ∧ ((0 : Int) ≤ o.1.toInt ∧ o.1.toInt ≤ (1 : Int)) ∧ ((o.1.toInt = 1 ↔ P))) := by
  unfold f_isAttacked_14
  obtain ⟨r1, h_r1, p_r1⟩ := ro (t_step (x0 := x1) (x1 := (-1 : Int32)) (x2 := t0)  hI hA r_x1 (by decide) (by omega))
  refine ok_clR h_r1 ?_
  dsimp only at p_r1
  refine ok_bnd (fun v2 e37 => ?_)
  have t_v2 : v2.toInt = 1 + x3.toInt := ti_add e37 (show (1 : Int32).toInt = 1 from rfl) rfl (by omega) (by omega)
  obtain ⟨r3, h_r3, p_r3⟩ := ro (x_stands (x1 := r1) (x2 := v2)  hI hA (by omega))
  refine ok_clR h_r3 ?_
  dsimp only at p_r3
  refine ok_if (fun c38 => ?_) (fun c38 => ?_)
  ·
    replace c38 := ti_eqP c38 rfl (show (0 : Int32).toInt = 0 from rfl)
    obtain ⟨r4, h_r4, p_r4⟩ := ro (t_step (x0 := x1) (x1 := (1 : Int32)) (x2 := t0)  hI hA r_x1 (by decide) (by omega))
    refine ok_clR h_r4 ?_
    dsimp only at p_r4
    refine ok_bnd (fun v5 e39 => ?_)
    have t_v5 : v5.toInt = 1 + x3.toInt := ti_add e39 (show (1 : Int32).toInt = 1 from rfl) rfl (by omega) (by omega)
    obtain ⟨r6, h_r6, p_r6⟩ := ro (x_stands (x1 := r4) (x2 := v5)  hI hA (by omega))
    refine ok_clR h_r6 ?_
    dsimp only at p_r6
    refine ok_if (fun c40 => ?_) (fun c40 => ?_)
    ·
      replace c40 := ti_eqP c40 rfl (show (0 : Int32).toInt = 0 from rfl)
      exact x_isAttacked_55 (P := P)   (x1 := x1) (x3 := x3) (t0 := (0 : Int32)) hI hA r_x1 r_x3 (by decide) (at_f q0 (pw_n (stp_of p_r1.2) (stp_of p_r4.2) (by have := p_r3.2; omega) (by have := p_r6.2; omega)))
    ·
      replace c40 := ti_eqN c40 rfl (show (0 : Int32).toInt = 0 from rfl)
      unfold f_isAttacked_50
      exact x_isAttacked_55 (P := P)   (x1 := x1) (x3 := x3) (t0 := (1 : Int32)) hI hA r_x1 r_x3 (by decide) (at_t (q0.2 (Or.inl (by first | exact pw_r (stp_of p_r4.2) (by have := p_r6.2; omega) | exact pw_l (stp_of p_r1.2) (by have := p_r3.2; omega)))))
  ·
    replace c38 := ti_eqN c38 rfl (show (0 : Int32).toInt = 0 from rfl)
    unfold f_isAttacked_50
    exact x_isAttacked_55 (P := P)   (x1 := x1) (x3 := x3) (t0 := (1 : Int32)) hI hA r_x1 r_x3 (by decide) (at_t (q0.2 (Or.inl (by first | exact pw_r (stp_of p_r4.2) (by have := p_r6.2; omega) | exact pw_l (stp_of p_r1.2) (by have := p_r3.2; omega)))))
theorem x_isAttacked_0 {P : Prop} {I : Nat → Int32} {A : Nat → Nat → Int32} {x1 : Int32} {x2 : Int32} (hI : TJ I) (hA : TK A) (r_x1 : (0 : Int) ≤ x1.toInt ∧ x1.toInt ≤ (63 : Int)) (r_x2 : (0 : Int) ≤ x2.toInt ∧ x2.toInt ≤ (1 : Int)) (q0 : P ↔ attR (mR A) x1.toInt x2.toInt) : Ok (f_isAttacked_0 x1 x2 I A) (fun o => o.2 = (I, A) ∧ ((0 : Int) ≤ o.1.toInt ∧ o.1.toInt ≤ (1 : Int)) ∧ ((o.1.toInt = 1 ↔ P))) := by
  unfold f_isAttacked_0
  refine ok_bnd (fun v1 e41 => ?_)
  have t_v1 : v1.toInt = 8 * x2.toInt := ti_mul e41 (show (8 : Int32).toInt = 8 from rfl) rfl (by omega) (by omega)
  refine ok_if (fun c42 => ?_) (fun c42 => ?_)
  ·
    replace c42 := ti_eqP c42 rfl (show (0 : Int32).toInt = 0 from rfl)
    exact x_isAttacked_14 (P := P)   (x1 := x1) (x3 := v1) (t0 := (-1 : Int32)) hI hA r_x1 (by omega) (by decide) (at_14 q0 (by have z : (-1 : Int32).toInt = -1 := rfl; omega) t_v1)
  ·
    replace c42 := ti_eqN c42 rfl (show (0 : Int32).toInt = 0 from rfl)
    exact x_isAttacked_14 (P := P)   (x1 := x1) (x3 := v1) (t0 := (1 : Int32)) hI hA r_x1 (by omega) (by decide) (at_14 q0 (by have z : (1 : Int32).toInt = 1 := rfl; omega) t_v1)
theorem x_isAttacked {P : Prop} {I : Nat → Int32} {A : Nat → Nat → Int32} {x1 : Int32} {x2 : Int32} (hI : TJ I) (hA : TK A) (r_x1 : (0 : Int) ≤ x1.toInt ∧ x1.toInt ≤ (63 : Int)) (r_x2 : (0 : Int) ≤ x2.toInt ∧ x2.toInt ≤ (1 : Int)) (q0 : P ↔ attR (mR A) x1.toInt x2.toInt) : Ok (f_isAttacked x1 x2 I A) (fun o => o.2 = (I, A) ∧ ((0 : Int) ≤ o.1.toInt ∧ o.1.toInt ≤ (1 : Int)) ∧ ((o.1.toInt = 1 ↔ P))) := x_isAttacked_0 (P := P) hI hA r_x1 r_x2 q0
theorem y_isAttacked {I : Nat → Int32} {A : Nat → Nat → Int32} {x1 x2 : Int32} (hI : TJ I) (hA : TK A) (r_x1 : (0 : Int) ≤ x1.toInt ∧ x1.toInt ≤ (63 : Int)) (r_x2 : (0 : Int) ≤ x2.toInt ∧ x2.toInt ≤ (1 : Int)) (hM : MBd (mR A)) : Ok (f_isAttacked x1 x2 I A) (fun o => o.2 = (I, A) ∧ ((0 : Int) ≤ o.1.toInt ∧ o.1.toInt ≤ (1 : Int)) ∧ (o.1.toInt = 1 ↔ attd (mR A) x1.toInt x2.toInt)) := by
  obtain ⟨o, h1, h2, h3, h4⟩ := x_isAttacked (P := attR (mR A) x1.toInt x2.toInt) hI hA r_x1 r_x2 Iff.rfl
  exact ⟨o, h1, h2, h3, h4.trans (att_eq hM (by omega) (by omega))⟩
end
section
theorem mB_at {S : ZS} {b c : Nat} {x v : Int32} (p : zP S 0 b = some c) (e : v = zA S c (x).toNatClampNeg) (h1 : 0 ≤ x.toInt) (h2 : x.toInt < 64) : v.toInt = mCb S b x.toInt := by
  unfold mCb
  rw [if_pos ⟨h1, h2⟩, p, e]
  rfl
section ATC
variable {P : Prop} {m : Int → Int}
theorem ac_0 (h : P ↔ P) : True := trivial
theorem ac_54 {a b k : Int} (h : P ↔ attk m a b) (hk : m a = k) (h1 : k % 8 = 1) : P ↔ paw k (b % 8 - a % 8) (b / 8 - a / 8) := by
  rw [h]
  unfold attk
  rw [hk, h1]
  constructor
  · rintro (g | g | g | g)
    · exact g.2
    · exact absurd g.1 (by decide)
    · exact absurd g.1 (by decide)
    · have := g.1
      unfold lin at this
      omega
  · intro g
    exact Or.inl ⟨rfl, g⟩
theorem ac_94 {a b k : Int} (h : P ↔ attk m a b) (hk : m a % 8 = k) (h1 : k = 2) : P ↔ kni (b % 8 - a % 8) (b / 8 - a / 8) := by
  rw [h]
  unfold attk
  rw [hk, h1]
  constructor
  · rintro (g | g | g | g)
    · exact absurd g.1 (by decide)
    · exact g.2
    · exact absurd g.1 (by decide)
    · have := g.1
      unfold lin at this
      omega
  · intro g
    exact Or.inr (Or.inl ⟨rfl, g⟩)
theorem ac_105 {a b k x y : Int} (h : P ↔ attk m a b) (hk : m a % 8 = k) (h1 : k ≠ 1) (h2 : k ≠ 2) (hx : x = b % 8 - a % 8) (hy : y = b / 8 - a / 8) : P ↔ (k = 6 ∧ kin x y) ∨ (lin k x y ∧ clr m a x y) := by
  rw [h]
  unfold attk
  rw [hk, ← hx, ← hy]
  constructor
  · rintro (g | g | g | g)
    · exact absurd g.1 h1
    · exact absurd g.1 h2
    · exact Or.inl g
    · exact Or.inr g
  · rintro (g | g)
    · exact Or.inr (Or.inr (Or.inl g))
    · exact Or.inr (Or.inr (Or.inr g))
theorem ac_172 {a k x y : Int} (h : P ↔ (k = 6 ∧ kin x y) ∨ (lin k x y ∧ clr m a x y)) (h1 : k ≠ 6) : P ↔ lin k x y ∧ clr m a x y := by
  rw [h]
  exact ⟨fun g => g.elim (fun z => absurd z.1 h1) id, Or.inr⟩
theorem ac_king {a k x y n : Int} (h : P ↔ (k = 6 ∧ kin x y) ∨ (lin k x y ∧ clr m a x y)) (h1 : k = 6) (hn : n = 1 ↔ kin x y) : n = 1 ↔ P := by
  rw [h, hn, h1]
  refine ⟨fun g => Or.inl ⟨rfl, g⟩, fun g => g.elim (fun z => z.2) (fun z => ?_)⟩
  have := z.1
  unfold lin at this
  omega
theorem ac_223 {a k x y t : Int} (h : P ↔ lin k x y ∧ clr m a x y) (ht : t = 1 ∧ (x ≠ 0 ∨ y ≠ 0) ↔ lin k x y) : P ↔ (t = 1 ∧ (x ≠ 0 ∨ y ≠ 0)) ∧ clr m a x y := by
  rw [h, ht]
theorem ac_254 {a x y t n u : Int} (h : P ↔ (t = 1 ∧ (x ≠ 0 ∨ y ≠ 0)) ∧ clr m a x y) (ht : t = 1 ∧ (x ≠ 0 ∨ y ≠ 0)) (hn : n = nst x y) (hu : u = sg x) : P ↔ ∀ j : Int, 1 ≤ j → j < n → m (a + j * (u + 8 * sg y)) = 0 := by
  rw [h, hn, hu]
  exact ⟨fun g => g.2, fun g => ⟨ht, g⟩⟩
theorem ac_275 {a n u y s : Int} (h : P ↔ ∀ j : Int, 1 ≤ j → j < n → m (a + j * (u + 8 * sg y)) = 0) (hs : s = 8 * sg y) : P ↔ ∀ j : Int, 1 ≤ j → j < n → m (a + j * (u + s)) = 0 := by
  rw [h, hs]
theorem ac_self {a n s i k v : Int} (h : P ↔ ∀ j : Int, i ≤ j → j < n → m (a + j * s) = 0) (hi : k = i + 1) (hv : m (a + i * s) = v) (h0 : v = 0) : P ↔ ∀ j : Int, k ≤ j → j < n → m (a + j * s) = 0 := by
  rw [h, hi]
  constructor
  · intro g j j1 j2
    exact g j (by omega) j2
  · intro g j j1 j2
    by_cases e : j = i
    · rw [e, hv, h0]
    · exact g j (by omega) j2
theorem ac_end {a n s i : Int} (h : P ↔ ∀ j : Int, i ≤ j → j < n → m (a + j * s) = 0) (hi : n ≤ i) : (1 : Int32).toInt = 1 ↔ P := by
  rw [h]
  exact ⟨fun _ j j1 j2 => by omega, fun _ => rfl⟩
theorem ac_no {a n s i v : Int} (h : P ↔ ∀ j : Int, i ≤ j → j < n → m (a + j * s) = 0) (hi : i < n) (hv : m (a + i * s) = v) (h0 : v ≠ 0) : (0 : Int32).toInt = 1 ↔ P := by
  rw [h]
  exact ⟨fun g => absurd g (by decide), fun g => absurd (hv.symm.trans (g i (Int.le_refl _) hi)) h0⟩
end ATC
theorem x_f_X0_kindAt_0 {S : ZS} {x0 : Nat} {x1 : Int32} (hT : ZT S) (r_x0 : zK S x0 = 0) (r_x1 : (0 : Int) ≤ x1.toInt ∧ x1.toInt ≤ (63 : Int)) (q0 : MBd (mCb S x0)) : Ok (f_X0_kindAt_0 x0 x1 S) (fun o => o.2 = S ∧ ((0 : Int) ≤ o.1.toInt ∧ o.1.toInt ≤ (7 : Int)) ∧ (o.1.toInt = mCb S x0 x1.toInt % 8)) := by
  unfold f_X0_kindAt_0
  refine ok_chk r_x0 ?_
  obtain ⟨b1, p_b1, k_b1, n_b1⟩ := T_0_0 hT r_x0
  refine ok_calR p_b1 ?_
  refine ok_chk k_b1 ?_
  refine ok_chk (ti_inN (v := x1) (n := 64) n_b1 (by omega) (by omega)) ?_
  refine ok_bnd (fun v2 e1 => ?_)
  have u_v2 : v2.toInt = mCb S x0 x1.toInt := mB_at (x := x1) p_b1 e1 (by omega) (by omega)
  have w_v2 := q0 (x1.toInt)
  refine ok_bnd (fun v3 e2 => ?_)
  have t_v3 : v3.toInt = v2.toInt % 8 := b_and7 e2 (by omega)
  exact ok_ret ⟨rfl, (show (0 : Int) ≤ v3.toInt ∧ v3.toInt ≤ (7 : Int) from (by omega)), (by show v3.toInt = mCb S x0 x1.toInt % 8; omega)⟩
theorem x_f_X0_kindAt {S : ZS} {x0 : Nat} {x1 : Int32} (hT : ZT S) (r_x0 : zK S x0 = 0) (r_x1 : (0 : Int) ≤ x1.toInt ∧ x1.toInt ≤ (63 : Int)) (q0 : MBd (mCb S x0)) : Ok (f_X0_kindAt x0 x1 S) (fun o => o.2 = S ∧ ((0 : Int) ≤ o.1.toInt ∧ o.1.toInt ≤ (7 : Int)) ∧ (o.1.toInt = mCb S x0 x1.toInt % 8)) := x_f_X0_kindAt_0 hT r_x0 r_x1 q0
theorem x_f_X0_attacks_281s {P : Prop} {S : ZS} {self281 : Nat → Int32 → Int32 → Int32 → Int32 → ZS → Option (Int32 × ZS)} {N281 : Nat} (hself281 : ∀ (x0 : Nat) (x1 : Int32) (x8 : Int32) (x11 : Int32) (x12 : Int32),  (zK S x0 = 0) → ((0 : Int) ≤ x1.toInt ∧ x1.toInt ≤ (63 : Int)) → ((0 : Int) ≤ x8.toInt ∧ x8.toInt ≤ (7 : Int)) → ((-9 : Int) ≤ x11.toInt ∧ x11.toInt ≤ (9 : Int)) → ((1 : Int) ≤ x12.toInt ∧ x12.toInt ≤ (8 : Int)) → (wayk x1.toInt x11.toInt x8.toInt) → (P ↔ ∀ j : Int, x12.toInt ≤ j → j < x8.toInt → mCb S x0 (x1.toInt + j * x11.toInt) = 0) → (9 - x12.toInt) < (N281 : Int) → Ok (self281 x0 x1 x8 x11 x12 S) (fun o => o.2 = S ∧ ((0 : Int) ≤ o.1.toInt ∧ o.1.toInt ≤ (1 : Int)) ∧ ((o.1.toInt = 1 ↔ P)))) {x0 : Nat} {x1 : Int32} {x8 : Int32} {x11 : Int32} {x12 : Int32} (hT : ZT S) (r_x0 : zK S x0 = 0) (r_x1 : (0 : Int) ≤ x1.toInt ∧ x1.toInt ≤ (63 : Int)) (r_x8 : (0 : Int) ≤ x8.toInt ∧ x8.toInt ≤ (7 : Int)) (r_x11 : (-9 : Int) ≤ x11.toInt ∧ x11.toInt ≤ (9 : Int)) (r_x12 : (1 : Int) ≤ x12.toInt ∧ x12.toInt ≤ (8 : Int)) (q0 : wayk x1.toInt x11.toInt x8.toInt) (q1 : P ↔ ∀ j : Int, x12.toInt ≤ j → j < x8.toInt → mCb S x0 (x1.toInt + j * x11.toInt) = 0) (m281 : (9 - x12.toInt) ≤ (N281 : Int)) : Ok (f_X0_attacks_281s self281 x0 x1 x8 x11 x12 S) (fun o => o.2 = S ∧ ((0 : Int) ≤ o.1.toInt ∧ o.1.toInt ≤ (1 : Int)) ∧ ((o.1.toInt = 1 ↔ P))) := by
  unfold f_X0_attacks_281s
  refine ok_if (fun c3 => ?_) (fun c3 => ?_)
  ·
    replace c3 := ti_leP (a := x8) (b := x12) c3 rfl rfl
    refine ok_chk (by decide) ?_
    exact ok_ret ⟨rfl, (show (0 : Int) ≤ (1 : Int32).toInt ∧ (1 : Int32).toInt ≤ (1 : Int) from (by decide)), (by show ((1 : Int32).toInt = 1 ↔ P); first | exact ac_end q1 (by omega) | exact ac_no q1 (by omega) (show _ = v4.toInt by rw [u_v4, t_v3, t_v2]) (by omega))⟩
  ·
    replace c3 := ti_leN (a := x8) (b := x12) c3 rfl rfl
    refine ok_chk r_x0 ?_
    obtain ⟨b1, p_b1, k_b1, n_b1⟩ := T_0_0 hT r_x0
    refine ok_calR p_b1 ?_
    refine ok_bnd (fun v2 e4 => ?_)
    have w2 := q0 x12.toInt (by omega) (by omega)
    have t_v2 : v2.toInt = x12.toInt * x11.toInt := ti_mul e4 rfl rfl (by omega) (by omega)
    refine ok_bnd (fun v3 e5 => ?_)
    have t_v3 : v3.toInt = x1.toInt + v2.toInt := ti_add e5 rfl rfl (by omega) (by omega)
    refine ok_chk k_b1 ?_
    refine ok_chk (ti_inN (v := v3) (n := 64) n_b1 (by omega) (by omega)) ?_
    refine ok_bnd (fun v4 e6 => ?_)
    have u_v4 : v4.toInt = mCb S x0 v3.toInt := mB_at (x := v3) p_b1 e6 (by omega) (by omega)
    refine ok_if (fun c7 => ?_) (fun c7 => ?_)
    ·
      replace c7 := ti_eqP (a := v4) (b := (0 : Int32)) c7 rfl (show (0 : Int32).toInt = 0 from rfl)
      refine ok_bnd (fun v5 e8 => ?_)
      have t_v5 : v5.toInt = x12.toInt + 1 := ti_add e8 rfl (show (1 : Int32).toInt = 1 from rfl) (by omega) (by omega)
      exact hself281 x0 x1 x8 x11 v5  r_x0 r_x1 r_x8 r_x11 (by omega) q0 (ac_self q1 (by omega) (show _ = v4.toInt by rw [u_v4, t_v3, t_v2]) (by omega)) (by omega)
    ·
      replace c7 := ti_eqN (a := v4) (b := (0 : Int32)) c7 rfl (show (0 : Int32).toInt = 0 from rfl)
      refine ok_chk (by decide) ?_
      exact ok_ret ⟨rfl, (show (0 : Int) ≤ (0 : Int32).toInt ∧ (0 : Int32).toInt ≤ (1 : Int) from (by decide)), (by show ((0 : Int32).toInt = 1 ↔ P); first | exact ac_end q1 (by omega) | exact ac_no q1 (by omega) (show _ = v4.toInt by rw [u_v4, t_v3, t_v2]) (by omega))⟩
theorem x_f_X0_attacks_281 {P : Prop} {S : ZS} (hT : ZT S) : ∀ (n : Nat) (x0 : Nat) (x1 : Int32) (x8 : Int32) (x11 : Int32) (x12 : Int32),  (zK S x0 = 0) → ((0 : Int) ≤ x1.toInt ∧ x1.toInt ≤ (63 : Int)) → ((0 : Int) ≤ x8.toInt ∧ x8.toInt ≤ (7 : Int)) → ((-9 : Int) ≤ x11.toInt ∧ x11.toInt ≤ (9 : Int)) → ((1 : Int) ≤ x12.toInt ∧ x12.toInt ≤ (8 : Int)) → (wayk x1.toInt x11.toInt x8.toInt) → (P ↔ ∀ j : Int, x12.toInt ≤ j → j < x8.toInt → mCb S x0 (x1.toInt + j * x11.toInt) = 0) → (9 - x12.toInt) < (n : Int) → Ok (f_X0_attacks_281  n x0 x1 x8 x11 x12 S) (fun o => o.2 = S ∧ ((0 : Int) ≤ o.1.toInt ∧ o.1.toInt ≤ (1 : Int)) ∧ ((o.1.toInt = 1 ↔ P))) := by
  intro n
  induction n with
  | zero => intro x0 x1 x8 x11 x12 g0 g1 g2 g3 g4 g5 g6  hm; exfalso; omega
  | succ n ih =>
    intro x0 x1 x8 x11 x12 g0 g1 g2 g3 g4 g5 g6  hm
    exact x_f_X0_attacks_281s (P := P) (N281 := n)  ih hT g0 g1 g2 g3 g4 g5 g6  (by omega)
theorem x_f_X0_attacks_275 {P : Prop} {S : ZS} {x0 : Nat} {x1 : Int32} {x8 : Int32} {t0 : Int32} {t1 : Int32} (hT : ZT S) (r_x0 : zK S x0 = 0) (r_x1 : (0 : Int) ≤ x1.toInt ∧ x1.toInt ≤ (63 : Int)) (r_x8 : (0 : Int) ≤ x8.toInt ∧ x8.toInt ≤ (7 : Int)) (r_t0 : (-8 : Int) ≤ t0.toInt ∧ t0.toInt ≤ (8 : Int)) (r_t1 : (-1 : Int) ≤ t1.toInt ∧ t1.toInt ≤ (1 : Int)) (q0 : wayk x1.toInt (t1.toInt + t0.toInt) x8.toInt) (q1 : P ↔ ∀ j : Int, 1 ≤ j → j < x8.toInt → mCb S x0 (x1.toInt + j * (t1.toInt + t0.toInt)) = 0) : Ok (f_X0_attacks_275 x0 x1 x8 t0 t1 S) (fun o => o.2 = S ∧ ((0 : Int) ≤ o.1.toInt ∧ o.1.toInt ≤ (1 : Int)) ∧ ((o.1.toInt = 1 ↔ P))) := by
  unfold f_X0_attacks_275
  refine ok_bnd (fun v1 e9 => ?_)
  have t_v1 : v1.toInt = t1.toInt + t0.toInt := ti_add e9 rfl rfl (by omega) (by omega)
  exact x_f_X0_attacks_281 (P := P)  hT mFuel x0 x1 x8 v1 (1 : Int32)  r_x0 r_x1 r_x8 (by omega) (by decide) (by rw [t_v1]; exact q0) (by rw [t_v1]; exact q1) (by show _ < ((200000 : Nat) : Int); have z0 : (1 : Int32).toInt = 1 := rfl; omega)
theorem x_f_X0_attacks_254 {P : Prop} {S : ZS} {x0 : Nat} {x1 : Int32} {x4 : Int32} {x8 : Int32} {t0 : Int32} (hT : ZT S) (r_x0 : zK S x0 = 0) (r_x1 : (0 : Int) ≤ x1.toInt ∧ x1.toInt ≤ (63 : Int)) (r_x4 : (-7 : Int) ≤ x4.toInt ∧ x4.toInt ≤ (7 : Int)) (r_x8 : (0 : Int) ≤ x8.toInt ∧ x8.toInt ≤ (7 : Int)) (r_t0 : (-1 : Int) ≤ t0.toInt ∧ t0.toInt ≤ (1 : Int)) (q0 : way3 x1.toInt t0.toInt x4.toInt x8.toInt) (q1 : P ↔ ∀ j : Int, 1 ≤ j → j < x8.toInt → mCb S x0 (x1.toInt + j * (t0.toInt + 8 * sg x4.toInt)) = 0) : Ok (f_X0_attacks_254 x0 x1 x4 x8 t0 S) (fun o => o.2 = S ∧ ((0 : Int) ≤ o.1.toInt ∧ o.1.toInt ≤ (1 : Int)) ∧ ((o.1.toInt = 1 ↔ P))) := by
  unfold f_X0_attacks_254
  refine ok_if (fun c10 => ?_) (fun c10 => ?_)
  ·
    replace c10 := ti_leP (a := x4) (b := (0 : Int32)) c10 rfl (show (0 : Int32).toInt = 0 from rfl)
    refine ok_if (fun c11 => ?_) (fun c11 => ?_)
    ·
      replace c11 := ti_leP (a := (0 : Int32)) (b := x4) c11 (show (0 : Int32).toInt = 0 from rfl) rfl
      exact x_f_X0_attacks_275 (P := P) (S := S)  (x0 := x0) (x1 := x1) (x8 := x8) (t0 := (0 : Int32)) (t1 := t0) hT r_x0 r_x1 r_x8 (by decide) r_t0 (way3_0 r_t0 r_x1 q0 (by omega)) (ac_275 q1 (by have z0 : (0 : Int32).toInt = 0 := rfl; have z1 : (1 : Int32).toInt = 1 := rfl; have z2 : (-1 : Int32).toInt = -1 := rfl; have z3 : (8 : Int32).toInt = 8 := rfl; have z4 : (-8 : Int32).toInt = -8 := rfl; unfold sg; omega))
    ·
      replace c11 := ti_leN (a := (0 : Int32)) (b := x4) c11 (show (0 : Int32).toInt = 0 from rfl) rfl
      exact x_f_X0_attacks_275 (P := P) (S := S)  (x0 := x0) (x1 := x1) (x8 := x8) (t0 := (-8 : Int32)) (t1 := t0) hT r_x0 r_x1 r_x8 (by decide) r_t0 (way3_m r_t0 r_x1 q0 (by omega)) (ac_275 q1 (by have z0 : (0 : Int32).toInt = 0 := rfl; have z1 : (1 : Int32).toInt = 1 := rfl; have z2 : (-1 : Int32).toInt = -1 := rfl; have z3 : (8 : Int32).toInt = 8 := rfl; have z4 : (-8 : Int32).toInt = -8 := rfl; unfold sg; omega))
  ·
    replace c10 := ti_leN (a := x4) (b := (0 : Int32)) c10 rfl (show (0 : Int32).toInt = 0 from rfl)
    exact x_f_X0_attacks_275 (P := P) (S := S)  (x0 := x0) (x1 := x1) (x8 := x8) (t0 := (8 : Int32)) (t1 := t0) hT r_x0 r_x1 r_x8 (by decide) r_t0 (way3_p r_t0 r_x1 q0 (by omega)) (ac_275 q1 (by have z0 : (0 : Int32).toInt = 0 := rfl; have z1 : (1 : Int32).toInt = 1 := rfl; have z2 : (-1 : Int32).toInt = -1 := rfl; have z3 : (8 : Int32).toInt = 8 := rfl; have z4 : (-8 : Int32).toInt = -8 := rfl; unfold sg; omega))
theorem x_f_X0_attacks_223 {P : Prop} {S : ZS} {x0 : Nat} {x1 : Int32} {x3 : Int32} {x4 : Int32} {x8 : Int32} {t0 : Int32} (hT : ZT S) (r_x0 : zK S x0 = 0) (r_x1 : (0 : Int) ≤ x1.toInt ∧ x1.toInt ≤ (63 : Int)) (r_x3 : (-7 : Int) ≤ x3.toInt ∧ x3.toInt ≤ (7 : Int)) (r_x4 : (-7 : Int) ≤ x4.toInt ∧ x4.toInt ≤ (7 : Int)) (r_x8 : (0 : Int) ≤ x8.toInt ∧ x8.toInt ≤ (7 : Int)) (r_t0 : (0 : Int) ≤ t0.toInt ∧ t0.toInt ≤ (1 : Int)) (q0 : 0 ≤ x1.toInt % 8 + x3.toInt ∧ x1.toInt % 8 + x3.toInt ≤ 7 ∧ 0 ≤ x1.toInt / 8 + x4.toInt ∧ x1.toInt / 8 + x4.toInt ≤ 7) (q1 : x3.toInt ≤ x8.toInt ∧ -x3.toInt ≤ x8.toInt ∧ x4.toInt ≤ x8.toInt ∧ -x4.toInt ≤ x8.toInt ∧ (x8.toInt = x3.toInt ∨ x8.toInt = -x3.toInt ∨ x8.toInt = x4.toInt ∨ x8.toInt = -x4.toInt)) (q2 : t0.toInt = 1 → x3.toInt = 0 ∨ x4.toInt = 0 ∨ x3.toInt = x4.toInt ∨ x3.toInt = -x4.toInt) (q3 : P ↔ (t0.toInt = 1 ∧ (x3.toInt ≠ 0 ∨ x4.toInt ≠ 0)) ∧ clr (mCb S x0) x1.toInt x3.toInt x4.toInt) : Ok (f_X0_attacks_223 x0 x1 x3 x4 x8 t0 S) (fun o => o.2 = S ∧ ((0 : Int) ≤ o.1.toInt ∧ o.1.toInt ≤ (1 : Int)) ∧ ((o.1.toInt = 1 ↔ P))) := by
  unfold f_X0_attacks_223
  refine ok_if (fun c12 => ?_) (fun c12 => ?_)
  ·
    replace c12 := ti_eqP (a := t0) (b := (0 : Int32)) c12 rfl (show (0 : Int32).toInt = 0 from rfl)
    unfold f_X0_attacks_235
    refine ok_chk (by decide) ?_
    exact ok_ret ⟨rfl, (show (0 : Int) ≤ (0 : Int32).toInt ∧ (0 : Int32).toInt ≤ (1 : Int) from (by decide)), (by show ((0 : Int32).toInt = 1 ↔ P); rw [q3]; have z0 : (0 : Int32).toInt = 0 := rfl; have z1 : (1 : Int32).toInt = 1 := rfl; have z2 : (-1 : Int32).toInt = -1 := rfl; constructor; (intro h; omega); (intro h; have := h.1; omega))⟩
  ·
    replace c12 := ti_eqN (a := t0) (b := (0 : Int32)) c12 rfl (show (0 : Int32).toInt = 0 from rfl)
    refine ok_if (fun c13 => ?_) (fun c13 => ?_)
    ·
      replace c13 := ti_eqP (a := x8) (b := (0 : Int32)) c13 rfl (show (0 : Int32).toInt = 0 from rfl)
      unfold f_X0_attacks_235
      refine ok_chk (by decide) ?_
      exact ok_ret ⟨rfl, (show (0 : Int) ≤ (0 : Int32).toInt ∧ (0 : Int32).toInt ≤ (1 : Int) from (by decide)), (by show ((0 : Int32).toInt = 1 ↔ P); rw [q3]; have z0 : (0 : Int32).toInt = 0 := rfl; have z1 : (1 : Int32).toInt = 1 := rfl; have z2 : (-1 : Int32).toInt = -1 := rfl; constructor; (intro h; omega); (intro h; have := h.1; omega))⟩
    ·
      replace c13 := ti_eqN (a := x8) (b := (0 : Int32)) c13 rfl (show (0 : Int32).toInt = 0 from rfl)
      refine ok_if (fun c14 => ?_) (fun c14 => ?_)
      ·
        replace c14 := ti_leP (a := x3) (b := (0 : Int32)) c14 rfl (show (0 : Int32).toInt = 0 from rfl)
        refine ok_if (fun c15 => ?_) (fun c15 => ?_)
        ·
          replace c15 := ti_leP (a := (0 : Int32)) (b := x3) c15 (show (0 : Int32).toInt = 0 from rfl) rfl
          exact x_f_X0_attacks_254 (P := P) (S := S)  (x0 := x0) (x1 := x1) (x4 := x4) (x8 := x8) (t0 := (0 : Int32)) hT r_x0 r_x1 r_x4 r_x8 (by decide) (way3_mk q0 q1 (q2 (by omega)) (by have z0 : (0 : Int32).toInt = 0 := rfl; have z1 : (1 : Int32).toInt = 1 := rfl; have z2 : (-1 : Int32).toInt = -1 := rfl; omega)) (ac_254 q3 (by omega) (by unfold nst; omega) (by have z0 : (0 : Int32).toInt = 0 := rfl; have z1 : (1 : Int32).toInt = 1 := rfl; have z2 : (-1 : Int32).toInt = -1 := rfl; have z3 : (8 : Int32).toInt = 8 := rfl; have z4 : (-8 : Int32).toInt = -8 := rfl; unfold sg; omega))
        ·
          replace c15 := ti_leN (a := (0 : Int32)) (b := x3) c15 (show (0 : Int32).toInt = 0 from rfl) rfl
          exact x_f_X0_attacks_254 (P := P) (S := S)  (x0 := x0) (x1 := x1) (x4 := x4) (x8 := x8) (t0 := (-1 : Int32)) hT r_x0 r_x1 r_x4 r_x8 (by decide) (way3_mk q0 q1 (q2 (by omega)) (by have z0 : (0 : Int32).toInt = 0 := rfl; have z1 : (1 : Int32).toInt = 1 := rfl; have z2 : (-1 : Int32).toInt = -1 := rfl; omega)) (ac_254 q3 (by omega) (by unfold nst; omega) (by have z0 : (0 : Int32).toInt = 0 := rfl; have z1 : (1 : Int32).toInt = 1 := rfl; have z2 : (-1 : Int32).toInt = -1 := rfl; have z3 : (8 : Int32).toInt = 8 := rfl; have z4 : (-8 : Int32).toInt = -8 := rfl; unfold sg; omega))
      ·
        replace c14 := ti_leN (a := x3) (b := (0 : Int32)) c14 rfl (show (0 : Int32).toInt = 0 from rfl)
        exact x_f_X0_attacks_254 (P := P) (S := S)  (x0 := x0) (x1 := x1) (x4 := x4) (x8 := x8) (t0 := (1 : Int32)) hT r_x0 r_x1 r_x4 r_x8 (by decide) (way3_mk q0 q1 (q2 (by omega)) (by have z0 : (0 : Int32).toInt = 0 := rfl; have z1 : (1 : Int32).toInt = 1 := rfl; have z2 : (-1 : Int32).toInt = -1 := rfl; omega)) (ac_254 q3 (by omega) (by unfold nst; omega) (by have z0 : (0 : Int32).toInt = 0 := rfl; have z1 : (1 : Int32).toInt = 1 := rfl; have z2 : (-1 : Int32).toInt = -1 := rfl; have z3 : (8 : Int32).toInt = 8 := rfl; have z4 : (-8 : Int32).toInt = -8 := rfl; unfold sg; omega))
theorem x_f_X0_attacks_172 {P : Prop} {S : ZS} {x0 : Nat} {x1 : Int32} {x3 : Int32} {x4 : Int32} {x5 : Int32} {x6 : Int32} {x7 : Int32} {x8 : Int32} {t0 : Int32} (hT : ZT S) (r_x0 : zK S x0 = 0) (r_x1 : (0 : Int) ≤ x1.toInt ∧ x1.toInt ≤ (63 : Int)) (r_x3 : (-7 : Int) ≤ x3.toInt ∧ x3.toInt ≤ (7 : Int)) (r_x4 : (-7 : Int) ≤ x4.toInt ∧ x4.toInt ≤ (7 : Int)) (r_x5 : (0 : Int) ≤ x5.toInt ∧ x5.toInt ≤ (7 : Int)) (r_x6 : (0 : Int) ≤ x6.toInt ∧ x6.toInt ≤ (7 : Int)) (r_x7 : (0 : Int) ≤ x7.toInt ∧ x7.toInt ≤ (7 : Int)) (r_x8 : (0 : Int) ≤ x8.toInt ∧ x8.toInt ≤ (7 : Int)) (r_t0 : (0 : Int) ≤ t0.toInt ∧ t0.toInt ≤ (1 : Int)) (q0 : 0 ≤ x1.toInt % 8 + x3.toInt ∧ x1.toInt % 8 + x3.toInt ≤ 7 ∧ 0 ≤ x1.toInt / 8 + x4.toInt ∧ x1.toInt / 8 + x4.toInt ≤ 7) (q1 : x3.toInt ≤ x8.toInt ∧ -x3.toInt ≤ x8.toInt ∧ x4.toInt ≤ x8.toInt ∧ -x4.toInt ≤ x8.toInt ∧ (x8.toInt = x3.toInt ∨ x8.toInt = -x3.toInt ∨ x8.toInt = x4.toInt ∨ x8.toInt = -x4.toInt)) (q2 : (x6.toInt = x3.toInt ∨ x6.toInt = -x3.toInt) ∧ (x7.toInt = x4.toInt ∨ x7.toInt = -x4.toInt)) (q3 : t0.toInt = 1 ↔ x6.toInt = 0 ∨ x7.toInt = 0) (q4 : P ↔ lin x5.toInt x3.toInt x4.toInt ∧ clr (mCb S x0) x1.toInt x3.toInt x4.toInt) : Ok (f_X0_attacks_172 x0 x1 x3 x4 x5 x6 x7 x8 t0 S) (fun o => o.2 = S ∧ ((0 : Int) ≤ o.1.toInt ∧ o.1.toInt ≤ (1 : Int)) ∧ ((o.1.toInt = 1 ↔ P))) := by
  unfold f_X0_attacks_172
  refine ok_if (fun c16 => ?_) (fun c16 => ?_)
  ·
    replace c16 := ti_eqP (a := t0) (b := (0 : Int32)) c16 rfl (show (0 : Int32).toInt = 0 from rfl)
    refine ok_if (fun c17 => ?_) (fun c17 => ?_)
    ·
      replace c17 := ti_eqP (a := x6) (b := x7) c17 rfl rfl
      refine ok_if (fun c18 => ?_) (fun c18 => ?_)
      ·
        replace c18 := ti_eqP (a := x5) (b := (3 : Int32)) c18 rfl (show (3 : Int32).toInt = 3 from rfl)
        unfold f_X0_attacks_218
        exact x_f_X0_attacks_223 (P := P) (S := S)  (x0 := x0) (x1 := x1) (x3 := x3) (x4 := x4) (x8 := x8) (t0 := (1 : Int32)) hT r_x0 r_x1 r_x3 r_x4 r_x8 (by decide) q0 q1 (by have z0 : (0 : Int32).toInt = 0 := rfl; have z1 : (1 : Int32).toInt = 1 := rfl; have z2 : (-1 : Int32).toInt = -1 := rfl; omega) (ac_223 q4 (by have z0 : (0 : Int32).toInt = 0 := rfl; have z1 : (1 : Int32).toInt = 1 := rfl; have z2 : (-1 : Int32).toInt = -1 := rfl; unfold lin; omega))
      ·
        replace c18 := ti_eqN (a := x5) (b := (3 : Int32)) c18 rfl (show (3 : Int32).toInt = 3 from rfl)
        refine ok_if (fun c19 => ?_) (fun c19 => ?_)
        ·
          replace c19 := ti_eqP (a := x5) (b := (5 : Int32)) c19 rfl (show (5 : Int32).toInt = 5 from rfl)
          unfold f_X0_attacks_218
          exact x_f_X0_attacks_223 (P := P) (S := S)  (x0 := x0) (x1 := x1) (x3 := x3) (x4 := x4) (x8 := x8) (t0 := (1 : Int32)) hT r_x0 r_x1 r_x3 r_x4 r_x8 (by decide) q0 q1 (by have z0 : (0 : Int32).toInt = 0 := rfl; have z1 : (1 : Int32).toInt = 1 := rfl; have z2 : (-1 : Int32).toInt = -1 := rfl; omega) (ac_223 q4 (by have z0 : (0 : Int32).toInt = 0 := rfl; have z1 : (1 : Int32).toInt = 1 := rfl; have z2 : (-1 : Int32).toInt = -1 := rfl; unfold lin; omega))
        ·
          replace c19 := ti_eqN (a := x5) (b := (5 : Int32)) c19 rfl (show (5 : Int32).toInt = 5 from rfl)
          unfold f_X0_attacks_222
          exact x_f_X0_attacks_223 (P := P) (S := S)  (x0 := x0) (x1 := x1) (x3 := x3) (x4 := x4) (x8 := x8) (t0 := (0 : Int32)) hT r_x0 r_x1 r_x3 r_x4 r_x8 (by decide) q0 q1 (by have z0 : (0 : Int32).toInt = 0 := rfl; have z1 : (1 : Int32).toInt = 1 := rfl; have z2 : (-1 : Int32).toInt = -1 := rfl; omega) (ac_223 q4 (by have z0 : (0 : Int32).toInt = 0 := rfl; have z1 : (1 : Int32).toInt = 1 := rfl; have z2 : (-1 : Int32).toInt = -1 := rfl; unfold lin; omega))
    ·
      replace c17 := ti_eqN (a := x6) (b := x7) c17 rfl rfl
      unfold f_X0_attacks_222
      exact x_f_X0_attacks_223 (P := P) (S := S)  (x0 := x0) (x1 := x1) (x3 := x3) (x4 := x4) (x8 := x8) (t0 := (0 : Int32)) hT r_x0 r_x1 r_x3 r_x4 r_x8 (by decide) q0 q1 (by have z0 : (0 : Int32).toInt = 0 := rfl; have z1 : (1 : Int32).toInt = 1 := rfl; have z2 : (-1 : Int32).toInt = -1 := rfl; omega) (ac_223 q4 (by have z0 : (0 : Int32).toInt = 0 := rfl; have z1 : (1 : Int32).toInt = 1 := rfl; have z2 : (-1 : Int32).toInt = -1 := rfl; unfold lin; omega))
  ·
    replace c16 := ti_eqN (a := t0) (b := (0 : Int32)) c16 rfl (show (0 : Int32).toInt = 0 from rfl)
    refine ok_if (fun c20 => ?_) (fun c20 => ?_)
    ·
      replace c20 := ti_eqP (a := x5) (b := (4 : Int32)) c20 rfl (show (4 : Int32).toInt = 4 from rfl)
      unfold f_X0_attacks_191
      exact x_f_X0_attacks_223 (P := P) (S := S)  (x0 := x0) (x1 := x1) (x3 := x3) (x4 := x4) (x8 := x8) (t0 := (1 : Int32)) hT r_x0 r_x1 r_x3 r_x4 r_x8 (by decide) q0 q1 (by have z0 : (0 : Int32).toInt = 0 := rfl; have z1 : (1 : Int32).toInt = 1 := rfl; have z2 : (-1 : Int32).toInt = -1 := rfl; omega) (ac_223 q4 (by have z0 : (0 : Int32).toInt = 0 := rfl; have z1 : (1 : Int32).toInt = 1 := rfl; have z2 : (-1 : Int32).toInt = -1 := rfl; unfold lin; omega))
    ·
      replace c20 := ti_eqN (a := x5) (b := (4 : Int32)) c20 rfl (show (4 : Int32).toInt = 4 from rfl)
      refine ok_if (fun c21 => ?_) (fun c21 => ?_)
      ·
        replace c21 := ti_eqP (a := x5) (b := (5 : Int32)) c21 rfl (show (5 : Int32).toInt = 5 from rfl)
        unfold f_X0_attacks_191
        exact x_f_X0_attacks_223 (P := P) (S := S)  (x0 := x0) (x1 := x1) (x3 := x3) (x4 := x4) (x8 := x8) (t0 := (1 : Int32)) hT r_x0 r_x1 r_x3 r_x4 r_x8 (by decide) q0 q1 (by have z0 : (0 : Int32).toInt = 0 := rfl; have z1 : (1 : Int32).toInt = 1 := rfl; have z2 : (-1 : Int32).toInt = -1 := rfl; omega) (ac_223 q4 (by have z0 : (0 : Int32).toInt = 0 := rfl; have z1 : (1 : Int32).toInt = 1 := rfl; have z2 : (-1 : Int32).toInt = -1 := rfl; unfold lin; omega))
      ·
        replace c21 := ti_eqN (a := x5) (b := (5 : Int32)) c21 rfl (show (5 : Int32).toInt = 5 from rfl)
        exact x_f_X0_attacks_223 (P := P) (S := S)  (x0 := x0) (x1 := x1) (x3 := x3) (x4 := x4) (x8 := x8) (t0 := (0 : Int32)) hT r_x0 r_x1 r_x3 r_x4 r_x8 (by decide) q0 q1 (by have z0 : (0 : Int32).toInt = 0 := rfl; have z1 : (1 : Int32).toInt = 1 := rfl; have z2 : (-1 : Int32).toInt = -1 := rfl; omega) (ac_223 q4 (by have z0 : (0 : Int32).toInt = 0 := rfl; have z1 : (1 : Int32).toInt = 1 := rfl; have z2 : (-1 : Int32).toInt = -1 := rfl; unfold lin; omega))
theorem x_f_X0_attacks_136 {P : Prop} {S : ZS} {x0 : Nat} {x1 : Int32} {x3 : Int32} {x4 : Int32} {x5 : Int32} {x6 : Int32} {x7 : Int32} {t0 : Int32} (hT : ZT S) (r_x0 : zK S x0 = 0) (r_x1 : (0 : Int) ≤ x1.toInt ∧ x1.toInt ≤ (63 : Int)) (r_x3 : (-7 : Int) ≤ x3.toInt ∧ x3.toInt ≤ (7 : Int)) (r_x4 : (-7 : Int) ≤ x4.toInt ∧ x4.toInt ≤ (7 : Int)) (r_x5 : (0 : Int) ≤ x5.toInt ∧ x5.toInt ≤ (7 : Int)) (r_x6 : (0 : Int) ≤ x6.toInt ∧ x6.toInt ≤ (7 : Int)) (r_x7 : (0 : Int) ≤ x7.toInt ∧ x7.toInt ≤ (7 : Int)) (r_t0 : (0 : Int) ≤ t0.toInt ∧ t0.toInt ≤ (7 : Int)) (q0 : 0 ≤ x1.toInt % 8 + x3.toInt ∧ x1.toInt % 8 + x3.toInt ≤ 7 ∧ 0 ≤ x1.toInt / 8 + x4.toInt ∧ x1.toInt / 8 + x4.toInt ≤ 7) (q1 : x3.toInt ≤ t0.toInt ∧ -x3.toInt ≤ t0.toInt ∧ x4.toInt ≤ t0.toInt ∧ -x4.toInt ≤ t0.toInt ∧ (t0.toInt = x3.toInt ∨ t0.toInt = -x3.toInt ∨ t0.toInt = x4.toInt ∨ t0.toInt = -x4.toInt)) (q2 : (x6.toInt = x3.toInt ∨ x6.toInt = -x3.toInt) ∧ (x7.toInt = x4.toInt ∨ x7.toInt = -x4.toInt)) (q3 : P ↔ (x5.toInt = 6 ∧ kin x3.toInt x4.toInt) ∨ (lin x5.toInt x3.toInt x4.toInt ∧ clr (mCb S x0) x1.toInt x3.toInt x4.toInt)) : Ok (f_X0_attacks_136 x0 x1 x3 x4 x5 x6 x7 t0 S) (fun o => o.2 = S ∧ ((0 : Int) ≤ o.1.toInt ∧ o.1.toInt ≤ (1 : Int)) ∧ ((o.1.toInt = 1 ↔ P))) := by
  unfold f_X0_attacks_136
  refine ok_if (fun c22 => ?_) (fun c22 => ?_)
  ·
    replace c22 := ti_eqP (a := x5) (b := (6 : Int32)) c22 rfl (show (6 : Int32).toInt = 6 from rfl)
    refine ok_if (fun c23 => ?_) (fun c23 => ?_)
    ·
      replace c23 := ti_eqP (a := t0) (b := (1 : Int32)) c23 rfl (show (1 : Int32).toInt = 1 from rfl)
      unfold f_X0_attacks_156
      refine ok_chk (by decide) ?_
      exact ok_ret ⟨rfl, (show (0 : Int) ≤ (1 : Int32).toInt ∧ (1 : Int32).toInt ≤ (1 : Int) from (by decide)), (by show ((1 : Int32).toInt = 1 ↔ P); have zz := ac_king (n := t0.toInt) q3 (by omega) (by unfold kin; omega); have z0 : (0 : Int32).toInt = 0 := rfl; have z1 : (1 : Int32).toInt = 1 := rfl; have z2 : (-1 : Int32).toInt = -1 := rfl; rw [← zz]; omega)⟩
    ·
      replace c23 := ti_eqN (a := t0) (b := (1 : Int32)) c23 rfl (show (1 : Int32).toInt = 1 from rfl)
      unfold f_X0_attacks_156
      refine ok_chk (by decide) ?_
      exact ok_ret ⟨rfl, (show (0 : Int) ≤ (0 : Int32).toInt ∧ (0 : Int32).toInt ≤ (1 : Int) from (by decide)), (by show ((0 : Int32).toInt = 1 ↔ P); have zz := ac_king (n := t0.toInt) q3 (by omega) (by unfold kin; omega); have z0 : (0 : Int32).toInt = 0 := rfl; have z1 : (1 : Int32).toInt = 1 := rfl; have z2 : (-1 : Int32).toInt = -1 := rfl; rw [← zz]; omega)⟩
  ·
    replace c22 := ti_eqN (a := x5) (b := (6 : Int32)) c22 rfl (show (6 : Int32).toInt = 6 from rfl)
    refine ok_if (fun c24 => ?_) (fun c24 => ?_)
    ·
      replace c24 := ti_eqP (a := x6) (b := (0 : Int32)) c24 rfl (show (0 : Int32).toInt = 0 from rfl)
      unfold f_X0_attacks_167
      exact x_f_X0_attacks_172 (P := P) (S := S)  (x0 := x0) (x1 := x1) (x3 := x3) (x4 := x4) (x5 := x5) (x6 := x6) (x7 := x7) (x8 := t0) (t0 := (1 : Int32)) hT r_x0 r_x1 r_x3 r_x4 r_x5 r_x6 r_x7 r_t0 (by decide) q0 q1 q2 (by have z0 : (0 : Int32).toInt = 0 := rfl; have z1 : (1 : Int32).toInt = 1 := rfl; have z2 : (-1 : Int32).toInt = -1 := rfl; omega) (ac_172 q3 (by omega))
    ·
      replace c24 := ti_eqN (a := x6) (b := (0 : Int32)) c24 rfl (show (0 : Int32).toInt = 0 from rfl)
      refine ok_if (fun c25 => ?_) (fun c25 => ?_)
      ·
        replace c25 := ti_eqP (a := x7) (b := (0 : Int32)) c25 rfl (show (0 : Int32).toInt = 0 from rfl)
        unfold f_X0_attacks_167
        exact x_f_X0_attacks_172 (P := P) (S := S)  (x0 := x0) (x1 := x1) (x3 := x3) (x4 := x4) (x5 := x5) (x6 := x6) (x7 := x7) (x8 := t0) (t0 := (1 : Int32)) hT r_x0 r_x1 r_x3 r_x4 r_x5 r_x6 r_x7 r_t0 (by decide) q0 q1 q2 (by have z0 : (0 : Int32).toInt = 0 := rfl; have z1 : (1 : Int32).toInt = 1 := rfl; have z2 : (-1 : Int32).toInt = -1 := rfl; omega) (ac_172 q3 (by omega))
      ·
        replace c25 := ti_eqN (a := x7) (b := (0 : Int32)) c25 rfl (show (0 : Int32).toInt = 0 from rfl)
        exact x_f_X0_attacks_172 (P := P) (S := S)  (x0 := x0) (x1 := x1) (x3 := x3) (x4 := x4) (x5 := x5) (x6 := x6) (x7 := x7) (x8 := t0) (t0 := (0 : Int32)) hT r_x0 r_x1 r_x3 r_x4 r_x5 r_x6 r_x7 r_t0 (by decide) q0 q1 q2 (by have z0 : (0 : Int32).toInt = 0 := rfl; have z1 : (1 : Int32).toInt = 1 := rfl; have z2 : (-1 : Int32).toInt = -1 := rfl; omega) (ac_172 q3 (by omega))
theorem x_f_X0_attacks_120 {P : Prop} {S : ZS} {x0 : Nat} {x1 : Int32} {x3 : Int32} {x4 : Int32} {x5 : Int32} {x6 : Int32} {t0 : Int32} (hT : ZT S) (r_x0 : zK S x0 = 0) (r_x1 : (0 : Int) ≤ x1.toInt ∧ x1.toInt ≤ (63 : Int)) (r_x3 : (-7 : Int) ≤ x3.toInt ∧ x3.toInt ≤ (7 : Int)) (r_x4 : (-7 : Int) ≤ x4.toInt ∧ x4.toInt ≤ (7 : Int)) (r_x5 : (0 : Int) ≤ x5.toInt ∧ x5.toInt ≤ (7 : Int)) (r_x6 : (0 : Int) ≤ x6.toInt ∧ x6.toInt ≤ (7 : Int)) (r_t0 : (0 : Int) ≤ t0.toInt ∧ t0.toInt ≤ (7 : Int)) (q0 : 0 ≤ x1.toInt % 8 + x3.toInt ∧ x1.toInt % 8 + x3.toInt ≤ 7 ∧ 0 ≤ x1.toInt / 8 + x4.toInt ∧ x1.toInt / 8 + x4.toInt ≤ 7) (q1 : (x6.toInt = x3.toInt ∨ x6.toInt = -x3.toInt) ∧ (t0.toInt = x4.toInt ∨ t0.toInt = -x4.toInt)) (q2 : P ↔ (x5.toInt = 6 ∧ kin x3.toInt x4.toInt) ∨ (lin x5.toInt x3.toInt x4.toInt ∧ clr (mCb S x0) x1.toInt x3.toInt x4.toInt)) : Ok (f_X0_attacks_120 x0 x1 x3 x4 x5 x6 t0 S) (fun o => o.2 = S ∧ ((0 : Int) ≤ o.1.toInt ∧ o.1.toInt ≤ (1 : Int)) ∧ ((o.1.toInt = 1 ↔ P))) := by
  unfold f_X0_attacks_120
  refine ok_if (fun c26 => ?_) (fun c26 => ?_)
  ·
    replace c26 := ti_leP (a := x6) (b := t0) c26 rfl rfl
    exact x_f_X0_attacks_136 (P := P) (S := S)  (x0 := x0) (x1 := x1) (x3 := x3) (x4 := x4) (x5 := x5) (x6 := x6) (x7 := t0) (t0 := t0) hT r_x0 r_x1 r_x3 r_x4 r_x5 r_x6 r_t0 r_t0 q0 (by omega) q1 q2
  ·
    replace c26 := ti_leN (a := x6) (b := t0) c26 rfl rfl
    exact x_f_X0_attacks_136 (P := P) (S := S)  (x0 := x0) (x1 := x1) (x3 := x3) (x4 := x4) (x5 := x5) (x6 := x6) (x7 := t0) (t0 := x6) hT r_x0 r_x1 r_x3 r_x4 r_x5 r_x6 r_t0 r_x6 q0 (by omega) q1 q2
theorem x_f_X0_attacks_105 {P : Prop} {S : ZS} {x0 : Nat} {x1 : Int32} {x3 : Int32} {x4 : Int32} {x5 : Int32} {t0 : Int32} (hT : ZT S) (r_x0 : zK S x0 = 0) (r_x1 : (0 : Int) ≤ x1.toInt ∧ x1.toInt ≤ (63 : Int)) (r_x3 : (-7 : Int) ≤ x3.toInt ∧ x3.toInt ≤ (7 : Int)) (r_x4 : (-7 : Int) ≤ x4.toInt ∧ x4.toInt ≤ (7 : Int)) (r_x5 : (0 : Int) ≤ x5.toInt ∧ x5.toInt ≤ (7 : Int)) (r_t0 : (0 : Int) ≤ t0.toInt ∧ t0.toInt ≤ (7 : Int)) (q0 : 0 ≤ x1.toInt % 8 + x3.toInt ∧ x1.toInt % 8 + x3.toInt ≤ 7 ∧ 0 ≤ x1.toInt / 8 + x4.toInt ∧ x1.toInt / 8 + x4.toInt ≤ 7) (q1 : t0.toInt = x3.toInt ∨ t0.toInt = -x3.toInt) (q2 : P ↔ (x5.toInt = 6 ∧ kin x3.toInt x4.toInt) ∨ (lin x5.toInt x3.toInt x4.toInt ∧ clr (mCb S x0) x1.toInt x3.toInt x4.toInt)) : Ok (f_X0_attacks_105 x0 x1 x3 x4 x5 t0 S) (fun o => o.2 = S ∧ ((0 : Int) ≤ o.1.toInt ∧ o.1.toInt ≤ (1 : Int)) ∧ ((o.1.toInt = 1 ↔ P))) := by
  unfold f_X0_attacks_105
  refine ok_if (fun c27 => ?_) (fun c27 => ?_)
  ·
    replace c27 := ti_leP (a := (0 : Int32)) (b := x4) c27 (show (0 : Int32).toInt = 0 from rfl) rfl
    exact x_f_X0_attacks_120 (P := P) (S := S)  (x0 := x0) (x1 := x1) (x3 := x3) (x4 := x4) (x5 := x5) (x6 := t0) (t0 := x4) hT r_x0 r_x1 r_x3 r_x4 r_x5 r_t0 (by omega) q0 (by omega) q2
  ·
    replace c27 := ti_leN (a := (0 : Int32)) (b := x4) c27 (show (0 : Int32).toInt = 0 from rfl) rfl
    refine ok_bnd (fun v1 e28 => ?_)
    have t_v1 : v1.toInt = -x4.toInt := ti_neg e28 rfl (by omega)
    exact x_f_X0_attacks_120 (P := P) (S := S)  (x0 := x0) (x1 := x1) (x3 := x3) (x4 := x4) (x5 := x5) (x6 := t0) (t0 := v1) hT r_x0 r_x1 r_x3 r_x4 r_x5 r_t0 (by omega) q0 (by omega) q2
theorem x_f_X0_attacks_54 {P : Prop} {S : ZS} {x3 : Int32} {t0 : Int32} {t1 : Int32} (hT : ZT S) (r_x3 : (-7 : Int) ≤ x3.toInt ∧ x3.toInt ≤ (7 : Int)) (r_t0 : (-1 : Int) ≤ t0.toInt ∧ t0.toInt ≤ (1 : Int)) (q0 : P ↔ t1.toInt = t0.toInt ∧ (x3.toInt = 1 ∨ x3.toInt = -1)) : Ok (f_X0_attacks_54 x3 t0 t1 S) (fun o => o.2 = S ∧ ((0 : Int) ≤ o.1.toInt ∧ o.1.toInt ≤ (1 : Int)) ∧ ((o.1.toInt = 1 ↔ P))) := by
  unfold f_X0_attacks_54
  refine ok_if (fun c29 => ?_) (fun c29 => ?_)
  ·
    replace c29 := ti_eqP (a := t1) (b := t0) c29 rfl rfl
    refine ok_bnd (fun v1 e30 => ?_)
    have t_v1 := ti_sq e30 (by omega) (by omega)
    refine ok_if (fun c31 => ?_) (fun c31 => ?_)
    ·
      replace c31 := ti_eqP (a := v1) (b := (1 : Int32)) c31 rfl (show (1 : Int32).toInt = 1 from rfl)
      unfold f_X0_attacks_69
      refine ok_chk (by decide) ?_
      exact ok_ret ⟨rfl, (show (0 : Int) ≤ (1 : Int32).toInt ∧ (1 : Int32).toInt ≤ (1 : Int) from (by decide)), (by show ((1 : Int32).toInt = 1 ↔ P); rw [q0]; have z0 : (0 : Int32).toInt = 0 := rfl; have z1 : (1 : Int32).toInt = 1 := rfl; have z2 : (-1 : Int32).toInt = -1 := rfl; omega)⟩
    ·
      replace c31 := ti_eqN (a := v1) (b := (1 : Int32)) c31 rfl (show (1 : Int32).toInt = 1 from rfl)
      unfold f_X0_attacks_68
      unfold f_X0_attacks_69
      refine ok_chk (by decide) ?_
      exact ok_ret ⟨rfl, (show (0 : Int) ≤ (0 : Int32).toInt ∧ (0 : Int32).toInt ≤ (1 : Int) from (by decide)), (by show ((0 : Int32).toInt = 1 ↔ P); rw [q0]; have z0 : (0 : Int32).toInt = 0 := rfl; have z1 : (1 : Int32).toInt = 1 := rfl; have z2 : (-1 : Int32).toInt = -1 := rfl; omega)⟩
  ·
    replace c29 := ti_eqN (a := t1) (b := t0) c29 rfl rfl
    unfold f_X0_attacks_68
    unfold f_X0_attacks_69
    refine ok_chk (by decide) ?_
    exact ok_ret ⟨rfl, (show (0 : Int) ≤ (0 : Int32).toInt ∧ (0 : Int32).toInt ≤ (1 : Int) from (by decide)), (by show ((0 : Int32).toInt = 1 ↔ P); rw [q0]; have z0 : (0 : Int32).toInt = 0 := rfl; have z1 : (1 : Int32).toInt = 1 := rfl; have z2 : (-1 : Int32).toInt = -1 := rfl; omega)⟩
theorem x_f_X0_attacks_0 {P : Prop} {S : ZS} {x0 : Nat} {x1 : Int32} {x2 : Int32} (hT : ZT S) (r_x0 : zK S x0 = 0) (r_x1 : (0 : Int) ≤ x1.toInt ∧ x1.toInt ≤ (63 : Int)) (r_x2 : (0 : Int) ≤ x2.toInt ∧ x2.toInt ≤ (63 : Int)) (q0 : P ↔ attk (mCb S x0) x1.toInt x2.toInt) (q1 : MBd (mCb S x0)) : Ok (f_X0_attacks_0 x0 x1 x2 S) (fun o => o.2 = S ∧ ((0 : Int) ≤ o.1.toInt ∧ o.1.toInt ≤ (1 : Int)) ∧ ((o.1.toInt = 1 ↔ P))) := by
  unfold f_X0_attacks_0
  refine ok_bnd (fun v1 e32 => ?_)
  have t_v1 : v1.toInt = x2.toInt % 8 := b_and7 e32 (by omega)
  refine ok_bnd (fun v2 e33 => ?_)
  have t_v2 : v2.toInt = x1.toInt % 8 := b_and7 e33 (by omega)
  refine ok_bnd (fun v3 e34 => ?_)
  have t_v3 : v3.toInt = v1.toInt - v2.toInt := ti_sub e34 rfl rfl (by omega) (by omega)
  refine ok_bnd (fun v4 e35 => ?_)
  have t_v4 : v4.toInt = x2.toInt / 8 := b_sh3 e35 (by omega)
  refine ok_bnd (fun v5 e36 => ?_)
  have t_v5 : v5.toInt = x1.toInt / 8 := b_sh3 e36 (by omega)
  refine ok_bnd (fun v6 e37 => ?_)
  have t_v6 : v6.toInt = v4.toInt - v5.toInt := ti_sub e37 rfl rfl (by omega) (by omega)
  refine ok_chk r_x0 ?_
  obtain ⟨b7, p_b7, k_b7, n_b7⟩ := T_0_0 hT r_x0
  refine ok_calR p_b7 ?_
  refine ok_chk k_b7 ?_
  refine ok_chk (ti_inN (v := x1) (n := 64) n_b7 (by omega) (by omega)) ?_
  refine ok_bnd (fun v8 e38 => ?_)
  have u_v8 : v8.toInt = mCb S x0 x1.toInt := mB_at (x := x1) p_b7 e38 (by omega) (by omega)
  have w_v8 := q1 (x1.toInt)
  refine ok_bnd (fun v9 e39 => ?_)
  have t_v9 : v9.toInt = v8.toInt % 8 := b_and7 e39 (by omega)
  refine ok_if (fun c40 => ?_) (fun c40 => ?_)
  ·
    replace c40 := ti_eqP (a := v9) (b := (1 : Int32)) c40 rfl (show (1 : Int32).toInt = 1 from rfl)
    refine ok_chk r_x0 ?_
    obtain ⟨b14, p_b14, k_b14, n_b14⟩ := T_0_0 hT r_x0
    refine ok_calR p_b14 ?_
    refine ok_chk k_b14 ?_
    refine ok_chk (ti_inN (v := x1) (n := 64) n_b14 (by omega) (by omega)) ?_
    refine ok_bnd (fun v15 e41 => ?_)
    have u_v15 : v15.toInt = mCb S x0 x1.toInt := mB_at (x := x1) p_b14 e41 (by omega) (by omega)
    have w_v15 := q1 (x1.toInt)
    refine ok_if (fun c42 => ?_) (fun c42 => ?_)
    ·
      replace c42 := ti_leP (a := (8 : Int32)) (b := v15) c42 (show (8 : Int32).toInt = 8 from rfl) rfl
      exact x_f_X0_attacks_54 (P := P) (S := S)  (x3 := v3) (t0 := (-1 : Int32)) (t1 := v6) hT (by omega) (by decide) (by rw [ac_54 q0 u_v8.symm (by omega)]; unfold paw; have z0 : (0 : Int32).toInt = 0 := rfl; have z1 : (1 : Int32).toInt = 1 := rfl; have z2 : (-1 : Int32).toInt = -1 := rfl; omega)
    ·
      replace c42 := ti_leN (a := (8 : Int32)) (b := v15) c42 (show (8 : Int32).toInt = 8 from rfl) rfl
      exact x_f_X0_attacks_54 (P := P) (S := S)  (x3 := v3) (t0 := (1 : Int32)) (t1 := v6) hT (by omega) (by decide) (by rw [ac_54 q0 u_v8.symm (by omega)]; unfold paw; have z0 : (0 : Int32).toInt = 0 := rfl; have z1 : (1 : Int32).toInt = 1 := rfl; have z2 : (-1 : Int32).toInt = -1 := rfl; omega)
  ·
    replace c40 := ti_eqN (a := v9) (b := (1 : Int32)) c40 rfl (show (1 : Int32).toInt = 1 from rfl)
    refine ok_if (fun c43 => ?_) (fun c43 => ?_)
    ·
      replace c43 := ti_eqP (a := v9) (b := (2 : Int32)) c43 rfl (show (2 : Int32).toInt = 2 from rfl)
      refine ok_bnd (fun v11 e44 => ?_)
      have t_v11 := ti_sq e44 (by omega) (by omega)
      refine ok_bnd (fun v12 e45 => ?_)
      have t_v12 := ti_sq e45 (by omega) (by omega)
      refine ok_bnd (fun v13 e46 => ?_)
      have t_v13 : v13.toInt = v11.toInt + v12.toInt := ti_add e46 rfl rfl (by omega) (by omega)
      refine ok_if (fun c47 => ?_) (fun c47 => ?_)
      ·
        replace c47 := ti_eqP (a := v13) (b := (5 : Int32)) c47 rfl (show (5 : Int32).toInt = 5 from rfl)
        unfold f_X0_attacks_94
        refine ok_chk (by decide) ?_
        exact ok_ret ⟨rfl, (show (0 : Int) ≤ (1 : Int32).toInt ∧ (1 : Int32).toInt ≤ (1 : Int) from (by decide)), (by show ((1 : Int32).toInt = 1 ↔ P); have zz := ac_94 q0 (k := v9.toInt) (by rw [← u_v8]; omega) (by omega); rw [zz]; have z0 : (0 : Int32).toInt = 0 := rfl; have z1 : (1 : Int32).toInt = 1 := rfl; have z2 : (-1 : Int32).toInt = -1 := rfl; unfold kni; omega)⟩
      ·
        replace c47 := ti_eqN (a := v13) (b := (5 : Int32)) c47 rfl (show (5 : Int32).toInt = 5 from rfl)
        unfold f_X0_attacks_94
        refine ok_chk (by decide) ?_
        exact ok_ret ⟨rfl, (show (0 : Int) ≤ (0 : Int32).toInt ∧ (0 : Int32).toInt ≤ (1 : Int) from (by decide)), (by show ((0 : Int32).toInt = 1 ↔ P); have zz := ac_94 q0 (k := v9.toInt) (by rw [← u_v8]; omega) (by omega); rw [zz]; have z0 : (0 : Int32).toInt = 0 := rfl; have z1 : (1 : Int32).toInt = 1 := rfl; have z2 : (-1 : Int32).toInt = -1 := rfl; unfold kni; omega)⟩
    ·
      replace c43 := ti_eqN (a := v9) (b := (2 : Int32)) c43 rfl (show (2 : Int32).toInt = 2 from rfl)
      refine ok_if (fun c48 => ?_) (fun c48 => ?_)
      ·
        replace c48 := ti_leP (a := (0 : Int32)) (b := v3) c48 (show (0 : Int32).toInt = 0 from rfl) rfl
        exact x_f_X0_attacks_105 (P := P) (S := S)  (x0 := x0) (x1 := x1) (x3 := v3) (x4 := v6) (x5 := v9) (t0 := v3) hT r_x0 r_x1 (by omega) (by omega) (by omega) (by omega) (by omega) (by omega) (ac_105 q0 (by rw [← u_v8]; omega) (by omega) (by omega) (by omega) (by omega))
      ·
        replace c48 := ti_leN (a := (0 : Int32)) (b := v3) c48 (show (0 : Int32).toInt = 0 from rfl) rfl
        refine ok_bnd (fun v10 e49 => ?_)
        have t_v10 : v10.toInt = -v3.toInt := ti_neg e49 rfl (by omega)
        exact x_f_X0_attacks_105 (P := P) (S := S)  (x0 := x0) (x1 := x1) (x3 := v3) (x4 := v6) (x5 := v9) (t0 := v10) hT r_x0 r_x1 (by omega) (by omega) (by omega) (by omega) (by omega) (by omega) (ac_105 q0 (by rw [← u_v8]; omega) (by omega) (by omega) (by omega) (by omega))
theorem x_f_X0_attacks {P : Prop} {S : ZS} {x0 : Nat} {x1 : Int32} {x2 : Int32} (hT : ZT S) (r_x0 : zK S x0 = 0) (r_x1 : (0 : Int) ≤ x1.toInt ∧ x1.toInt ≤ (63 : Int)) (r_x2 : (0 : Int) ≤ x2.toInt ∧ x2.toInt ≤ (63 : Int)) (q0 : P ↔ attk (mCb S x0) x1.toInt x2.toInt) (q1 : MBd (mCb S x0)) : Ok (f_X0_attacks x0 x1 x2 S) (fun o => o.2 = S ∧ ((0 : Int) ≤ o.1.toInt ∧ o.1.toInt ≤ (1 : Int)) ∧ ((o.1.toInt = 1 ↔ P))) := x_f_X0_attacks_0 (P := P) hT r_x0 r_x1 r_x2 q0 q1
end
