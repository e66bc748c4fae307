def stp (s f r : Int) : Int := if 0 ≤ s % 8 + f ∧ s % 8 + f < 8 ∧ 0 ≤ s / 8 + r ∧ s / 8 + r < 8 then 8 * (s / 8 + r) + (s % 8 + f) else -1
def mR (A : Nat → Nat → Int32) (s : Int) : Int := if 0 ≤ s ∧ s < 64 then (A 24 s.toNat).toInt else 0
def mCb (S : ZS) (b : Nat) (s : Int) : Int := if 0 ≤ s ∧ s < 64 then (match zP S 0 b with | some c => (zA S c s.toNat).toInt | none => 0) else 0
def MBd (m : Int → Int) : Prop := ∀ s, 0 ≤ m s ∧ m s ≤ 14 ∧ m s ≠ 7 ∧ m s ≠ 8
def sg (x : Int) : Int := if 0 < x then 1 else if x < 0 then -1 else 0
def nst (x y : Int) : Int := if x ≤ y ∧ -x ≤ y ∨ x ≤ -y ∧ -x ≤ -y then (if 0 ≤ y then y else -y) else (if 0 ≤ x then x else -x)
def clr (m : Int → Int) (a x y : Int) : Prop := ∀ j : Int, 1 ≤ j → j < nst x y → m (a + j * (sg x + 8 * sg y)) = 0
def lin (k x y : Int) : Prop := (x ≠ 0 ∨ y ≠ 0) ∧ (((x = 0 ∨ y = 0) ∧ (k = 4 ∨ k = 5)) ∨ (x ≠ 0 ∧ y ≠ 0 ∧ (x = y ∨ x = -y) ∧ (k = 3 ∨ k = 5)))
def kni (x y : Int) : Prop := ((x = 1 ∨ x = -1) ∧ (y = 2 ∨ y = -2)) ∨ ((x = 2 ∨ x = -2) ∧ (y = 1 ∨ y = -1))
def kin (x y : Int) : Prop := -1 ≤ x ∧ x ≤ 1 ∧ -1 ≤ y ∧ y ≤ 1 ∧ (x ≠ 0 ∨ y ≠ 0)
def paw (v x y : Int) : Prop := (x = 1 ∨ x = -1) ∧ ((v < 8 ∧ y = 1) ∨ (8 ≤ v ∧ y = -1))
def attk (m : Int → Int) (a b : Int) : Prop := (m a % 8 = 1 ∧ paw (m a) (b % 8 - a % 8) (b / 8 - a / 8)) ∨ (m a % 8 = 2 ∧ kni (b % 8 - a % 8) (b / 8 - a / 8)) ∨ (m a % 8 = 6 ∧ kin (b % 8 - a % 8) (b / 8 - a / 8)) ∨ (lin (m a % 8) (b % 8 - a % 8) (b / 8 - a / 8) ∧ clr m a (b % 8 - a % 8) (b / 8 - a / 8))
def attd (m : Int → Int) (b w : Int) : Prop := ∃ a : Int, 0 ≤ a ∧ a < 64 ∧ m a ≠ 0 ∧ m a / 8 = w ∧ attk m a b
def onr (s f r n : Int) : Prop := 0 ≤ s % 8 + n * f ∧ s % 8 + n * f < 8 ∧ 0 ≤ s / 8 + n * r ∧ s / 8 + n * r < 8
theorem dir9 {f r : Int} (h : kin f r) {P : Int → Int → Prop} (h1 : P (-1) (-1)) (h2 : P (-1) 0) (h3 : P (-1) 1) (h4 : P 0 (-1)) (h5 : P 0 1) (h6 : P 1 (-1)) (h7 : P 1 0) (h8 : P 1 1) : P f r := by
  obtain ⟨a1, a2, a3, a4, a5⟩ := h
  have hf : f = -1 ∨ f = 0 ∨ f = 1 := by omega
  have hr : r = -1 ∨ r = 0 ∨ r = 1 := by omega
  rcases hf with e | e | e <;> rcases hr with e2 | e2 | e2 <;> subst e <;> subst e2
  · exact h1
  · exact h2
  · exact h3
  · exact h4
  · omega
  · exact h5
  · exact h6
  · exact h7
  · exact h8
theorem onr_le {s f r n k : Int} (hs : 0 ≤ s ∧ s < 64) (hd : kin f r) (h : onr s f r n) (hk : 0 ≤ k) (hkn : k ≤ n) : onr s f r k := by
  revert h
  refine dir9 hd (P := fun f r => onr s f r n → onr s f r k) ?_ ?_ ?_ ?_ ?_ ?_ ?_ ?_ <;> (unfold onr; omega)
theorem onr_sq {s f r n : Int} (hs : 0 ≤ s ∧ s < 64) (hd : kin f r) (h : onr s f r n) : 0 ≤ s + n * (f + 8 * r) ∧ s + n * (f + 8 * r) < 64 ∧ (s + n * (f + 8 * r)) % 8 = s % 8 + n * f ∧ (s + n * (f + 8 * r)) / 8 = s / 8 + n * r := by
  revert h
  refine dir9 hd (P := fun f r => onr s f r n → 0 ≤ s + n * (f + 8 * r) ∧ s + n * (f + 8 * r) < 64 ∧ (s + n * (f + 8 * r)) % 8 = s % 8 + n * f ∧ (s + n * (f + 8 * r)) / 8 = s / 8 + n * r) ?_ ?_ ?_ ?_ ?_ ?_ ?_ ?_ <;> (unfold onr; omega)
def SQ (s f r t : Int) : Prop := (0 ≤ s % 8 + f ∧ s % 8 + f < 8 ∧ 0 ≤ s / 8 + r ∧ s / 8 + r < 8 ∧ t = 8 * (s / 8 + r) + (s % 8 + f)) ∨ (t = -1 ∧ (s % 8 + f < 0 ∨ 8 ≤ s % 8 + f ∨ s / 8 + r < 0 ∨ 8 ≤ s / 8 + r))
theorem stp_of {s f r t : Int} (h : SQ s f r t) : t = stp s f r := by
  unfold SQ at h
  unfold stp
  split <;> omega
def pr8 (m : Int → Int) (q f r s : Int) : Prop := ∃ n : Int, 1 ≤ n ∧ ((onr q f r n ∧ s = q + n * (f + 8 * r)) ∨ (¬ onr q f r n ∧ s = -1)) ∧ ∀ j, 1 ≤ j → j < n → m (q + j * (f + 8 * r)) = 0
def metS (m : Int → Int) (q f r v : Int) : Prop := (v ≠ 0 ∧ ∃ n : Int, 1 ≤ n ∧ onr q f r n ∧ m (q + n * (f + 8 * r)) = v ∧ ∀ j, 1 ≤ j → j < n → m (q + j * (f + 8 * r)) = 0) ∨ (v = 0 ∧ ∀ n : Int, 1 ≤ n → onr q f r n → m (q + n * (f + 8 * r)) = 0)
theorem pr8_0 {m : Int → Int} {q f r s : Int} (hq : 0 ≤ q ∧ q < 64) (hd : kin f r) (h : SQ q f r s) : pr8 m q f r s := by
  refine ⟨1, by omega, ?_, fun j a b => by omega⟩
  unfold SQ at h
  revert h
  refine dir9 hd (P := fun f r => (0 ≤ q % 8 + f ∧ q % 8 + f < 8 ∧ 0 ≤ q / 8 + r ∧ q / 8 + r < 8 ∧ s = 8 * (q / 8 + r) + (q % 8 + f)) ∨ (s = -1 ∧ (q % 8 + f < 0 ∨ 8 ≤ q % 8 + f ∨ q / 8 + r < 0 ∨ 8 ≤ q / 8 + r)) → (onr q f r 1 ∧ s = q + 1 * (f + 8 * r)) ∨ (¬ onr q f r 1 ∧ s = -1)) ?_ ?_ ?_ ?_ ?_ ?_ ?_ ?_ <;> (unfold onr; omega)
theorem pr8_s {m : Int → Int} {q f r s t : Int} (hq : 0 ≤ q ∧ q < 64) (hd : kin f r) (h : pr8 m q f r s) (h0 : 0 ≤ s) (hm : m s = 0) (hs : SQ s f r t) : pr8 m q f r t := by
  obtain ⟨n, n1, n2, n3⟩ := h
  have n4 : onr q f r n ∧ s = q + n * (f + 8 * r) := by
    rcases n2 with h | h
    · exact h
    · omega
  obtain ⟨o1, o2⟩ := n4
  obtain ⟨p1, p2, p3, p4⟩ := onr_sq hq hd o1
  refine ⟨n + 1, by omega, ?_, fun j a b => ?_⟩
  · unfold SQ at hs
    rw [o2, p3, p4] at hs
    clear hm n3 o2 p1 p2 p3 p4
    revert hs
    revert o1
    refine dir9 hd (P := fun f r => onr q f r n → (0 ≤ q % 8 + n * f + f ∧ q % 8 + n * f + f < 8 ∧ 0 ≤ q / 8 + n * r + r ∧ q / 8 + n * r + r < 8 ∧ t = 8 * (q / 8 + n * r + r) + (q % 8 + n * f + f)) ∨ (t = -1 ∧ (q % 8 + n * f + f < 0 ∨ 8 ≤ q % 8 + n * f + f ∨ q / 8 + n * r + r < 0 ∨ 8 ≤ q / 8 + n * r + r)) → (onr q f r (n + 1) ∧ t = q + (n + 1) * (f + 8 * r)) ∨ (¬ onr q f r (n + 1) ∧ t = -1)) ?_ ?_ ?_ ?_ ?_ ?_ ?_ ?_ <;> (unfold onr; omega)
  · by_cases e : j = n
    · rw [e, ← o2]; exact hm
    · exact n3 j a (by omega)
theorem pr8_off {m : Int → Int} {q f r s : Int} (hq : 0 ≤ q ∧ q < 64) (hd : kin f r) (h : pr8 m q f r s) (h0 : s < 0) : metS m q f r 0 := by
  obtain ⟨n, n1, n2, n3⟩ := h
  refine Or.inr ⟨rfl, fun k k1 k2 => ?_⟩
  rcases n2 with ⟨o1, o2⟩ | ⟨o1, o2⟩
  · have := (onr_sq hq hd o1).1
    omega
  · by_cases e : k < n
    · exact n3 k k1 e
    · exact absurd (onr_le hq hd k2 (by omega) (by omega)) o1
theorem pr8_hit {m : Int → Int} {q f r s : Int} (h : pr8 m q f r s) (h0 : 0 ≤ s) (hm : m s ≠ 0) : metS m q f r (m s) := by
  obtain ⟨n, n1, n2, n3⟩ := h
  rcases n2 with ⟨o1, o2⟩ | ⟨o1, o2⟩
  · exact Or.inl ⟨hm, n, n1, o1, by rw [← o2], n3⟩
  · omega
def hK (m : Int → Int) (q w f r : Int) : Prop := kni f r ∧ 0 ≤ stp q f r ∧ m (stp q f r) = 2 + w
def hG (m : Int → Int) (q w f r : Int) : Prop := kin f r ∧ 0 ≤ stp q f r ∧ m (stp q f r) = 6 + w
def hL (m : Int → Int) (q w f r : Int) : Prop := kin f r ∧ ∃ v, metS m q f r v ∧ (v = 5 + w ∨ ((f = 0 ∨ r = 0) ∧ v = 4 + w) ∨ (f ≠ 0 ∧ r ≠ 0 ∧ v = 3 + w))
def hitR (m : Int → Int) (q w f r : Int) : Prop := hK m q w f r ∨ hG m q w f r ∨ hL m q w f r
def pwR (m : Int → Int) (q b : Int) : Prop := (0 ≤ stp q (-1) (if b = 0 then -1 else 1) ∧ m (stp q (-1) (if b = 0 then -1 else 1)) = 1 + 8 * b) ∨ (0 ≤ stp q 1 (if b = 0 then -1 else 1) ∧ m (stp q 1 (if b = 0 then -1 else 1)) = 1 + 8 * b)
def attR (m : Int → Int) (q b : Int) : Prop := pwR m q b ∨ ∃ f r : Int, -2 ≤ f ∧ f ≤ 2 ∧ -2 ≤ r ∧ r ≤ 2 ∧ hitR m q (8 * b) f r
theorem stp_in {q f r : Int} (h : 0 ≤ stp q f r) : 0 ≤ q % 8 + f ∧ q % 8 + f < 8 ∧ 0 ≤ q / 8 + r ∧ q / 8 + r < 8 ∧ stp q f r = 8 * (q / 8 + r) + (q % 8 + f) := by
  unfold stp at h ⊢
  split at h
  · rename_i c
    rw [if_pos c]
    omega
  · omega
theorem stp_to {q a : Int} (hq : 0 ≤ q ∧ q < 64) (ha : 0 ≤ a ∧ a < 64) : stp q (a % 8 - q % 8) (a / 8 - q / 8) = a := by
  unfold stp
  rw [if_pos (by omega)]
  omega
theorem sg_n {x n f : Int} (hn : 1 ≤ n) (hf : f = -1 ∨ f = 0 ∨ f = 1) : sg (x - (x + n * f)) = -f := by
  unfold sg
  rcases hf with e | e | e <;> subst e
  · rw [if_pos (by omega)]; rfl
  · rw [if_neg (by omega), if_neg (by omega)]; rfl
  · rw [if_neg (by omega), if_pos (by omega)]
theorem att_mp {m : Int → Int} {q b : Int} (hb : b = 0 ∨ b = 1) (hq : 0 ≤ q ∧ q < 64) (h : attR m q b) : attd m q b := by
  rcases h with h | ⟨f, r, f1, f2, r1, r2, h⟩
  · unfold pwR at h
    rcases hb with e | e
    · subst e
      rw [if_pos rfl] at h
      rcases h with ⟨h1, h2⟩ | ⟨h1, h2⟩
      · have := stp_in h1
        refine ⟨_, h1, by omega, by omega, by omega, Or.inl ⟨by omega, ?_⟩⟩
        rw [h2]
        unfold paw
        omega
      · have := stp_in h1
        refine ⟨_, h1, by omega, by omega, by omega, Or.inl ⟨by omega, ?_⟩⟩
        rw [h2]
        unfold paw
        omega
    · subst e
      rw [if_neg (by decide)] at h
      rcases h with ⟨h1, h2⟩ | ⟨h1, h2⟩
      · have := stp_in h1
        refine ⟨_, h1, by omega, by omega, by omega, Or.inl ⟨by omega, ?_⟩⟩
        rw [h2]
        unfold paw
        omega
      · have := stp_in h1
        refine ⟨_, h1, by omega, by omega, by omega, Or.inl ⟨by omega, ?_⟩⟩
        rw [h2]
        unfold paw
        omega
  · rcases h with ⟨h1, h2, h3⟩ | ⟨h1, h2, h3⟩ | ⟨h1, v, h2, h3⟩
    · have := stp_in h2
      refine ⟨_, h2, by omega, by omega, by omega, Or.inr (Or.inl ⟨by omega, ?_⟩)⟩
      unfold kni at h1 ⊢
      omega
    · have := stp_in h2
      refine ⟨_, h2, by omega, by omega, by omega, Or.inr (Or.inr (Or.inl ⟨by omega, ?_⟩))⟩
      unfold kin at h1 ⊢
      omega
    · rcases h2 with ⟨v0, n, n1, n2, n3, n4⟩ | ⟨v0, n2⟩
      · obtain ⟨p1, p2, p3, p4⟩ := onr_sq hq h1 n2
        refine ⟨q + n * (f + 8 * r), p1, p2, by omega, by rw [n3]; omega, Or.inr (Or.inr (Or.inr ⟨?_, ?_⟩))⟩
        · rw [n3, p3, p4]
          revert h3
          refine dir9 h1 (P := fun f r => v = 5 + 8 * b ∨ (f = 0 ∨ r = 0) ∧ v = 4 + 8 * b ∨ f ≠ 0 ∧ r ≠ 0 ∧ v = 3 + 8 * b → lin (v % 8) (q % 8 - (q % 8 + n * f)) (q / 8 - (q / 8 + n * r))) ?_ ?_ ?_ ?_ ?_ ?_ ?_ ?_ <;> (intro h3; unfold lin; omega)
        · rw [p3, p4]
          intro j j1 j2
          have e : m (q + n * (f + 8 * r) + j * (sg (q % 8 - (q % 8 + n * f)) + 8 * sg (q / 8 - (q / 8 + n * r)))) = m (q + (n - j) * (f + 8 * r)) ∧ j < n := by
            rw [sg_n (x := q % 8) n1 (by unfold kin at h1; omega), sg_n (x := q / 8) n1 (by unfold kin at h1; omega)]
            revert j2
            refine dir9 h1 (P := fun f r => j < nst (q % 8 - (q % 8 + n * f)) (q / 8 - (q / 8 + n * r)) → m (q + n * (f + 8 * r) + j * (-f + 8 * (-r))) = m (q + (n - j) * (f + 8 * r)) ∧ j < n) ?_ ?_ ?_ ?_ ?_ ?_ ?_ ?_ <;>
            · intro j2
              unfold nst at j2
              exact ⟨congrArg m (by omega), by omega⟩
          rw [e.1]
          exact n4 _ (by omega) (by omega)
      · omega
theorem att_mr {m : Int → Int} {q b : Int} (hm : MBd m) (hb : b = 0 ∨ b = 1) (hq : 0 ≤ q ∧ q < 64) (h : attd m q b) : attR m q b := by
  obtain ⟨a, a1, a2, a3, a4, h⟩ := h
  have hma := hm a
  have st := stp_to hq ⟨a1, a2⟩
  rcases h with ⟨h1, h2⟩ | ⟨h1, h2⟩ | ⟨h1, h2⟩ | ⟨h1, h2⟩
  · refine Or.inl ?_
    unfold paw at h2
    have hx : a % 8 - q % 8 = -1 ∨ a % 8 - q % 8 = 1 := by omega
    have hy : a / 8 - q / 8 = if b = 0 then -1 else 1 := by
      split <;> omega
    rcases hx with hx | hx
    · rw [hx, hy] at st
      refine Or.inl ?_
      rw [st]
      omega
    · rw [hx, hy] at st
      refine Or.inr ?_
      rw [st]
      omega
  · refine Or.inr ⟨a % 8 - q % 8, a / 8 - q / 8, ?_, ?_, ?_, ?_, Or.inl ⟨?_, ?_, ?_⟩⟩ <;> (try rw [st]) <;> unfold kni at * <;> omega
  · refine Or.inr ⟨a % 8 - q % 8, a / 8 - q / 8, ?_, ?_, ?_, ?_, Or.inr (Or.inl ⟨?_, ?_, ?_⟩)⟩ <;> (try rw [st]) <;> unfold kin at * <;> omega
  · have k1 : kin (sg (a % 8 - q % 8)) (sg (a / 8 - q / 8)) := by
      unfold lin at h1
      unfold kin sg
      omega
    have hn : onr q (sg (a % 8 - q % 8)) (sg (a / 8 - q / 8)) (nst (q % 8 - a % 8) (q / 8 - a / 8)) ∧ q + nst (q % 8 - a % 8) (q / 8 - a / 8) * (sg (a % 8 - q % 8) + 8 * sg (a / 8 - q / 8)) = a ∧ 1 ≤ nst (q % 8 - a % 8) (q / 8 - a / 8) := by
      have key : ∀ n : Int, n = nst (q % 8 - a % 8) (q / 8 - a / 8) → onr q (sg (a % 8 - q % 8)) (sg (a / 8 - q / 8)) n ∧ q + n * (sg (a % 8 - q % 8) + 8 * sg (a / 8 - q / 8)) = a ∧ 1 ≤ n := by
        intro n hn
        unfold lin at h1
        unfold nst at hn
        generalize hf : sg (a % 8 - q % 8) = f at *
        generalize hr : sg (a / 8 - q / 8) = r at *
        unfold sg at hf hr
        revert hf hr
        refine dir9 k1 (P := fun f r => (if 0 < a % 8 - q % 8 then 1 else if a % 8 - q % 8 < 0 then -1 else 0) = f → (if 0 < a / 8 - q / 8 then 1 else if a / 8 - q / 8 < 0 then -1 else 0) = r → onr q f r n ∧ q + n * (f + 8 * r) = a ∧ 1 ≤ n) ?_ ?_ ?_ ?_ ?_ ?_ ?_ ?_ <;> (intro hf hr; unfold onr; omega)
      exact key _ rfl
    obtain ⟨g1, g2, g3⟩ := hn
    refine Or.inr ⟨sg (a % 8 - q % 8), sg (a / 8 - q / 8), ?_, ?_, ?_, ?_, Or.inr (Or.inr ⟨k1, m a, Or.inl ⟨a3, nst (q % 8 - a % 8) (q / 8 - a / 8), g3, g1, by rw [g2], fun j j1 j2 => ?_⟩, ?_⟩)⟩
    · unfold sg; omega
    · unfold sg; omega
    · unfold sg; omega
    · unfold sg; omega
    · have z := h2 (nst (q % 8 - a % 8) (q / 8 - a / 8) - j) (by omega) (by omega)
      rw [← z]
      refine congrArg m ?_
      generalize hn : nst (q % 8 - a % 8) (q / 8 - a / 8) = n at *
      have s1 : sg (q % 8 - a % 8) = - sg (a % 8 - q % 8) := by unfold sg; omega
      have s2 : sg (q / 8 - a / 8) = - sg (a / 8 - q / 8) := by unfold sg; omega
      rw [s1, s2]
      clear z h2 s1 s2 hn j2
      generalize sg (a % 8 - q % 8) = f at *
      generalize sg (a / 8 - q / 8) = r at *
      revert g2
      refine dir9 k1 (P := fun f r => q + n * (f + 8 * r) = a → q + j * (f + 8 * r) = a + (n - j) * (-f + 8 * -r)) ?_ ?_ ?_ ?_ ?_ ?_ ?_ ?_ <;> (intro g2; omega)
    · unfold lin at h1
      unfold sg
      omega
theorem att_eq {m : Int → Int} {q b : Int} (hm : MBd m) (hb : b = 0 ∨ b = 1) (hq : 0 ≤ q ∧ q < 64) : attR m q b ↔ attd m q b := ⟨att_mp hb hq, att_mr hm hb hq⟩
