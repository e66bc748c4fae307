theorem rb_a : ∀ r : Nat, r < 16 → ∀ g : Nat, g < 16 → ∀ h : Nat, h < 16 → 0 ≤ (nI r &&& ((nI g ||| nI h) ^^^ (-1 : Int32))).toInt ∧ (nI r &&& ((nI g ||| nI h) ^^^ (-1 : Int32))).toInt ≤ 15 := by decide +kernel
theorem rb_0 : ∀ r : Nat, r < 16 → ∀ g : Nat, g < 16 → ∀ h : Nat, h < 16 → ((nI r &&& ((nI g ||| nI h) ^^^ (-1 : Int32))).toInt % 2 ≠ 1 ∨ (r % 2 = 1 ∧ g % 2 = 0 ∧ h % 2 = 0)) := by decide +kernel
theorem rb_1 : ∀ r : Nat, r < 16 → ∀ g : Nat, g < 16 → ∀ h : Nat, h < 16 → ((nI r &&& ((nI g ||| nI h) ^^^ (-1 : Int32))).toInt / 2 % 2 ≠ 1 ∨ (r / 2 % 2 = 1 ∧ g / 2 % 2 = 0 ∧ h / 2 % 2 = 0)) := by decide +kernel
theorem rb_2 : ∀ r : Nat, r < 16 → ∀ g : Nat, g < 16 → ∀ h : Nat, h < 16 → ((nI r &&& ((nI g ||| nI h) ^^^ (-1 : Int32))).toInt / 4 % 2 ≠ 1 ∨ (r / 4 % 2 = 1 ∧ g / 4 % 2 = 0 ∧ h / 4 % 2 = 0)) := by decide +kernel
theorem rb_3 : ∀ r : Nat, r < 16 → ∀ g : Nat, g < 16 → ∀ h : Nat, h < 16 → ((nI r &&& ((nI g ||| nI h) ^^^ (-1 : Int32))).toInt / 8 % 2 ≠ 1 ∨ (r / 8 % 2 = 1 ∧ g / 8 % 2 = 0 ∧ h / 8 % 2 = 0)) := by decide +kernel
theorem rb_all (r : Nat) (hr : r < 16) (g : Nat) (hg : g < 16) (h : Nat) (hh : h < 16) : 0 ≤ (nI r &&& ((nI g ||| nI h) ^^^ (-1 : Int32))).toInt ∧ (nI r &&& ((nI g ||| nI h) ^^^ (-1 : Int32))).toInt ≤ 15 ∧ ((nI r &&& ((nI g ||| nI h) ^^^ (-1 : Int32))).toInt % 2 = 1 → r % 2 = 1 ∧ g % 2 = 0 ∧ h % 2 = 0) ∧ ((nI r &&& ((nI g ||| nI h) ^^^ (-1 : Int32))).toInt / 2 % 2 = 1 → r / 2 % 2 = 1 ∧ g / 2 % 2 = 0 ∧ h / 2 % 2 = 0) ∧ ((nI r &&& ((nI g ||| nI h) ^^^ (-1 : Int32))).toInt / 4 % 2 = 1 → r / 4 % 2 = 1 ∧ g / 4 % 2 = 0 ∧ h / 4 % 2 = 0) ∧ ((nI r &&& ((nI g ||| nI h) ^^^ (-1 : Int32))).toInt / 8 % 2 = 1 → r / 8 % 2 = 1 ∧ g / 8 % 2 = 0 ∧ h / 8 % 2 = 0) := ⟨(rb_a r hr g hg h hh).1, (rb_a r hr g hg h hh).2, fun e => (rb_0 r hr g hg h hh).resolve_left (fun n => n e), fun e => (rb_1 r hr g hg h hh).resolve_left (fun n => n e), fun e => (rb_2 r hr g hg h hh).resolve_left (fun n => n e), fun e => (rb_3 r hr g hg h hh).resolve_left (fun n => n e)⟩
/-- the squares whose leaving ends a right -/
def gb (s i : Int) : Prop := (i = 0 ∧ (s = 4 ∨ s = 7)) ∨ (i = 1 ∧ (s = 4 ∨ s = 0)) ∨ (i = 2 ∧ (s = 60 ∨ s = 63)) ∨ (i = 3 ∧ (s = 60 ∨ s = 56))
theorem gn_n16 (s : Int) : ∃ g : Nat, g < 16 ∧ gn s = nI g ∧ (g % 2 = 0 → ¬ gb s 0) ∧ (g / 2 % 2 = 0 → ¬ gb s 1) ∧ (g / 4 % 2 = 0 → ¬ gb s 2) ∧ (g / 8 % 2 = 0 → ¬ gb s 3) := by
  by_cases h1 : s = 4
  · exact ⟨3, by decide, gn_4 h1, fun h => absurd h (by decide), fun h => absurd h (by decide), fun _ g => by unfold gb at g; omega, fun _ g => by unfold gb at g; omega⟩
  · by_cases h2 : s = 7
    · exact ⟨1, by decide, gn_7 h2, fun h => absurd h (by decide), fun _ g => by unfold gb at g; omega, fun _ g => by unfold gb at g; omega, fun _ g => by unfold gb at g; omega⟩
    · by_cases h3 : s = 0
      · exact ⟨2, by decide, gn_0 h3, fun _ g => by unfold gb at g; omega, fun h => absurd h (by decide), fun _ g => by unfold gb at g; omega, fun _ g => by unfold gb at g; omega⟩
      · by_cases h4 : s = 60
        · exact ⟨12, by decide, gn_60 h4, fun _ g => by unfold gb at g; omega, fun _ g => by unfold gb at g; omega, fun h => absurd h (by decide), fun h => absurd h (by decide)⟩
        · by_cases h5 : s = 63
          · exact ⟨4, by decide, gn_63 h5, fun _ g => by unfold gb at g; omega, fun _ g => by unfold gb at g; omega, fun h => absurd h (by decide), fun _ g => by unfold gb at g; omega⟩
          · by_cases h6 : s = 56
            · exact ⟨8, by decide, gn_56 h6, fun _ g => by unfold gb at g; omega, fun _ g => by unfold gb at g; omega, fun _ g => by unfold gb at g; omega, fun h => absurd h (by decide)⟩
            · exact ⟨0, by decide, gn_n h1 h2 h3 h4 h5 h6, fun _ g => by unfold gb at g; omega, fun _ g => by unfold gb at g; omega, fun _ g => by unfold gb at g; omega, fun _ g => by unfold gb at g; omega⟩
/-- the rights behind a move -/
theorem rt_pl {r : Int32} {a t : Int} (hr : 0 ≤ r.toInt ∧ r.toInt ≤ 15) : (0 ≤ (r &&& ((gn a ||| gn t) ^^^ (-1 : Int32))).toInt ∧ (r &&& ((gn a ||| gn t) ^^^ (-1 : Int32))).toInt ≤ 15) ∧ ∀ i : Int, rb (r &&& ((gn a ||| gn t) ^^^ (-1 : Int32))).toInt i → rb r.toInt i ∧ ¬ gb a i ∧ ¬ gb t i := by
  obtain ⟨g, g1, g2, g3, g4, g5, g6⟩ := gn_n16 a
  obtain ⟨h, h1, h2, h3, h4, h5, h6⟩ := gn_n16 t
  have hx : r = nI r.toInt.toNat := by
    apply Int32.toInt_inj.1
    rw [nI_toInt (by omega)]
    omega
  have hN : ((r.toInt.toNat : Nat) : Int) = r.toInt := by omega
  obtain ⟨a1, a2, a3, a4, a5, a6⟩ := rb_all r.toInt.toNat (by omega) g g1 h h1
  rw [← hx, ← g2, ← h2] at a1 a2 a3 a4 a5 a6
  refine ⟨⟨a1, a2⟩, fun i hi => ?_⟩
  unfold rb at hi ⊢
  rcases hi with ⟨e, hi⟩ | ⟨e, hi⟩ | ⟨e, hi⟩ | ⟨e, hi⟩ <;> subst e
  · obtain ⟨c1, c2, c3⟩ := a3 hi
    exact ⟨Or.inl ⟨rfl, by omega⟩, g3 c2, h3 c3⟩
  · obtain ⟨c1, c2, c3⟩ := a4 hi
    exact ⟨Or.inr (Or.inl ⟨rfl, by omega⟩), g4 c2, h4 c3⟩
  · obtain ⟨c1, c2, c3⟩ := a5 hi
    exact ⟨Or.inr (Or.inr (Or.inl ⟨rfl, by omega⟩)), g5 c2, h5 c3⟩
  · obtain ⟨c1, c2, c3⟩ := a6 hi
    exact ⟨Or.inr (Or.inr (Or.inr ⟨rfl, by omega⟩)), g6 c2, h6 c3⟩
section POSt
variable {m : Int → Int} {sd rt ps kw kb a t p : Int}
/-- a position is one behind a legal move too -/
theorem pos_pl {rt' ps' : Int} (hP : POS m sd rt ps kw kb) (ha : 0 ≤ a ∧ a < 64) (ht : 0 ≤ t ∧ t < 64) (hr : rch m sd rt ps a t) (hp : PRo m a t p) (hsf : ¬ attd (plB m sd ps a t p) (kgB m sd ps a t p sd (if sd = 0 then kw else kb)) (1 - sd)) (hrt : (0 ≤ rt' ∧ rt' ≤ 15) ∧ ∀ i : Int, rb rt' i → rb rt i ∧ ¬ gb a i ∧ ¬ gb t i) (hps : ps' = psC (plB m sd ps a t p) sd (pwb m a) a t) : POS (plB m sd ps a t p) (1 - sd) rt' ps' (kgB m sd ps a t p 0 kw) (kgB m sd ps a t p 1 kb) := by
  have k0 := ku_pl hP ha ht hr (Or.inr hp) (Or.inl rfl) hP.2.2.1 (by rw [if_pos rfl])
  have k1 := ku_pl hP ha ht hr (Or.inr hp) (Or.inr rfl) hP.2.2.2.1 (by rw [if_neg (by decide)])
  have h2 := m2_at hP ha ht hr
  have hv := pv_v (p := p) hP ha ht hr
  obtain ⟨hs, hM, -, -, -, hro, -, -⟩ := hP
  obtain ⟨⟨n0, n1⟩, n2, h3⟩ := hr
  have hat : a ≠ t := fun e => by rw [e] at n0 n1; exact n2 ⟨n0, n1⟩
  have hp5 : 0 ≤ p ∧ p ≤ 5 := by unfold PRo at hp; omega
  refine ⟨by omega, mbd_pl hM hs hp5, k0, k1, ?_, fun i i0 i3 hi => ?_, hrt.1, ?_⟩
  · rw [hps]
    unfold psC
    split
    · rename_i c
      obtain ⟨c1, c2, -⟩ := c
      have hw1 : m a % 8 = 1 := by
        unfold pwb at c1
        by_cases e : m a % 8 = 1
        · exact e
        · rw [if_neg e] at c1; omega
      have hw : pwn m sd ps a t := h3.elim (fun z => z.2) (fun z => absurd hw1 z.1)
      have hd : t = a + 2 * (8 - 16 * sd) ∧ a / 8 = 1 + 5 * sd ∧ m (a + (8 - 16 * sd)) = 0 ∧ m t = 0 := by
        rcases pwn_3 hw with w | w | w
        · exfalso; rcases hs with h | h <;> subst h <;> omega
        · exact w
        · exfalso; rcases hs with h | h <;> subst h <;> omega
      obtain ⟨d1, d2, d3, d4⟩ := hd
      have eq : (a + t) / 2 = a + (8 - 16 * sd) := by omega
      rw [eq]
      have hMa := hM a
      refine Or.inr ⟨by rcases hs with h | h <;> subst h <;> omega, by rcases hs with h | h <;> subst h <;> omega, by rcases hs with h | h <;> subst h <;> omega, ?_, ?_⟩
      · rw [plB_at, if_neg (by rcases hs with h | h <;> subst h <;> omega), if_neg (by rcases hs with h | h <;> subst h <;> omega)]
        rcases h2 (a + (8 - 16 * sd)) with e | ⟨-, -, e, -⟩ | ⟨e, -⟩
        · rw [e]; exact d3
        · exfalso; rcases hs with h | h <;> subst h <;> omega
        · exfalso; omega
      · have et : a + (8 - 16 * sd) - (8 - 16 * (1 - sd)) = t := by omega
        rw [et, plB_at, if_neg (fun e => hat e.symm), if_pos rfl, hv]
        have p0 : p = 0 := by
          unfold PRo at hp
          rcases hs with h | h <;> subst h <;> omega
        rw [if_pos p0]
        omega
    · exact Or.inl rfl
  · obtain ⟨q1, q2, q3⟩ := hrt.2 i hi
    obtain ⟨w1, w2⟩ := hro i i0 i3 q1
    have nh : 4 + 56 * (i / 2) ≠ a ∧ 4 + 56 * (i / 2) ≠ t := by
      constructor
      · intro e
        apply q2
        unfold gb
        omega
      · intro e
        apply q3
        unfold gb
        omega
    have nc : 56 * (i / 2) + (if i % 2 = 0 then 7 else 0) ≠ a ∧ 56 * (i / 2) + (if i % 2 = 0 then 7 else 0) ≠ t := by
      constructor
      · intro e
        apply q2
        unfold gb
        split at e <;> omega
      · intro e
        apply q3
        unfold gb
        split at e <;> omega
    have hi2 : i / 2 = 0 ∨ i / 2 = 1 := by omega
    constructor
    · rw [plB_at, if_neg nh.1, if_neg nh.2]
      rcases h2 (4 + 56 * (i / 2)) with e | ⟨-, e, -⟩ | ⟨-, e1, e⟩
      · rw [e]; exact w1
      · exfalso
        rw [w1] at e
        rcases hs with h | h <;> subst h <;> rcases hi2 with g | g <;> rw [g] at e <;> omega
      · exfalso
        rcases e with ⟨-, e⟩ | ⟨-, e⟩
        · rcases e with ⟨e, -⟩ | ⟨e, -⟩ <;> rcases hs with h | h <;> subst h <;> omega
        · rcases e with ⟨e, -⟩ | ⟨e, -⟩ <;> rcases hs with h | h <;> subst h <;> omega
    · rw [plB_at, if_neg nc.1, if_neg nc.2]
      rcases h2 (56 * (i / 2) + (if i % 2 = 0 then 7 else 0)) with e | ⟨-, e, -⟩ | ⟨-, e1, e⟩
      · rw [e]; exact w2
      · exfalso
        rw [w2] at e
        rcases hs with h | h <;> subst h <;> rcases hi2 with g | g <;> rw [g] at e <;> omega
      · exfalso
        have nha := nh.1
        rcases e with ⟨-, e⟩ | ⟨-, e⟩
        · rcases e with ⟨e, -⟩ | ⟨e, -⟩ <;> split at e <;> rcases hs with h | h <;> subst h <;> omega
        · rcases e with ⟨e, -⟩ | ⟨e, -⟩ <;> split at e <;> rcases hs with h | h <;> subst h <;> omega
  · rcases hs with h | h <;> subst h
    · rw [if_neg (by decide)]
      rw [if_pos rfl] at hsf
      exact hsf
    · rw [if_pos (by decide)]
      rw [if_neg (by decide)] at hsf
      exact hsf
/-- both sides call the same moves legal -/
theorem leg_eq (hP : POS m sd rt ps kw kb) (ha : 0 ≤ a ∧ a < 64) (ht : 0 ≤ t ∧ t < 64) (hp : 0 ≤ p) : (goR m sd rt ps a t ∧ ¬ attd (mkR m sd a t p) (kgB m sd ps a t p sd (if sd = 0 then kw else kb)) (1 - sd)) ↔ (rch m sd rt ps a t ∧ safC m sd ps (if sd = 0 then kw else kb) a t p) := by
  have hs := hP.1
  constructor
  · rintro ⟨h1, h2⟩
    obtain ⟨g1, g2⟩ := (go_rch hs).1 h1
    rw [mk_pl hs ha ht hp hP.2.2.2.2.1 g1] at h2
    exact ⟨g1, g2, h2⟩
  · rintro ⟨g1, g2, h2⟩
    refine ⟨(go_rch hs).2 ⟨g1, g2⟩, ?_⟩
    rw [mk_pl hs ha ht hp hP.2.2.2.2.1 g1]
    exact h2
end POSt
