section PPM
variable {m : Int → Int}
theorem cas_att {a b : Int} (h : cas m a b) (hk : attk m a b) : False := by
  obtain ⟨h1, h2, h3⟩ := h
  rcases hk with ⟨k, -⟩ | ⟨k, -⟩ | ⟨-, g⟩ | ⟨g, -⟩
  · omega
  · omega
  · unfold kin at g
    omega
  · unfold lin at g
    omega
theorem cas_of {sd rt a b : Int} (hs : sd = 0 ∨ sd = 1) (p2 : m a % 8 = 6) (c1 : csl m sd rt a b) : cas m a b := by
  obtain ⟨e, c⟩ := c1
  rcases c with ⟨e2, -⟩ | ⟨e2, -⟩
  · exact ⟨p2, by omega, by omega⟩
  · exact ⟨p2, by omega, by omega⟩
/-- what goes by the reference is what the class reaches, castling out of or through check left out -/
theorem go_rch {sd rt ps a b : Int} (hs : sd = 0 ∨ sd = 1) : goR m sd rt ps a b ↔ rch m sd rt ps a b ∧ ¬ (cas m a b ∧ (attd m a (1 - sd) ∨ attd m ((a + b) / 2) (1 - sd))) := by
  unfold goR rch
  constructor
  · rintro ⟨h1, h2, h3⟩
    rcases h3 with ⟨p1, p2⟩ | ⟨p1, p2⟩
    · exact ⟨⟨h1, h2, Or.inl ⟨p1, p2⟩⟩, fun g => by have := g.1.1; omega⟩
    · rcases p2 with p2 | ⟨p2, p3⟩
      · exact ⟨⟨h1, h2, Or.inr ⟨p1, Or.inl p2⟩⟩, fun g => cas_att g.1 p2⟩
      · obtain ⟨c1, c2, c3⟩ := p3
        exact ⟨⟨h1, h2, Or.inr ⟨p1, Or.inr ⟨cas_of hs p2 c1, c1⟩⟩⟩, fun g => g.2.elim c2 c3⟩
  · rintro ⟨⟨h1, h2, h3⟩, h4⟩
    refine ⟨h1, h2, ?_⟩
    rcases h3 with h3 | ⟨p1, p2⟩
    · exact Or.inl h3
    · refine Or.inr ⟨p1, ?_⟩
      rcases p2 with p2 | ⟨p2, p3⟩
      · exact Or.inl p2
      · exact Or.inr ⟨p2.1, p3, fun g => h4 ⟨p2, Or.inl g⟩, fun g => h4 ⟨p2, Or.inr g⟩⟩
theorem up_s {i v : Int} : up m i v i = v := if_pos rfl
theorem up_n {i v s : Int} (h : s ≠ i) : up m i v s = m s := if_neg h
theorem up_c {a b v w : Int} (h : a ≠ b) : up (up m a v) b w = up (up m b w) a v := by
  funext s
  by_cases c : s = a
  · subst c
    rw [up_n h, up_s, up_s]
  · by_cases d : s = b
    · subst d
      rw [up_s, up_n c, up_s]
    · rw [up_n d, up_n c, up_n c, up_n d]
/-- the passed square is empty, and a pawn of the other side stands in front of it -/
def PSo (m : Int → Int) (sd ps : Int) : Prop := ps = -1 ∨ (0 ≤ ps ∧ ps < 64 ∧ ps / 8 = 5 - 3 * sd ∧ m ps = 0 ∧ m (ps - (8 - 16 * sd)) = 1 + 8 * (1 - sd))
/-- the third way of a pawn -/
theorem pwn_3 {sd ps a b : Int} (h : pwn m sd ps a b) : (b = a + (8 - 16 * sd) ∧ m b = 0) ∨ (b = a + 2 * (8 - 16 * sd) ∧ a / 8 = 1 + 5 * sd ∧ m (a + (8 - 16 * sd)) = 0 ∧ m b = 0) ∨ (b / 8 = a / 8 + (1 - 2 * sd) ∧ (b % 8 - a % 8 = 1 ∨ b % 8 - a % 8 = -1) ∧ (m b ≠ 0 ∨ b = ps)) := by
  unfold pwn at h
  rcases h with h | h | h
  · exact Or.inl h
  · exact Or.inr (Or.inl h)
  · refine Or.inr (Or.inr ⟨h.1, h.2.1, ?_⟩)
    have := h.2.2
    omega
theorem k1_c1 {sd rt ps a b : Int} (hs : sd = 0 ∨ sd = 1) (ha : 0 ≤ a ∧ a < 64) (hb : 0 ≤ b ∧ b < 64) (hP : PSo m sd ps) (hr : rch m sd rt ps a b) : k1 m (pwb m a) a b = c1 m (pwb m a) ps a b := by
  obtain ⟨⟨n0, n1⟩, -, h3⟩ := hr
  unfold k1 c1 pwb
  by_cases hp : m a % 8 = 1
  · rw [if_pos hp]
    have hw : pwn m sd ps a b := h3.elim (fun z => z.2) (fun z => absurd hp z.1)
    have key : ((1 : Int) = 1 ∧ m b = 0 ∧ a % 8 ≠ b % 8) ↔ ((1 : Int) = 1 ∧ b = ps) := by
      constructor
      · rintro ⟨-, g1, g2⟩
        refine ⟨rfl, ?_⟩
        rcases pwn_3 hw with w | w | w
        · rcases hs with e | e <;> subst e <;> omega
        · rcases hs with e | e <;> subst e <;> omega
        · exact w.2.2.resolve_left (fun g => g g1)
      · rintro ⟨-, g1⟩
        rcases hP with e | ⟨q1, q2, q3, q4, q5⟩
        · omega
        · refine ⟨rfl, by rw [g1]; exact q4, ?_⟩
          rcases pwn_3 hw with w | w | w
          · exfalso
            have e : ps - (8 - 16 * sd) = a := by omega
            rw [e] at q5
            rcases hs with h | h <;> subst h <;> omega
          · exfalso
            have e : ps - (8 - 16 * sd) = a + (8 - 16 * sd) := by omega
            rw [e, w.2.2.1] at q5
            rcases hs with h | h <;> subst h <;> omega
          · omega
    by_cases c : (1 : Int) = 1 ∧ b = ps
    · rw [if_pos c, if_pos (key.2 c)]
    · rw [if_neg c, if_neg (fun g => c (key.1 g))]
  · rw [if_neg hp, if_neg (fun g => absurd g.1 (by decide)), if_neg (fun g => absurd g.1 (by decide))]
theorem k1_at {pw a b : Int} : k1 m pw a b a = m a := by
  unfold k1
  by_cases c : pw = 1 ∧ m b = 0 ∧ a % 8 ≠ b % 8
  · rw [if_pos c, up_n (by omega)]
  · rw [if_neg c]
theorem k2_c2 {sd rt ps a b : Int} (hs : sd = 0 ∨ sd = 1) (ha : 0 ≤ a ∧ a < 64) (hb : 0 ≤ b ∧ b < 64) (hr : rch m sd rt ps a b) : k2 (k1 m (pwb m a) a b) (m a) a b = c2 (k1 m (pwb m a) a b) a b := by
  obtain ⟨⟨n0, n1⟩, -, h3⟩ := hr
  unfold k2 c2
  rw [k1_at]
  have key : (m a % 8 = 6 ∧ a % 8 = 4 ∧ (b % 8 = 6 ∨ b % 8 = 2)) ↔ (m a % 8 = 6 ∧ a / 8 = b / 8 ∧ (b = a + 2 ∨ b = a - 2)) := by
    constructor
    · rintro ⟨g1, g2, g3⟩
      rcases h3 with h3 | ⟨-, h3⟩
      · omega
      · rcases h3 with h3 | ⟨h3, -⟩
        · exfalso
          rcases h3 with ⟨k, -⟩ | ⟨k, -⟩ | ⟨-, g⟩ | ⟨g, -⟩
          · omega
          · omega
          · unfold kin at g
            omega
          · unfold lin at g
            omega
        · exact h3
    · rintro ⟨g1, g2, g3⟩
      rcases h3 with h3 | ⟨-, h3⟩
      · omega
      · rcases h3 with h3 | ⟨-, h3⟩
        · exact absurd h3 (fun h => cas_att ⟨g1, g2, g3⟩ h)
        · have := h3.1
          omega
  by_cases c : m a % 8 = 6 ∧ a / 8 = b / 8 ∧ (b = a + 2 ∨ b = a - 2)
  · have d := key.2 c
    rw [if_pos c, if_pos d]
    have e : (if b % 8 = 6 then a + 3 else a - 4) = (if a < b then a / 8 * 8 + 7 else a / 8 * 8) := by
      split <;> split <;> omega
    rw [e]
  · rw [if_neg c, if_neg (fun g => c (key.1 g))]
theorem k2_at {a b : Int} {man : Int} (ha : 0 ≤ a ∧ a < 64) (hb : 0 ≤ b ∧ b < 64) : k2 m man a b a = m a := by
  unfold k2
  by_cases c : man % 8 = 6 ∧ a % 8 = 4 ∧ (b % 8 = 6 ∨ b % 8 = 2)
  · rw [if_pos c]
    by_cases d : b % 8 = 6
    · rw [if_pos d, up_n (by omega)]
      by_cases e : a = (a + b) / 2
      · exfalso; omega
      · rw [up_n e]
    · rw [if_neg d, up_n (by omega)]
      by_cases e : a = (a + b) / 2
      · exfalso; omega
      · rw [up_n e]
  · rw [if_neg c]
/-- both make the same of the men -/
theorem mk_pl {sd rt ps a b p : Int} (hs : sd = 0 ∨ sd = 1) (ha : 0 ≤ a ∧ a < 64) (hb : 0 ≤ b ∧ b < 64) (hp : 0 ≤ p) (hP : PSo m sd ps) (hr : rch m sd rt ps a b) : mkR m sd a b p = c3 (m2B m ps a b) sd a b p := by
  have hab : a ≠ b := fun e => by
    obtain ⟨n0, n1, -⟩ := hr
    rw [e] at n0
    exact n1 n0
  have e2 : m2B m ps a b = k2 (k1 m (pwb m a) a b) (m a) a b := by
    unfold m2B
    rw [← k1_c1 hs ha hb hP hr, k2_c2 hs ha hb hr]
  have ea : k2 (k1 m (pwb m a) a b) (m a) a b a = m a := by rw [k2_at ha hb, k1_at]
  unfold mkR k3 c3
  rw [e2, up_c hab]
  have ev : (if 0 < p then p + 8 * sd else m a) = pv (k2 (k1 m (pwb m a) a b) (m a) a b) sd a p := by
    unfold pv
    rw [ea]
    by_cases c : p = 0
    · rw [if_pos c, if_neg (by omega)]
    · rw [if_neg c, if_pos (by omega)]
  rw [ev]
/-- and of the passed square -/
theorem ps_pl {sd pw a b : Int} (hs : sd = 0 ∨ sd = 1) (ha : 0 ≤ a ∧ a < 64) (hb : 0 ≤ b ∧ b < 64) (hd : pw = 1 → (b = a + 16 ∨ b = a - 16) → b = a + 2 * (8 - 16 * sd)) : psF m sd pw a b = psC m sd pw a b := by
  unfold psF psC
  have key : (pw = 1 ∧ (b = a + 16 ∨ b = a - 16) ∧ psb m b (1 - sd)) ↔ (pw = 1 ∧ (b = a + 16 ∨ b = a - 16) ∧ (0 ≤ (a + b) / 2 + (16 * (1 - sd) - 8) ∧ (a + b) / 2 + (16 * (1 - sd) - 8) < 64 ∧ ((0 < ((a + b) / 2 + (16 * (1 - sd) - 8)) % 8 ∧ m ((a + b) / 2 + (16 * (1 - sd) - 8) - 1) = 1 + 8 * (1 - sd)) ∨ (((a + b) / 2 + (16 * (1 - sd) - 8)) % 8 < 7 ∧ m ((a + b) / 2 + (16 * (1 - sd) - 8) + 1) = 1 + 8 * (1 - sd))))) := by
    refine and_congr_right (fun h1 => and_congr_right (fun h2 => ?_))
    have e : (a + b) / 2 + (16 * (1 - sd) - 8) = b := by
      have := hd h1 h2
      rcases hs with h | h <;> subst h <;> omega
    rw [e]
    unfold psb
    have l : 0 ≤ stp b (-1) 0 ↔ 0 < b % 8 := by
      unfold stp
      split <;> omega
    have r : 0 ≤ stp b 1 0 ↔ b % 8 < 7 := by
      unfold stp
      split <;> omega
    have le : 0 < b % 8 → stp b (-1) 0 = b - 1 := fun h => by
      unfold stp
      rw [if_pos (by omega)]
      omega
    have re : b % 8 < 7 → stp b 1 0 = b + 1 := fun h => by
      unfold stp
      rw [if_pos (by omega)]
      omega
    constructor
    · rintro (⟨g1, g2⟩ | ⟨g1, g2⟩)
      · exact ⟨hb.1, hb.2, Or.inl ⟨l.1 g1, by rw [← le (l.1 g1)]; exact g2⟩⟩
      · exact ⟨hb.1, hb.2, Or.inr ⟨r.1 g1, by rw [← re (r.1 g1)]; exact g2⟩⟩
    · rintro ⟨-, -, (⟨g1, g2⟩ | ⟨g1, g2⟩)⟩
      · exact Or.inl ⟨l.2 g1, by rw [le g1]; exact g2⟩
      · exact Or.inr ⟨r.2 g1, by rw [re g1]; exact g2⟩
  by_cases c : pw = 1 ∧ (b = a + 16 ∨ b = a - 16) ∧ psb m b (1 - sd)
  · rw [if_pos c, if_pos (key.1 c)]
  · rw [if_neg c, if_neg (fun g => c (key.2 g))]
end PPM
