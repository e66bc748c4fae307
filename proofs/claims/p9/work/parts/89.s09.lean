/-- each right's king and rook stand on their first squares -/
def RTo (m : Int → Int) (rt : Int) : Prop := ∀ i : Int, 0 ≤ i → i ≤ 3 → rb rt i → m (4 + 56 * (i / 2)) = 6 + 8 * (i / 2) ∧ m (56 * (i / 2) + (if i % 2 = 0 then 7 else 0)) = 4 + 8 * (i / 2)
/-- a position that can stand -/
def POS (m : Int → Int) (sd rt ps kw kb : Int) : Prop := (sd = 0 ∨ sd = 1) ∧ MBd m ∧ KU m 0 kw ∧ KU m 1 kb ∧ PSo m sd ps ∧ RTo m rt ∧ (0 ≤ rt ∧ rt ≤ 15) ∧ ¬ attd m (if sd = 0 then kb else kw) sd
/-- what a man becomes fits its way -/
def PRo (m : Int → Int) (a t p : Int) : Prop := (p = 0 ∧ ¬ (m a % 8 = 1 ∧ (t < 8 ∨ 56 ≤ t))) ∨ (2 ≤ p ∧ p ≤ 5 ∧ m a % 8 = 1 ∧ (t < 8 ∨ 56 ≤ t))
section POSs
variable {m : Int → Int} {sd rt ps kw kb a t p : Int}
theorem ku_at {w k : Int} (h : KU m w k) : m k = 6 + 8 * w := h.2.2.1
theorem ku_1 {w k s : Int} (h : KU m w k) (hs : 0 ≤ s ∧ s < 64) (e : m s = 6 + 8 * w) : s = k := h.2.2.2 s hs.1 hs.2 e
/-- a pawn that takes attacks -/
theorem pw_tak (hs : sd = 0 ∨ sd = 1) (h1 : m a % 8 = 1) (h2 : m a / 8 = sd) (hw : pwn m sd ps a t) (hne : m t ≠ 0) : attk m a t := by
  refine Or.inl ⟨h1, ?_⟩
  rcases pwn_3 hw with w | w | w
  · exact absurd w.2 hne
  · exact absurd w.2.2.2 hne
  · unfold paw
    rcases hs with e | e <;> subst e <;> omega
/-- where a man goes on a square that is not empty, it attacks it -/
theorem rch_att (hs : sd = 0 ∨ sd = 1) (ha : 0 ≤ a ∧ a < 64) (hr : rch m sd rt ps a t) (hne : m t ≠ 0) : attd m t sd := by
  obtain ⟨⟨n0, n1⟩, -, h3⟩ := hr
  refine ⟨a, ha.1, ha.2, n0, n1, ?_⟩
  rcases h3 with ⟨p1, p2⟩ | ⟨p1, p2⟩
  · exact pw_tak hs p1 n1 p2 hne
  · rcases p2 with p2 | ⟨-, p3⟩
    · exact p2
    · exfalso
      rcases p3.2 with ⟨e, -, -, g⟩ | ⟨e, -, -, g, -⟩
      · rw [← e] at g; exact hne g
      · rw [← e] at g; exact hne g
theorem rch_nk (hP : POS m sd rt ps kw kb) (ha : 0 ≤ a ∧ a < 64) (hr : rch m sd rt ps a t) : t ≠ (if sd = 0 then kb else kw) := fun e => by
  obtain ⟨hs, -, k0, k1, -, -, -, hn⟩ := hP
  rw [← e] at hn
  refine hn (rch_att hs ha hr ?_)
  have h0 := ku_at k0
  have h1 := ku_at k1
  rcases hs with h | h <;> subst h
  · rw [if_pos rfl] at e; rw [e]; omega
  · rw [if_neg (by decide)] at e; rw [e]; omega
/-- the men behind a move, square by square -/
theorem m2_at (hP : POS m sd rt ps kw kb) (ha : 0 ≤ a ∧ a < 64) (ht : 0 ≤ t ∧ t < 64) (hr : rch m sd rt ps a t) (s : Int) : m2B m ps a t s = m s ∨ (m2B m ps a t s = 0 ∧ m s = 1 + 8 * (1 - sd) ∧ s = a / 8 * 8 + t % 8 ∧ m a % 8 = 1 ∧ t = ps) ∨ (m a % 8 = 6 ∧ a = 4 + 56 * sd ∧ ((t = a + 2 ∧ ((s = a + 1 ∧ m s = 0 ∧ m2B m ps a t s = 4 + 8 * sd) ∨ (s = a + 3 ∧ m s = 4 + 8 * sd ∧ m2B m ps a t s = 0))) ∨ (t = a - 2 ∧ ((s = a - 1 ∧ m s = 0 ∧ m2B m ps a t s = 4 + 8 * sd) ∨ (s = a - 4 ∧ m s = 4 + 8 * sd ∧ m2B m ps a t s = 0))))) := by
  obtain ⟨hs, -, -, -, hps, hrt, -, -⟩ := hP
  have e1 := k1_c1 hs ha ht hps hr
  obtain ⟨⟨n0, n1⟩, n2, h3⟩ := hr
  unfold m2B
  by_cases c : m a % 8 = 1
  · have nc : c2 (c1 m (pwb m a) ps a t) a t = c1 m (pwb m a) ps a t := if_neg (fun g => by
      rw [← e1, k1_at] at g
      omega)
    rw [nc]
    unfold c1 pwb
    rw [if_pos c]
    by_cases d : (1 : Int) = 1 ∧ t = ps
    · rw [if_pos d]
      by_cases e : s = a / 8 * 8 + t % 8
      · right; left
        rw [e, up_s]
        have hw : pwn m sd ps a t := h3.elim (fun z => z.2) (fun z => absurd c z.1)
        refine ⟨rfl, ?_, rfl, c, d.2⟩
        rcases hps with f | ⟨q1, q2, q3, q4, q5⟩
        · omega
        · have g : a / 8 * 8 + t % 8 = ps - (8 - 16 * sd) := by
            rcases pwn_3 hw with w | w | w
            · exfalso
              have e9 : ps - (8 - 16 * sd) = a := by omega
              rw [e9] at q5
              rcases hs with h | h <;> subst h <;> omega
            · exfalso
              have e9 : ps - (8 - 16 * sd) = a + (8 - 16 * sd) := by omega
              rw [e9, w.2.2.1] at q5
              rcases hs with h | h <;> subst h <;> omega
            · rcases hs with h | h <;> subst h <;> omega
          rw [g]; exact q5
      · left; exact up_n e
    · left; rw [if_neg d]
  · have nw : c1 m (pwb m a) ps a t = m := by
      unfold c1 pwb
      rw [if_neg c]
      exact if_neg (fun g => absurd g.1 (by decide))
    rw [nw]
    by_cases d : cas m a t
    · have hc : csl m sd rt a t := by
        rcases h3 with h3 | ⟨-, h3⟩
        · exact absurd h3.1 c
        · rcases h3 with h3 | h3
          · exact absurd h3 (fun g => cas_att d g)
          · exact h3.2
      obtain ⟨ea, hc⟩ := hc
      rcases hc with ⟨et, hb, g1, g2⟩ | ⟨et, hb, g1, g2, g3⟩
      · have hk := hrt (2 * sd) (by omega) (by omega) hb
        rw [show (2 * sd / 2 : Int) = sd by omega, if_pos (by omega)] at hk
        have ec : (if a < t then a / 8 * 8 + 7 else a / 8 * 8) = a + 3 := by
          rw [if_pos (by omega)]
          rcases hs with h | h <;> subst h <;> omega
        have em : (a + t) / 2 = a + 1 := by omega
        rw [c2_y (c := a + 3) d ec.symm, em, show m (a + 3) = 4 + 8 * sd by rw [← hk.2]; congr 1; omega]
        by_cases f : s = a + 3
        · right; right
          rw [f, up_s]
          refine ⟨d.1, ea, Or.inl ⟨et, Or.inr ⟨rfl, ?_, rfl⟩⟩⟩
          rw [← hk.2]; congr 1; omega
        · rw [up_n f]
          by_cases g : s = a + 1
          · right; right
            rw [g, up_s]
            exact ⟨d.1, ea, Or.inl ⟨et, Or.inl ⟨rfl, g1, rfl⟩⟩⟩
          · left; exact up_n g
      · have hk := hrt (2 * sd + 1) (by omega) (by omega) hb
        rw [show ((2 * sd + 1) / 2 : Int) = sd by omega, if_neg (by omega)] at hk
        have ec : (if a < t then a / 8 * 8 + 7 else a / 8 * 8) = a - 4 := by
          rw [if_neg (by omega)]
          rcases hs with h | h <;> subst h <;> omega
        have em : (a + t) / 2 = a - 1 := by omega
        rw [c2_y (c := a - 4) d ec.symm, em, show m (a - 4) = 4 + 8 * sd by rw [← hk.2]; congr 1; omega]
        by_cases f : s = a - 4
        · right; right
          rw [f, up_s]
          refine ⟨d.1, ea, Or.inr ⟨et, Or.inr ⟨rfl, ?_, rfl⟩⟩⟩
          rw [← hk.2]; congr 1; omega
        · rw [up_n f]
          by_cases g : s = a - 1
          · right; right
            rw [g, up_s]
            exact ⟨d.1, ea, Or.inr ⟨et, Or.inl ⟨rfl, g1, rfl⟩⟩⟩
          · left; exact up_n g
    · left
      rw [c2_n d]
theorem m2_a (hP : POS m sd rt ps kw kb) (ha : 0 ≤ a ∧ a < 64) (ht : 0 ≤ t ∧ t < 64) (hr : rch m sd rt ps a t) : m2B m ps a t a = m a := by
  obtain ⟨hs, -, -, -, hps, -, -, -⟩ := hP
  unfold m2B
  rw [← k1_c1 hs ha ht hps hr, ← k2_c2 hs ha ht hr, k2_at ha ht, k1_at]
theorem plB_at (s : Int) : plB m sd ps a t p s = if s = a then 0 else if s = t then pv (m2B m ps a t) sd a p else m2B m ps a t s := by
  unfold plB c3 up
  rfl
/-- what comes to the square -/
theorem pv_v (hP : POS m sd rt ps kw kb) (ha : 0 ≤ a ∧ a < 64) (ht : 0 ≤ t ∧ t < 64) (hr : rch m sd rt ps a t) : pv (m2B m ps a t) sd a p = if p = 0 then m a else p + 8 * sd := by
  unfold pv
  rw [m2_a hP ha ht hr]
/-- the kings behind a move -/
theorem ku_pl {w k : Int} (hP : POS m sd rt ps kw kb) (ha : 0 ≤ a ∧ a < 64) (ht : 0 ≤ t ∧ t < 64) (hr : rch m sd rt ps a t) (hp : p = 0 ∨ PRo m a t p) (hw : w = 0 ∨ w = 1) (hk : KU m w k) (hkk : k = if w = 0 then kw else kb) : KU (plB m sd ps a t p) w (kgB m sd ps a t p w k) := by
  have hv := pv_v (p := p) hP ha ht hr
  have hnk := rch_nk hP ha hr
  have h2 := m2_at hP ha ht hr
  obtain ⟨hs, hM, k0, k1, -, -, -, -⟩ := hP
  obtain ⟨⟨n0, n1⟩, n2, -⟩ := hr
  obtain ⟨b1, b2, b3, b4⟩ := id hk
  have hMa := hM a
  have hva : pv (m2B m ps a t) sd a p = m a ∨ (2 ≤ p ∧ p ≤ 5 ∧ m a % 8 = 1 ∧ pv (m2B m ps a t) sd a p = p + 8 * sd) := by
    rw [hv]
    rcases hp with e | ⟨e, -⟩ | ⟨e1, e2, e3, -⟩
    · left; rw [if_pos e]
    · left; rw [if_pos e]
    · right; rw [if_neg (by omega)]; exact ⟨e1, e2, e3, rfl⟩
  have hat : a ≠ t := fun e => by rw [e] at n0 n1; exact n2 ⟨n0, n1⟩
  -- elsewhere a king behind the move was one before it
  have els : ∀ s, 0 ≤ s → s < 64 → s ≠ a → s ≠ t → (plB m sd ps a t p s = 6 + 8 * w ↔ m s = 6 + 8 * w) := fun s s1 s2 s3 s4 => by
    rw [plB_at, if_neg s3, if_neg s4]
    rcases h2 s with e | ⟨e1, e2, -⟩ | ⟨-, -, e⟩
    · rw [e]
    · rw [e1, e2]
      rcases hs with h | h <;> subst h <;> rcases hw with g | g <;> subst g <;> omega
    · rcases e with ⟨-, e⟩ | ⟨-, e⟩
      · rcases e with ⟨-, e1, e2⟩ | ⟨-, e1, e2⟩ <;> rw [e1, e2] <;> rcases hs with h | h <;> subst h <;> rcases hw with g | g <;> subst g <;> omega
      · rcases e with ⟨-, e1, e2⟩ | ⟨-, e1, e2⟩ <;> rw [e1, e2] <;> rcases hs with h | h <;> subst h <;> rcases hw with g | g <;> subst g <;> omega
  have pa : plB m sd ps a t p a = 0 := by rw [plB_at, if_pos rfl]
  have pt : plB m sd ps a t p t = pv (m2B m ps a t) sd a p := by rw [plB_at, if_neg (fun e => hat e.symm), if_pos rfl]
  unfold kgB
  by_cases c : pv (m2B m ps a t) sd a p = 6 + 8 * w
  · rw [if_pos c]
    have em : m a = 6 + 8 * w := by
      rcases hva with e | ⟨e1, e2, e3, e4⟩
      · rw [← e]; exact c
      · exfalso
        rw [e4] at c
        rcases hs with h | h <;> subst h <;> rcases hw with g | g <;> subst g <;> omega
    have ek : a = k := b4 a ha.1 ha.2 em
    refine ⟨ht.1, ht.2, by rw [pt]; exact c, fun s s1 s2 s3 => ?_⟩
    by_cases e1 : s = a
    · rw [e1, pa] at s3
      rcases hw with g | g <;> subst g <;> omega
    · by_cases e2 : s = t
      · exact e2
      · exfalso
        have := b4 s s1 s2 ((els s s1 s2 e1 e2).1 s3)
        omega
  · rw [if_neg c]
    have ka : k ≠ a := fun e => by
      rw [e] at b3
      rw [b3] at hva
      rcases hva with h | ⟨-, -, h, -⟩
      · exact c h
      · rcases hw with g | g <;> subst g <;> omega
    have kt : k ≠ t := fun e => by
      by_cases hws : w = sd
      · apply n2
        rw [← e, b3, hws]
        rcases hs with h | h <;> subst h <;> omega
      · apply hnk
        rw [← e, hkk]
        rcases hs with h | h <;> subst h <;> rcases hw with g | g <;> subst g
        · exact absurd rfl hws
        · rw [if_neg (by decide), if_pos rfl]
        · rw [if_pos rfl, if_neg (by decide)]
        · exact absurd rfl hws
    refine ⟨b1, b2, (els k b1 b2 ka kt).2 b3, fun s s1 s2 s3 => ?_⟩
    by_cases e1 : s = a
    · exfalso
      rw [e1, pa] at s3
      rcases hw with g | g <;> subst g <;> omega
    · by_cases e2 : s = t
      · exfalso
        rw [e2, pt] at s3
        exact c s3
      · exact b4 s s1 s2 ((els s s1 s2 e1 e2).1 s3)
theorem ku_p0 {ko : Int} (hP : POS m sd rt ps kw kb) (ha : 0 ≤ a ∧ a < 64) (ht : 0 ≤ t ∧ t < 64) (hr : rch m sd rt ps a t) (hko : ko = if sd = 0 then kw else kb) : KU (c3 (m2B m ps a t) sd a t 0) sd (kgB m sd ps a t 0 sd ko) := by
  have hs := hP.1
  refine ku_pl (p := 0) hP ha ht hr (Or.inl rfl) hs ?_ hko
  rw [hko]
  rcases hs with h | h <;> subst h
  · rw [if_pos rfl]; exact hP.2.2.1
  · rw [if_neg (by decide)]; exact hP.2.2.2.1
end POSs
