/-- the position with which games begin -/
noncomputable def fr0 (s : Int) : Int := (zFR.getD s.toNat 0).toInt
noncomputable def m00 (s : Int) : Int := if 0 ≤ s ∧ s < 8 then fr0 s else if 8 ≤ s ∧ s < 16 then 1 else if 48 ≤ s ∧ s < 56 then 9 else if 56 ≤ s ∧ s < 64 then fr0 (s - 56) + 8 else 0
noncomputable def st00 : PO := (m00, 0, 15, -1, 4, 60, 1)
section INI
theorem fr0_v {s : Int} (h0 : 0 ≤ s) (h1 : s < 8) : (fr0 s = 4 ∨ fr0 s = 2 ∨ fr0 s = 3 ∨ fr0 s = 5 ∨ fr0 s = 6) ∧ (fr0 s = 6 ↔ s = 4) := by
  have e : s = 0 ∨ s = 1 ∨ s = 2 ∨ s = 3 ∨ s = 4 ∨ s = 5 ∨ s = 6 ∨ s = 7 := by omega
  rcases e with e | e | e | e | e | e | e | e <;> subst e <;> decide +kernel
theorem m00_0 {s : Int} (h0 : 0 ≤ s) (h1 : s < 8) : m00 s = fr0 s := if_pos ⟨h0, h1⟩
theorem m00_1 {s : Int} (h0 : 8 ≤ s) (h1 : s < 16) : m00 s = 1 := by unfold m00; rw [if_neg (by omega), if_pos (by omega)]
theorem m00_6 {s : Int} (h0 : 48 ≤ s) (h1 : s < 56) : m00 s = 9 := by unfold m00; rw [if_neg (by omega), if_neg (by omega), if_pos (by omega)]
theorem m00_7 {s : Int} (h0 : 56 ≤ s) (h1 : s < 64) : m00 s = fr0 (s - 56) + 8 := by unfold m00; rw [if_neg (by omega), if_neg (by omega), if_neg (by omega), if_pos (by omega)]
theorem m00_x {s : Int} (h : s < 0 ∨ (16 ≤ s ∧ s < 48) ∨ 64 ≤ s) : m00 s = 0 := by unfold m00; rw [if_neg (by omega), if_neg (by omega), if_neg (by omega), if_neg (by omega)]
theorem m00_c (s : Int) : (0 ≤ s ∧ s < 8 ∧ m00 s = fr0 s) ∨ (8 ≤ s ∧ s < 16 ∧ m00 s = 1) ∨ (48 ≤ s ∧ s < 56 ∧ m00 s = 9) ∨ (56 ≤ s ∧ s < 64 ∧ m00 s = fr0 (s - 56) + 8) ∨ ((s < 0 ∨ (16 ≤ s ∧ s < 48) ∨ 64 ≤ s) ∧ m00 s = 0) := by
  by_cases a : 0 ≤ s ∧ s < 8
  · exact Or.inl ⟨a.1, a.2, m00_0 a.1 a.2⟩
  · by_cases b : 8 ≤ s ∧ s < 16
    · exact Or.inr (Or.inl ⟨b.1, b.2, m00_1 b.1 b.2⟩)
    · by_cases c : 48 ≤ s ∧ s < 56
      · exact Or.inr (Or.inr (Or.inl ⟨c.1, c.2, m00_6 c.1 c.2⟩))
      · by_cases d : 56 ≤ s ∧ s < 64
        · exact Or.inr (Or.inr (Or.inr (Or.inl ⟨d.1, d.2, m00_7 d.1 d.2⟩)))
        · have e : s < 0 ∨ (16 ≤ s ∧ s < 48) ∨ 64 ≤ s := by omega
          exact Or.inr (Or.inr (Or.inr (Or.inr ⟨e, m00_x e⟩)))
theorem m00_b : MBd m00 := fun s => by
  rcases m00_c s with ⟨a, b, e⟩ | ⟨a, b, e⟩ | ⟨a, b, e⟩ | ⟨a, b, e⟩ | ⟨a, e⟩
  · have := (fr0_v a b).1; omega
  · omega
  · omega
  · have := (fr0_v (s := s - 56) (by omega) (by omega)).1; omega
  · omega
theorem pgd_00 : PGd st00 := by
  have f0 : fr0 0 = 4 := by decide +kernel
  have f4 : fr0 4 = 6 := by decide +kernel
  have f7 : fr0 7 = 4 := by decide +kernel
  have m4 : m00 4 = 6 := by rw [m00_0 (by decide) (by decide)]; exact f4
  have m60 : m00 60 = 14 := by rw [m00_7 (by decide) (by decide), show (60 : Int) - 56 = 4 from rfl, f4]; rfl
  have m0 : m00 0 = 4 := by rw [m00_0 (by decide) (by decide)]; exact f0
  have m7 : m00 7 = 4 := by rw [m00_0 (by decide) (by decide)]; exact f7
  have m56 : m00 56 = 12 := by rw [m00_7 (by decide) (by decide), show (56 : Int) - 56 = 0 from rfl, f0]; rfl
  have m63 : m00 63 = 12 := by rw [m00_7 (by decide) (by decide), show (63 : Int) - 56 = 7 from rfl, f7]; rfl
  refine ⟨Or.inl rfl, m00_b, ⟨by decide, by decide, m4, fun s _ _ hs => ?_⟩, ⟨by decide, by decide, m60, fun s _ _ hs => ?_⟩, Or.inl rfl, fun i i0 i3 _ => ?_, by decide, ?_⟩
  · have hs : m00 s = 6 := hs
    rcases m00_c s with ⟨a, b, e⟩ | ⟨a, b, e⟩ | ⟨a, b, e⟩ | ⟨a, b, e⟩ | ⟨a, e⟩
    · exact (fr0_v a b).2.1 (by omega)
    · omega
    · omega
    · have := (fr0_v (s := s - 56) (by omega) (by omega)).1; omega
    · omega
  · have hs : m00 s = 14 := hs
    rcases m00_c s with ⟨a, b, e⟩ | ⟨a, b, e⟩ | ⟨a, b, e⟩ | ⟨a, b, e⟩ | ⟨a, e⟩
    · have := (fr0_v a b).1; omega
    · omega
    · omega
    · have := (fr0_v (s := s - 56) (by omega) (by omega)).2.1 (by omega); show s = 60; omega
    · omega
  · have e : i = 0 ∨ i = 1 ∨ i = 2 ∨ i = 3 := by omega
    show m00 _ = _ ∧ m00 _ = _
    rcases e with e | e | e | e <;> subst e
    · exact ⟨m4, m7⟩
    · exact ⟨m4, m0⟩
    · exact ⟨m60, m63⟩
    · exact ⟨m60, m56⟩
  · show ¬ attd m00 60 0
    rintro ⟨a, a0, a1, a2, a3, a4⟩
    have hr : (0 ≤ a ∧ a < 8 ∧ m00 a = fr0 a) ∨ (8 ≤ a ∧ a < 16 ∧ m00 a = 1) := by
      rcases m00_c a with e | e | ⟨b1, b2, e⟩ | ⟨b1, b2, e⟩ | ⟨b1, e⟩
      · exact Or.inl e
      · exact Or.inr e
      · omega
      · have := (fr0_v (s := a - 56) (by omega) (by omega)).1; omega
      · omega
    have e7 : (60 : Int) / 8 = 7 := rfl
    have e4 : (60 : Int) % 8 = 4 := rfl
    unfold attk at a4
    rw [e7, e4] at a4
    rcases a4 with ⟨-, b⟩ | ⟨-, b⟩ | ⟨-, b⟩ | ⟨b, -⟩
    · unfold paw at b; omega
    · unfold kni at b; omega
    · unfold kin at b; omega
    · unfold lin at b
      rcases hr with ⟨c1, c2, c3⟩ | ⟨c1, c2, c3⟩
      · have := (fr0_v c1 c2).2
        omega
      · omega
end INI
theorem su_m {x : Int} (h0 : 0 ≤ x) (h1 : x < 8) : up (up (up (up (fun s => if s % 8 < x then m00 s else 0) x (fr0 x)) (x + 8) 1) (x + 48) 9) (x + 56) (fr0 x + 8) = fun s => if s % 8 < x + 1 then m00 s else 0 := by
  funext s
  unfold up
  by_cases e1 : s = x + 56
  · rw [if_pos e1, if_pos (by omega), m00_7 (by omega) (by omega), show s - 56 = x by omega]
  · rw [if_neg e1]
    by_cases e2 : s = x + 48
    · rw [if_pos e2, if_pos (by omega), m00_6 (by omega) (by omega)]
    · rw [if_neg e2]
      by_cases e3 : s = x + 8
      · rw [if_pos e3, if_pos (by omega), m00_1 (by omega) (by omega)]
      · rw [if_neg e3]
        by_cases e4 : s = x
        · rw [if_pos e4, if_pos (by omega), m00_0 (by omega) (by omega), e4]
        · rw [if_neg e4]
          show (if s % 8 < x then m00 s else 0) = _
          by_cases e5 : s % 8 < x
          · rw [if_pos e5, if_pos (by omega)]
          · rw [if_neg e5]
            by_cases e6 : s % 8 < x + 1
            · rw [if_pos e6, m00_x (by omega)]
            · rw [if_neg e6]
theorem fr0_w {s : Int} (h0 : 0 ≤ s) (h1 : s < 8) : (2 ≤ fr0 s ∧ fr0 s ≤ 6) ∧ (True → (fr0 s = 6 ↔ s = 4)) := by
  obtain ⟨a, b⟩ := fr0_v h0 h1
  exact ⟨by clear b; omega, fun _ => b⟩
theorem gt_4 {x v : Int} (t : v = x + 1) (h : 4 < v) (e : ¬ x = 4) : 4 < x := by omega
section SUP
variable {S0 S : ZS} {b : Nat} {o : Int32 × ZS}
theorem su_6 (hp : zP S0 0 b = some (b + 1)) : ∀ (n : Nat) (x1 : Int32) (S : ZS), (0 ≤ x1.toInt ∧ x1.toInt ≤ 8) → SB S0 S b → mCb S b = (fun s => if s % 8 < x1.toInt then m00 s else 0) → (4 < x1.toInt → (zI S 1 b).toInt = 4 ∧ (zI S 2 b).toInt = 60) → ((zI S 3 b).toInt = 0 ∧ (zI S 5 b).toInt = -1 ∧ (zI S 6 b).toInt = 1) → f_X0_setUp_6 n b x1 S = some o → SB S0 o.2 b ∧ mCb o.2 b = m00 ∧ ((zI o.2 1 b).toInt = 4 ∧ (zI o.2 2 b).toInt = 60) ∧ (zI o.2 3 b).toInt = 0 ∧ (zI o.2 4 b).toInt = 15 ∧ (zI o.2 5 b).toInt = -1 ∧ (zI o.2 6 b).toInt = 1 := by
  intro n
  induction n with
  | zero => intro x1 S _ _ _ _ _ hf; cases hf
  | succ n ih =>
    intro x1 S hx hB hm hk0 hi hf
    have hk := fun (_ : True) => hk0
    clear hk0
    have hf : f_X0_setUp_6s (f_X0_setUp_6 n) b x1 S = some o := hf
    have hpS : zP S 0 b = some (b + 1) := by rw [hB.2.1]; exact hp
    unfold f_X0_setUp_6s at hf
    rcases m_ifE hf with ⟨c1, hf⟩ | ⟨c1, hf⟩
    · skip
      replace c1 := ti_leP (a := (8 : Int32)) (b := x1) c1 (show (8 : Int32).toInt = 8 from rfl) rfl
      obtain ⟨-, hf⟩ := m_chkE hf
      obtain ⟨S1, e_S1, hf⟩ := m_bndE hf
      cases hf
      try dsimp only
      have x8 : x1.toInt = 8 := by omega
      refine ⟨sb_t hB (sb_I e_S1), ?_, ?_, ?_, ?_, ?_, ?_⟩
      · rw [e_S1]
        show mCb S b = m00
        rw [hm]
        funext s
        rw [if_pos (by omega)]
      · rw [e_S1, zI_j (by decide), zI_j (by decide)]; exact hk trivial (by omega)
      · rw [e_S1, zI_j (by decide)]; exact hi.1
      · rw [e_S1, zI_self]; rfl
      · rw [e_S1, zI_j (by decide)]; exact hi.2.1
      · rw [e_S1, zI_j (by decide)]; exact hi.2.2
    · skip
      replace c1 := ti_leN (a := (8 : Int32)) (b := x1) c1 (show (8 : Int32).toInt = 8 from rfl) rfl
      obtain ⟨-, hf⟩ := m_chkE hf
      obtain ⟨v2, e_v2, hf⟩ := m_bndE hf
      have q2 : v2.toInt = fr0 x1.toInt := by rw [e_v2]; rfl
      obtain ⟨f2a, f2b⟩ : (2 ≤ fr0 x1.toInt ∧ fr0 x1.toInt ≤ 6) ∧ (True → (fr0 x1.toInt = 6 ↔ x1.toInt = 4)) := fr0_w (by omega) (by omega)
      obtain ⟨-, hf⟩ := m_chkE hf
      obtain ⟨⟨r3, S3c⟩, h_r3, hf⟩ := m_calE hf
      dsimp only at hf
      obtain ⟨a1, a2, a3, a4, a5, a6, a7⟩ := p_put hpS (by omega) h_r3
      have p3 : zP S3c 0 b = some (b + 1) := by rw [a1.2.1]; exact hpS
      obtain ⟨v4, e_v4, hf⟩ := m_bndE hf
      have t_v4 : v4.toInt = x1.toInt + 8 := ti_add e_v4 rfl (show (8 : Int32).toInt = 8 from rfl) (by omega) (by omega)
      obtain ⟨-, hf⟩ := m_chkE hf
      obtain ⟨⟨r5, S5c⟩, h_r5, hf⟩ := m_calE hf
      dsimp only at hf
      obtain ⟨b1, b2, b3, b4, b5, b6, b7⟩ := p_put p3 (by omega) h_r5
      have p5 : zP S5c 0 b = some (b + 1) := by rw [b1.2.1]; exact p3
      have z1 : (1 : Int32).toInt = 1 := rfl
      obtain ⟨v6, e_v6, hf⟩ := m_bndE hf
      have t_v6 : v6.toInt = x1.toInt + 48 := ti_add e_v6 rfl (show (48 : Int32).toInt = 48 from rfl) (by omega) (by omega)
      obtain ⟨-, hf⟩ := m_chkE hf
      obtain ⟨⟨r7, S7c⟩, h_r7, hf⟩ := m_calE hf
      dsimp only at hf
      obtain ⟨c1, c2, c3, c4, c5, c6, c7⟩ := p_put p5 (by omega) h_r7
      have p7 : zP S7c 0 b = some (b + 1) := by rw [c1.2.1]; exact p5
      have z9 : (9 : Int32).toInt = 9 := rfl
      obtain ⟨v8, e_v8, hf⟩ := m_bndE hf
      have t_v8 : v8.toInt = x1.toInt + 56 := ti_add e_v8 rfl (show (56 : Int32).toInt = 56 from rfl) (by omega) (by omega)
      obtain ⟨-, hf⟩ := m_chkE hf
      obtain ⟨v9, e_v9, hf⟩ := m_bndE hf
      have q9 : v9.toInt = fr0 x1.toInt := by rw [e_v9]; rfl
      obtain ⟨v10, e_v10, hf⟩ := m_bndE hf
      have t_v10 : v10.toInt = v9.toInt + 8 := ti_add e_v10 rfl (show (8 : Int32).toInt = 8 from rfl) (by omega) (by omega)
      obtain ⟨-, hf⟩ := m_chkE hf
      obtain ⟨⟨r11, S11c⟩, h_r11, hf⟩ := m_calE hf
      dsimp only at hf
      obtain ⟨d1, d2, d3, d4, d5, d6, d7⟩ := p_put p7 (by omega) h_r11
      obtain ⟨v12, e_v12, hf⟩ := m_bndE hf
      have t_v12 : v12.toInt = x1.toInt + 1 := ti_add e_v12 rfl (show (1 : Int32).toInt = 1 from rfl) (by omega) (by omega)
      have k1 : (x1.toInt = 4 → zI S11c 1 b = x1 ∧ zI S11c 2 b = v8) ∧ (x1.toInt ≠ 4 → zI S11c 1 b = zI S 1 b ∧ zI S11c 2 b = zI S 2 b) := by
        refine ⟨fun e => ⟨?_, ?_⟩, fun e => ⟨?_, ?_⟩⟩
        · rw [d4 (by omega), c4 (by omega), b4 (by omega), a3 (by rw [q2]; exact (f2b trivial).2 e)]
        · exact d5 (by rw [t_v10, q9, (f2b trivial).2 e]; rfl)
        · rw [d4 (by omega), c4 (by omega), b4 (by omega), a4 (by rw [q2]; exact fun h => e ((f2b trivial).1 h))]
        · rw [d6 (fun h => e ((f2b trivial).1 (by omega))), c6 (by omega), b6 (by omega), a6 (by omega)]
      refine ih v12 S11c (by omega) (sb_t hB (sb_t a1 (sb_t b1 (sb_t c1 d1)))) ?_ (fun h4 => ?_) ?_ hf
      · rw [d2, c2, b2, a2, hm, t_v12, t_v8, t_v6, t_v4, t_v10, q9, q2, z1, z9]
        exact su_m hx.1 (by omega)
      · by_cases e : x1.toInt = 4
        · obtain ⟨k2, k3⟩ := k1.1 e
          rw [k2, k3]; exact ⟨e, by omega⟩
        · obtain ⟨k2, k3⟩ := k1.2 e
          rw [k2, k3]; exact hk trivial (gt_4 t_v12 h4 e)
      · rw [d7 3 (by decide) (by decide), c7 3 (by decide) (by decide), b7 3 (by decide) (by decide), a7 3 (by decide) (by decide), d7 5 (by decide) (by decide), c7 5 (by decide) (by decide), b7 5 (by decide) (by decide), a7 5 (by decide) (by decide), d7 6 (by decide) (by decide), c7 6 (by decide) (by decide), b7 6 (by decide) (by decide), a7 6 (by decide) (by decide)]
        exact hi
/-- the class's board is set up -/
theorem p_setUp (k0 : zK S b = 0) (p0 : zP S 0 b = some (b + 1)) (k1 : zK S (b + 1) = 14) (hf : f_X0_setUp b S = some o) : SB S o.2 b ∧ BO o.2 b st00 := by
  have hf : f_X0_setUp_0 b S = some o := hf
  unfold f_X0_setUp_0 at hf
  obtain ⟨-, hf⟩ := m_chkE hf
  obtain ⟨⟨r1, S1⟩, h_r1, hf⟩ := m_calE hf
  dsimp only at hf
  obtain ⟨w1, w2, w3, w4, w5, w6, -, -⟩ := p_wipe p0 h_r1
  dsimp only at w1 w2 w3 w4 w5 w6
  obtain ⟨a1, a2, a3, a4, a5, a6, a7⟩ := su_6 p0 mFuel 0 S1 (by decide) w1 (by
    rw [w2]
    funext s
    rw [if_neg (show ¬ s % 8 < (0 : Int32).toInt by have z : (0 : Int32).toInt = 0 := rfl; omega)]) (fun h => absurd h (by decide)) ⟨w3, w5, w6⟩ hf
  exact ⟨a1, ⟨by rw [a1.1.2.2.1]; exact k0, by rw [a1.2.1]; exact p0, by rw [a1.1.2.2.1]; exact k1⟩, a2, a4, a5, a6, a3.1, a3.2, a7⟩
end SUP
