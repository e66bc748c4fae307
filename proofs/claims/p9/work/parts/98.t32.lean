section MST
variable {I : Nat → Int32} {A : Nat → Nat → Int32} {m : Int → Int} {o : Int32 × MS} {sd rt ps : Int}
/-- a position as the reference holds it -/
def RPo (I : Nat → Int32) (A : Nat → Nat → Int32) (m : Int → Int) (sd rt ps : Int) : Prop := TJ I ∧ TK A ∧ mR A = m ∧ MBd m ∧ (I 25).toInt = sd ∧ (sd = 0 ∨ sd = 1) ∧ (I 26).toInt = rt ∧ (0 ≤ rt ∧ rt ≤ 15) ∧ (I 27).toInt = ps ∧ (-1 ≤ ps ∧ ps ≤ 63)
theorem sh_01 {t i v v3 : Int32} (e2 : v = t >>> (i &&& 31)) (e3 : v3 = v &&& 1) (ht : 0 ≤ t.toInt ∧ t.toInt ≤ 15) (hi : 0 ≤ i.toInt ∧ i.toInt ≤ 3) : v3.toInt = 0 ∨ v3.toInt = 1 := by
  have h : i = 0 ∨ i = 1 ∨ i = 2 ∨ i = 3 := by
    have h4 : i.toInt = 0 ∨ i.toInt = 1 ∨ i.toInt = 2 ∨ i.toInt = 3 := by omega
    rcases h4 with h | h | h | h
    · exact Or.inl (Int32.toInt_inj.mp h)
    · exact Or.inr (Or.inl (Int32.toInt_inj.mp h))
    · exact Or.inr (Or.inr (Or.inl (Int32.toInt_inj.mp h)))
    · exact Or.inr (Or.inr (Or.inr (Int32.toInt_inj.mp h)))
  rw [e3, e2]
  rcases h with h | h | h | h
  · subst h
    have k := sq_all (P := fun x => ((x >>> ((0 : Int32) &&& 31)) &&& 1).toInt = x.toInt % 2) (by decide) (x := t) (by omega)
    omega
  · subst h
    have k := sq_all (P := fun x => ((x >>> ((1 : Int32) &&& 31)) &&& 1).toInt = x.toInt / 2 % 2) (by decide) (x := t) (by omega)
    omega
  · subst h
    have k := sq_all (P := fun x => ((x >>> ((2 : Int32) &&& 31)) &&& 1).toInt = x.toInt / 4 % 2) (by decide) (x := t) (by omega)
    omega
  · subst h
    have k := sq_all (P := fun x => ((x >>> ((3 : Int32) &&& 31)) &&& 1).toInt = x.toInt / 8 % 2) (by decide) (x := t) (by omega)
    omega
theorem ms_320 {x3 t0 : Int32} (h : RPo I A m sd rt ps) (hps : 0 ≤ ps) (h3 : x3.toInt = 0 ∨ x3.toInt = 1) (hr : x3.toInt = 1 → ps / 8 = 5 - 3 * sd) (ht : t0.toInt = 2 * sd - 1) (hf : f_mayStand_320 x3 t0 I A = some o) : (o.1.toInt = 0 ∨ o.1.toInt = 1) ∧ (o.1.toInt = 1 ↔ x3.toInt = 1 ∧ pat m ps sd) := by
  obtain ⟨hI, hA, hm, hM, h25, hs, -, -, h27, hpb⟩ := h
  have z1 : (-1 : Int32).toInt = -1 := rfl
  have z2 : (1 : Int32).toInt = 1 := rfl
  unfold f_mayStand_320 at hf
  rcases m_ifE hf with ⟨c1, hf⟩ | ⟨c1, hf⟩
  · skip
    replace c1 := ti_eqP (a := x3) (b := (0 : Int32)) c1 rfl (show (0 : Int32).toInt = 0 from rfl)
    unfold f_mayStand_382 at hf
    unfold f_mayStand_383 at hf
    obtain ⟨-, hf⟩ := m_chkE hf
    cases hf
    try dsimp only
    exact ⟨Or.inl rfl, fun g => absurd g (by decide), fun g => by have := g.1; omega⟩
  · skip
    replace c1 := ti_eqN (a := x3) (b := (0 : Int32)) c1 rfl (show (0 : Int32).toInt = 0 from rfl)
    have hr2 := hr (by omega)
    obtain ⟨r1, h_r1, hf⟩ := m_clR hf (fun _ h => rro_step h)
    obtain ⟨-, b1, q1⟩ := ok_of (t_step (x0 := I 27) (x1 := (-1 : Int32)) (x2 := t0) hI hA (by omega) (by omega) (by omega)) h_r1
    dsimp only at b1 q1
    rw [z1, h27, ht] at q1
    obtain ⟨v2, e_v2, hf⟩ := m_bndE hf
    have t_v2 : v2.toInt = 8 * (I 25).toInt := ti_mul e_v2 (show (8 : Int32).toInt = 8 from rfl) rfl (by omega) (by omega)
    obtain ⟨v3, e_v3, hf⟩ := m_bndE hf
    have t_v3 : v3.toInt = 1 + v2.toInt := ti_add e_v3 (show (1 : Int32).toInt = 1 from rfl) rfl (by omega) (by omega)
    obtain ⟨r4, h_r4, hf⟩ := m_clR hf (fun _ h => rro_stands h)
    obtain ⟨-, b4, q4⟩ := ok_of (x_stands (x2 := v3) hI hA b1) h_r4
    dsimp only at b4 q4
    rw [hm] at q4
    have e4 : v3.toInt = 1 + 8 * sd := by omega
    rw [e4] at q4
    rcases m_ifE hf with ⟨c2, hf⟩ | ⟨c2, hf⟩
    · skip
      replace c2 := ti_eqP (a := r4) (b := (0 : Int32)) c2 rfl (show (0 : Int32).toInt = 0 from rfl)
      obtain ⟨r5, h_r5, hf⟩ := m_clR hf (fun _ h => rro_step h)
      obtain ⟨-, b5, q5⟩ := ok_of (t_step (x0 := I 27) (x1 := (1 : Int32)) (x2 := t0) hI hA (by omega) (by omega) (by omega)) h_r5
      dsimp only at b5 q5
      rw [z2, h27, ht] at q5
      obtain ⟨v6, e_v6, hf⟩ := m_bndE hf
      have t_v6 : v6.toInt = 8 * (I 25).toInt := ti_mul e_v6 (show (8 : Int32).toInt = 8 from rfl) rfl (by omega) (by omega)
      obtain ⟨v7, e_v7, hf⟩ := m_bndE hf
      have t_v7 : v7.toInt = 1 + v6.toInt := ti_add e_v7 (show (1 : Int32).toInt = 1 from rfl) rfl (by omega) (by omega)
      obtain ⟨r8, h_r8, hf⟩ := m_clR hf (fun _ h => rro_stands h)
      obtain ⟨-, b8, q8⟩ := ok_of (x_stands (x2 := v7) hI hA b5) h_r8
      dsimp only at b8 q8
      rw [hm] at q8
      have e8 : v7.toInt = 1 + 8 * sd := by omega
      rw [e8] at q8
      rcases m_ifE hf with ⟨c3, hf⟩ | ⟨c3, hf⟩
      · skip
        replace c3 := ti_eqP (a := r8) (b := (0 : Int32)) c3 rfl (show (0 : Int32).toInt = 0 from rfl)
        unfold f_mayStand_382 at hf
        unfold f_mayStand_383 at hf
        obtain ⟨-, hf⟩ := m_chkE hf
        cases hf
        try dsimp only
        refine ⟨Or.inl rfl, fun g => absurd g (by decide), fun g => ?_⟩
        obtain ⟨-, -, -, g | g⟩ := g
        · have e : r1.toInt = ps + (16 * sd - 8) - 1 := by omega
          have := q4.2 ⟨by omega, by rw [e]; exact g.2⟩
          omega
        · have e : r5.toInt = ps + (16 * sd - 8) + 1 := by omega
          have := q8.2 ⟨by omega, by rw [e]; exact g.2⟩
          omega
      · skip
        replace c3 := ti_eqN (a := r8) (b := (0 : Int32)) c3 rfl (show (0 : Int32).toInt = 0 from rfl)
        unfold f_mayStand_378 at hf
        unfold f_mayStand_383 at hf
        obtain ⟨-, hf⟩ := m_chkE hf
        cases hf
        try dsimp only
        refine ⟨Or.inr rfl, fun _ => ⟨by omega, by omega, by omega, Or.inr ?_⟩, fun _ => rfl⟩
        obtain ⟨g1, g2⟩ := q8.1 (by omega)
        have e : r5.toInt = ps + (16 * sd - 8) + 1 := by omega
        rw [e] at g2
        exact ⟨by omega, g2⟩
    · skip
      replace c2 := ti_eqN (a := r4) (b := (0 : Int32)) c2 rfl (show (0 : Int32).toInt = 0 from rfl)
      unfold f_mayStand_378 at hf
      unfold f_mayStand_383 at hf
      obtain ⟨-, hf⟩ := m_chkE hf
      cases hf
      try dsimp only
      refine ⟨Or.inr rfl, fun _ => ⟨by omega, by omega, by omega, Or.inl ?_⟩, fun _ => rfl⟩
      obtain ⟨g1, g2⟩ := q4.1 (by omega)
      have e : r1.toInt = ps + (16 * sd - 8) - 1 := by omega
      rw [e] at g2
      exact ⟨by omega, g2⟩
theorem ms_307 {t0 : Int32} (h : RPo I A m sd rt ps) (hps : 0 ≤ ps) (h3 : t0.toInt = 0 ∨ t0.toInt = 1) (hr : t0.toInt = 1 → ps / 8 = 5 - 3 * sd) (hf : f_mayStand_307 t0 I A = some o) : (o.1.toInt = 0 ∨ o.1.toInt = 1) ∧ (o.1.toInt = 1 ↔ t0.toInt = 1 ∧ pat m ps sd) := by
  have h25 := h.2.2.2.2.1
  have hs := h.2.2.2.2.2.1
  unfold f_mayStand_307 at hf
  have z1 : (-1 : Int32).toInt = -1 := rfl
  have z2 : (1 : Int32).toInt = 1 := rfl
  rcases m_ifE hf with ⟨c1, hf⟩ | ⟨c1, hf⟩
  · replace c1 := ti_eqP (a := I 25) (b := (0 : Int32)) c1 rfl (show (0 : Int32).toInt = 0 from rfl)
    exact ms_320 h hps h3 hr (by omega) hf
  · replace c1 := ti_eqN (a := I 25) (b := (0 : Int32)) c1 rfl (show (0 : Int32).toInt = 0 from rfl)
    exact ms_320 h hps h3 hr (by omega) hf
theorem ms_258 {x2 t0 : Int32} (h : RPo I A m sd rt ps) (hps : 0 ≤ ps) (h3 : t0.toInt = 0 ∨ t0.toInt = 1) (hr : t0.toInt = 1 → ps / 8 = 5 - 3 * sd) (h2 : x2.toInt = 8 - 16 * sd) (hf : f_mayStand_258 x2 t0 I A = some o) : (o.1.toInt = 0 ∨ o.1.toInt = 1) ∧ (o.1.toInt = 1 ↔ t0.toInt = 1 ∧ m (ps + (8 - 16 * sd)) = 0 ∧ m (ps - (8 - 16 * sd)) = 1 + 8 * (1 - sd) ∧ pat m ps sd) := by
  have hm := h.2.2.1
  have h25 := h.2.2.2.2.1
  have hs := h.2.2.2.2.2.1
  have h27 := h.2.2.2.2.2.2.2.2.1
  have hpb := h.2.2.2.2.2.2.2.2.2
  have z0 : (0 : Int32).toInt = 0 := rfl
  have z2 : (1 : Int32).toInt = 1 := rfl
  have no : (¬ (t0.toInt = 1 ∧ m (ps + (8 - 16 * sd)) = 0 ∧ m (ps - (8 - 16 * sd)) = 1 + 8 * (1 - sd))) → f_mayStand_306 I A = some o → (o.1.toInt = 0 ∨ o.1.toInt = 1) ∧ (o.1.toInt = 1 ↔ t0.toInt = 1 ∧ m (ps + (8 - 16 * sd)) = 0 ∧ m (ps - (8 - 16 * sd)) = 1 + 8 * (1 - sd) ∧ pat m ps sd) := fun hn hf => by
    obtain ⟨g1, g2⟩ := ms_307 (t0 := 0) h hps (Or.inl rfl) (fun g => absurd g (by decide)) hf
    refine ⟨g1, fun g => absurd (g2.1 g).1 (by decide), fun g => absurd ⟨g.1, g.2.1, g.2.2.1⟩ hn⟩
  unfold f_mayStand_258 at hf
  rcases m_ifE hf with ⟨c1, hf⟩ | ⟨c1, hf⟩
  · skip
    replace c1 := ti_eqP (a := t0) (b := (0 : Int32)) c1 rfl (show (0 : Int32).toInt = 0 from rfl)
    exact no (fun g => by have := g.1; omega) hf
  · skip
    replace c1 := ti_eqN (a := t0) (b := (0 : Int32)) c1 rfl (show (0 : Int32).toInt = 0 from rfl)
    have hr2 := hr (by omega)
    obtain ⟨v1, e_v1, hf⟩ := m_bndE hf
    have t_v1 : v1.toInt = (I 27).toInt + x2.toInt := ti_add e_v1 rfl rfl (by omega) (by omega)
    obtain ⟨-, hf⟩ := m_chkE hf
    obtain ⟨v2, e_v2, hf⟩ := m_bndE hf
    have q2 := mR_at e_v2 (by omega) (by omega)
    rw [hm, show v1.toInt = ps + (8 - 16 * sd) by omega] at q2
    rcases m_ifE hf with ⟨c2, hf⟩ | ⟨c2, hf⟩
    · skip
      replace c2 := ti_eqP (a := v2) (b := (0 : Int32)) c2 rfl (show (0 : Int32).toInt = 0 from rfl)
      obtain ⟨v3, e_v3, hf⟩ := m_bndE hf
      have t_v3 : v3.toInt = (I 27).toInt - x2.toInt := ti_sub e_v3 rfl rfl (by omega) (by omega)
      obtain ⟨-, hf⟩ := m_chkE hf
      obtain ⟨v4, e_v4, hf⟩ := m_bndE hf
      have q4 := mR_at e_v4 (by omega) (by omega)
      rw [hm, show v3.toInt = ps - (8 - 16 * sd) by omega] at q4
      obtain ⟨v5, e_v5, hf⟩ := m_bndE hf
      have t_v5 : v5.toInt = 1 - (I 25).toInt := ti_sub e_v5 (show (1 : Int32).toInt = 1 from rfl) rfl (by omega) (by omega)
      obtain ⟨v6, e_v6, hf⟩ := m_bndE hf
      have t_v6 : v6.toInt = 8 * v5.toInt := ti_mul e_v6 (show (8 : Int32).toInt = 8 from rfl) rfl (by omega) (by omega)
      obtain ⟨v7, e_v7, hf⟩ := m_bndE hf
      have t_v7 : v7.toInt = 1 + v6.toInt := ti_add e_v7 (show (1 : Int32).toInt = 1 from rfl) rfl (by omega) (by omega)
      rcases m_ifE hf with ⟨c3, hf⟩ | ⟨c3, hf⟩
      · skip
        replace c3 := ti_eqP (a := v4) (b := v7) c3 rfl rfl
        obtain ⟨g1, g2⟩ := ms_307 (t0 := 1) h hps (Or.inr rfl) (fun _ => hr2) hf
        refine ⟨g1, fun g => ⟨by omega, by omega, by omega, (g2.1 g).2⟩, fun g => g2.2 ⟨rfl, g.2.2.2⟩⟩
      · skip
        replace c3 := ti_eqN (a := v4) (b := v7) c3 rfl rfl
        exact no (fun g => by have := g.2.2; omega) hf
    · skip
      replace c2 := ti_eqN (a := v2) (b := (0 : Int32)) c2 rfl (show (0 : Int32).toInt = 0 from rfl)
      exact no (fun g => by have := g.2.1; omega) hf
theorem ms_218 {t0 : Int32} (h : RPo I A m sd rt ps) (hps : 0 ≤ ps) (h2 : t0.toInt = 8 - 16 * sd) (hf : f_mayStand_218 t0 I A = some o) : (o.1.toInt = 0 ∨ o.1.toInt = 1) ∧ (o.1.toInt = 1 ↔ SPs m sd ps) := by
  have hm := h.2.2.1
  have h25 := h.2.2.2.2.1
  have hs := h.2.2.2.2.2.1
  have h27 := h.2.2.2.2.2.2.2.2.1
  have hpb := h.2.2.2.2.2.2.2.2.2
  have z0 : (0 : Int32).toInt = 0 := rfl
  have z2 : (2 : Int32).toInt = 2 := rfl
  have z5 : (5 : Int32).toInt = 5 := rfl
  have no : ¬ (ps / 8 = 5 - 3 * sd ∧ m ps = 0) → f_mayStand_257 t0 I A = some o → (o.1.toInt = 0 ∨ o.1.toInt = 1) ∧ (o.1.toInt = 1 ↔ SPs m sd ps) := fun hn hf => by
    obtain ⟨g1, g2⟩ := ms_258 (t0 := 0) h hps (Or.inl rfl) (fun g => absurd g (by decide)) h2 hf
    refine ⟨g1, fun g => absurd (g2.1 g).1 (by decide), fun g => ?_⟩
    rcases g with g | g
    · omega
    · exact absurd ⟨g.1, g.2.1⟩ hn
  have mid : ∀ u v1 : Int32, u.toInt = 5 - 3 * sd → v1.toInt = ps / 8 → f_mayStand_238 t0 u v1 I A = some o → (o.1.toInt = 0 ∨ o.1.toInt = 1) ∧ (o.1.toInt = 1 ↔ SPs m sd ps) := by
    intro u v1 hu hv hf
    unfold f_mayStand_238 at hf
    rcases m_ifE hf with ⟨c1, hf⟩ | ⟨c1, hf⟩
    · replace c1 := ti_eqP (a := v1) (b := u) c1 rfl rfl
      obtain ⟨-, hf⟩ := m_chkE hf
      obtain ⟨v2, e2, hf⟩ := m_bndE hf
      have q2 := mR_at e2 (by omega) (by omega)
      rw [hm, h27] at q2
      rcases m_ifE hf with ⟨c2, hf⟩ | ⟨c2, hf⟩
      · replace c2 := ti_eqP (a := v2) (b := (0 : Int32)) c2 rfl rfl
        obtain ⟨g1, g2⟩ := ms_258 (t0 := 1) h hps (Or.inr rfl) (fun _ => by omega) h2 hf
        refine ⟨g1, fun g => ?_, fun g => ?_⟩
        · obtain ⟨-, a, b, c⟩ := g2.1 g
          exact Or.inr ⟨by omega, by omega, b, a, c⟩
        · rcases g with g | ⟨-, -, a, b, c⟩
          · omega
          · exact g2.2 ⟨rfl, b, a, c⟩
      · replace c2 := ti_eqN (a := v2) (b := (0 : Int32)) c2 rfl rfl
        exact no (fun g => by have := g.2; omega) hf
    · replace c1 := ti_eqN (a := v1) (b := u) c1 rfl rfl
      exact no (fun g => by have := g.1; omega) hf
  unfold f_mayStand_218 at hf
  obtain ⟨v1, e1, hf⟩ := m_bndE hf
  have t1 : v1.toInt = (I 27).toInt / 8 := ti_div e1 rfl (show (8 : Int32).toInt = 8 from rfl) (by omega) (by decide)
  rw [h27] at t1
  rcases m_ifE hf with ⟨c1, hf⟩ | ⟨c1, hf⟩
  · replace c1 := ti_eqP (a := I 25) (b := (0 : Int32)) c1 rfl rfl
    exact mid 5 v1 (by omega) t1 hf
  · replace c1 := ti_eqN (a := I 25) (b := (0 : Int32)) c1 rfl rfl
    exact mid 2 v1 (by omega) t1 hf
theorem ms_102 {G : Prop} (h : RPo I A m sd rt ps) : ∀ (N : Nat) (x1 x2 : Int32), (0 ≤ x2.toInt ∧ x2.toInt ≤ 4) → (x1.toInt = 0 ∨ x1.toInt = 1) → (x1.toInt = 1 ↔ G ∧ ∀ i, 0 ≤ i → i < x2.toInt → rOk m rt i) → f_mayStand_102 N x1 x2 I A = some o → (o.1.toInt = 0 ∨ o.1.toInt = 1) ∧ (o.1.toInt = 1 ↔ G ∧ RTo m rt ∧ SPs m sd ps) := by
  obtain ⟨hI, hA, hm, hM, h25, hs, h26, hrb, h27, hpb⟩ := id h
  have z0 : (0 : Int32).toInt = 0 := rfl
  have z8 : (8 : Int32).toInt = 8 := rfl
  have z8' : (-8 : Int32).toInt = -8 := rfl
  intro N
  induction N with
  | zero => intro x1 x2 _ _ _ hf; cases hf
  | succ N ih =>
    intro x1 x2 h2 h1 hg hf
    have hf : f_mayStand_102s (f_mayStand_102 N) x1 x2 I A = some o := hf
    have go : ∀ t0 : Int32, x2.toInt ≤ 3 → (t0.toInt = 0 ∨ t0.toInt = 1) → (t0.toInt = 1 ↔ x1.toInt = 1 ∧ rOk m rt x2.toInt) → f_mayStand_184 (f_mayStand_102 N) x2 t0 I A = some o → (o.1.toInt = 0 ∨ o.1.toInt = 1) ∧ (o.1.toInt = 1 ↔ G ∧ RTo m rt ∧ SPs m sd ps) := by
      intro t0 hle ht htg hf
      unfold f_mayStand_184 at hf
      obtain ⟨v1, e1, hf⟩ := m_bndE hf
      have t1 : v1.toInt = x2.toInt + 1 := ti_add e1 rfl (show (1 : Int32).toInt = 1 from rfl) (by omega) (by omega)
      refine ih t0 v1 (by omega) ht ?_ hf
      rw [htg, hg]
      constructor
      · rintro ⟨⟨g, a⟩, c⟩
        refine ⟨g, fun i i0 i1 => ?_⟩
        by_cases e : i = x2.toInt
        · rw [e]; exact c
        · exact a i i0 (by omega)
      · rintro ⟨g, a⟩
        exact ⟨⟨g, fun i i0 i1 => a i i0 (by omega)⟩, a x2.toInt h2.1 (by omega)⟩
    have yes : x2.toInt ≤ 3 → x1.toInt = 1 → rOk m rt x2.toInt → f_mayStand_179 (f_mayStand_102 N) x2 I A = some o → (o.1.toInt = 0 ∨ o.1.toInt = 1) ∧ (o.1.toInt = 1 ↔ G ∧ RTo m rt ∧ SPs m sd ps) := fun hle a b hf => go 1 hle (Or.inr rfl) ⟨fun _ => ⟨a, b⟩, fun _ => rfl⟩ hf
    have no : x2.toInt ≤ 3 → ¬ (x1.toInt = 1 ∧ rOk m rt x2.toInt) → f_mayStand_183 (f_mayStand_102 N) x2 I A = some o → (o.1.toInt = 0 ∨ o.1.toInt = 1) ∧ (o.1.toInt = 1 ↔ G ∧ RTo m rt ∧ SPs m sd ps) := fun hle a hf => go 0 hle (Or.inl rfl) ⟨fun g => absurd g (by decide), fun g => absurd g a⟩ hf
    have all : 4 ≤ x2.toInt → (x1.toInt = 1 ↔ G ∧ RTo m rt) := fun h4 => by
      rw [hg]
      exact ⟨fun g => ⟨g.1, fun i i0 i3 => g.2 i i0 (by omega)⟩, fun g => ⟨g.1, fun i i0 i1 => g.2 i i0 (by omega)⟩⟩
    have rook : ∀ v4 t0 t1 : Int32, x2.toInt ≤ 3 → x1.toInt = 1 → rb rt x2.toInt → v4.toInt = 8 * (x2.toInt / 2) → t0.toInt = (if x2.toInt % 2 = 0 then 7 else 0) → t1.toInt = 56 * (x2.toInt / 2) → m (4 + 56 * (x2.toInt / 2)) = 6 + 8 * (x2.toInt / 2) → f_mayStand_170 (f_mayStand_102 N) x2 v4 t0 t1 I A = some o → (o.1.toInt = 0 ∨ o.1.toInt = 1) ∧ (o.1.toInt = 1 ↔ G ∧ RTo m rt ∧ SPs m sd ps) := by
      intro v4 t0 t1 hle hx hrb2 h4 h0 h1 hk hf
      have b0 : 0 ≤ t0.toInt ∧ t0.toInt ≤ 7 := by rw [h0]; split <;> omega
      unfold f_mayStand_170 at hf
      obtain ⟨v1, e1, hf⟩ := m_bndE hf
      have q1 : v1.toInt = t1.toInt + t0.toInt := ti_add e1 rfl rfl (by omega) (by omega)
      obtain ⟨-, hf⟩ := m_chkE hf
      obtain ⟨v2, e2, hf⟩ := m_bndE hf
      have q2 := mR_at e2 (by omega) (by omega)
      rw [hm, q1, h1, h0] at q2
      obtain ⟨v3, e3, hf⟩ := m_bndE hf
      have q3 : v3.toInt = 4 + v4.toInt := ti_add e3 (show (4 : Int32).toInt = 4 from rfl) rfl (by omega) (by omega)
      rcases m_ifE hf with ⟨c1, hf⟩ | ⟨c1, hf⟩
      · replace c1 := ti_eqP (a := v2) (b := v3) c1 rfl rfl
        exact yes hle hx (fun _ => ⟨hk, by omega⟩) hf
      · replace c1 := ti_eqN (a := v2) (b := v3) c1 rfl rfl
        exact no hle (fun g => by have := (g.2 hrb2).2; omega) hf
    unfold f_mayStand_102s at hf
    rcases m_ifE hf with ⟨c1, hf⟩ | ⟨c1, hf⟩
    · skip
      replace c1 := ti_leP (a := (4 : Int32)) (b := x2) c1 (show (4 : Int32).toInt = 4 from rfl) rfl
      rcases m_ifE hf with ⟨c2, hf⟩ | ⟨c2, hf⟩
      · skip
        replace c2 := ti_ltP (a := (I 27)) (b := (0 : Int32)) c2 rfl (show (0 : Int32).toInt = 0 from rfl)
        unfold f_mayStand_202 at hf
        obtain ⟨-, hf⟩ := m_chkE hf
        cases hf
        try dsimp only
        have al := all (by omega)
        exact ⟨h1, fun g => ⟨(al.1 g).1, (al.1 g).2, Or.inl (by omega)⟩, fun g => al.2 ⟨g.1, g.2.1⟩⟩
      · skip
        replace c2 := ti_ltN (a := (I 27)) (b := (0 : Int32)) c2 rfl (show (0 : Int32).toInt = 0 from rfl)
        rcases m_ifE hf with ⟨c3, hf⟩ | ⟨c3, hf⟩
        · skip
          replace c3 := ti_eqP (a := x1) (b := (0 : Int32)) c3 rfl (show (0 : Int32).toInt = 0 from rfl)
          unfold f_mayStand_202 at hf
          obtain ⟨-, hf⟩ := m_chkE hf
          cases hf
          try dsimp only
          have al := all (by omega)
          exact ⟨h1, fun g => by omega, fun g => by have := al.2 ⟨g.1, g.2.1⟩; omega⟩
        · skip
          replace c3 := ti_eqN (a := x1) (b := (0 : Int32)) c3 rfl (show (0 : Int32).toInt = 0 from rfl)
          rcases m_ifE hf with ⟨c4, hf⟩ | ⟨c4, hf⟩
          · skip
            replace c4 := ti_eqP (a := (I 25)) (b := (0 : Int32)) c4 rfl (show (0 : Int32).toInt = 0 from rfl)
            obtain ⟨g1, g2⟩ := ms_218 (t0 := 8) h (by omega) (by omega) hf
            obtain ⟨a, c⟩ := (all (by omega)).1 (by omega)
            exact ⟨g1, fun g => ⟨a, c, g2.1 g⟩, fun g => g2.2 g.2.2⟩
          · skip
            replace c4 := ti_eqN (a := (I 25)) (b := (0 : Int32)) c4 rfl (show (0 : Int32).toInt = 0 from rfl)
            obtain ⟨g1, g2⟩ := ms_218 (t0 := -8) h (by omega) (by omega) hf
            obtain ⟨a, c⟩ := (all (by omega)).1 (by omega)
            exact ⟨g1, fun g => ⟨a, c, g2.1 g⟩, fun g => g2.2 g.2.2⟩
    · skip
      replace c1 := ti_leN (a := (4 : Int32)) (b := x2) c1 (show (4 : Int32).toInt = 4 from rfl) rfl
      obtain ⟨v1, e_v1, hf⟩ := m_bndE hf
      have t_v1 : v1.toInt = x2.toInt / 2 := ti_div e_v1 rfl (show (2 : Int32).toInt = 2 from rfl) (by omega) (by decide)
      obtain ⟨v2, e_v2, hf⟩ := m_bndE hf
      have t_v2 : v2.toInt = 56 * v1.toInt := ti_mul e_v2 (show (56 : Int32).toInt = 56 from rfl) rfl (by omega) (by omega)
      obtain ⟨v3, e_v3, hf⟩ := m_bndE hf
      have t_v3 : v3.toInt = x2.toInt / 2 := ti_div e_v3 rfl (show (2 : Int32).toInt = 2 from rfl) (by omega) (by decide)
      obtain ⟨v4, e_v4, hf⟩ := m_bndE hf
      have t_v4 : v4.toInt = 8 * v3.toInt := ti_mul e_v4 (show (8 : Int32).toInt = 8 from rfl) rfl (by omega) (by omega)
      rcases m_ifE hf with ⟨c5, hf⟩ | ⟨c5, hf⟩
      · skip
        replace c5 := ti_eqP (a := x1) (b := (0 : Int32)) c5 rfl (show (0 : Int32).toInt = 0 from rfl)
        exact no (by omega) (fun g => by have := g.1; omega) hf
      · skip
        replace c5 := ti_eqN (a := x1) (b := (0 : Int32)) c5 rfl (show (0 : Int32).toInt = 0 from rfl)
        obtain ⟨v5, e_v5, hf⟩ := m_bndE hf
        obtain ⟨v6, e_v6, hf⟩ := m_bndE hf
        have q6 := sh_rb e_v5 e_v6 (by omega) (by omega)
        rw [h26] at q6
        rcases m_ifE hf with ⟨c6, hf⟩ | ⟨c6, hf⟩
        · skip
          replace c6 := ti_eqP (a := v6) (b := (0 : Int32)) c6 rfl (show (0 : Int32).toInt = 0 from rfl)
          exact yes (by omega) (by omega) (fun g => by have := q6.2 g; omega) hf
        · skip
          replace c6 := ti_eqN (a := v6) (b := (0 : Int32)) c6 rfl (show (0 : Int32).toInt = 0 from rfl)
          obtain ⟨v7, e_v7, hf⟩ := m_bndE hf
          have t_v7 : v7.toInt = v2.toInt + 4 := ti_add e_v7 rfl (show (4 : Int32).toInt = 4 from rfl) (by omega) (by omega)
          obtain ⟨-, hf⟩ := m_chkE hf
          obtain ⟨v8, e_v8, hf⟩ := m_bndE hf
          have q8 := mR_at e_v8 (by omega) (by omega)
          rw [hm, show v7.toInt = 4 + 56 * (x2.toInt / 2) by omega] at q8
          have y6 : rb rt x2.toInt := by
            have hx9 := h1
            apply q6.1
            have b6 : v6.toInt = 0 ∨ v6.toInt = 1 := sh_01 e_v5 e_v6 (by omega) (by omega)
            omega
          obtain ⟨v9, e_v9, hf⟩ := m_bndE hf
          have t_v9 : v9.toInt = 6 + v4.toInt := ti_add e_v9 (show (6 : Int32).toInt = 6 from rfl) rfl (by omega) (by omega)
          rcases m_ifE hf with ⟨c7, hf⟩ | ⟨c7, hf⟩
          · skip
            replace c7 := ti_eqP (a := v8) (b := v9) c7 rfl rfl
            obtain ⟨v10, e_v10, hf⟩ := m_bndE hf
            have t_v10 : v10.toInt = x2.toInt % 2 := ti_rem e_v10 rfl (show (2 : Int32).toInt = 2 from rfl) (by omega) (by decide)
            rcases m_ifE hf with ⟨c8, hf⟩ | ⟨c8, hf⟩
            · skip
              replace c8 := ti_eqP (a := v10) (b := (0 : Int32)) c8 rfl (show (0 : Int32).toInt = 0 from rfl)
              exact rook v4 7 v2 (by omega) (by omega) y6 (by omega) (by rw [if_pos (by omega)]; rfl) (by omega) (by omega) hf
            · skip
              replace c8 := ti_eqN (a := v10) (b := (0 : Int32)) c8 rfl (show (0 : Int32).toInt = 0 from rfl)
              exact rook v4 0 v2 (by omega) (by omega) y6 (by omega) (by rw [if_neg (by omega)]; rfl) (by omega) (by omega) hf
          · skip
            replace c7 := ti_eqN (a := v8) (b := v9) c7 rfl rfl
            exact no (by omega) (fun g => by have := (g.2 y6).1; omega) hf
theorem ms_26 {k : Int} (h : RPo I A m sd rt ps) (hk : KU m (1 - sd) k) : ∀ (N : Nat) (x1 x2 : Int32), (0 ≤ x2.toInt ∧ x2.toInt ≤ 8) → (x1.toInt = 0 ∨ x1.toInt = 1) → (x1.toInt = 1 ↔ ∀ f, 0 ≤ f → f < x2.toInt → m f % 8 ≠ 1 ∧ m (56 + f) % 8 ≠ 1) → f_mayStand_26 N x1 x2 I A = some o → (o.1.toInt = 0 ∨ o.1.toInt = 1) ∧ (o.1.toInt = 1 ↔ (NPw m ∧ ¬ attd m k sd) ∧ RTo m rt ∧ SPs m sd ps) := by
  obtain ⟨hI, hA, hm, hM, h25, hs, h26, hrb, h27, hpb⟩ := id h
  have z0 : (0 : Int32).toInt = 0 := rfl
  intro N
  induction N with
  | zero => intro x1 x2 _ _ _ hf; cases hf
  | succ N ih =>
    intro x1 x2 h2 h1 hg hf
    have hf : f_mayStand_26s (f_mayStand_26 N) x1 x2 I A = some o := hf
    have go : ∀ t0 : Int32, x2.toInt ≤ 7 → (t0.toInt = 0 ∨ t0.toInt = 1) → (t0.toInt = 1 ↔ x1.toInt = 1 ∧ m x2.toInt % 8 ≠ 1 ∧ m (56 + x2.toInt) % 8 ≠ 1) → f_mayStand_70 (f_mayStand_26 N) x2 t0 I A = some o → (o.1.toInt = 0 ∨ o.1.toInt = 1) ∧ (o.1.toInt = 1 ↔ (NPw m ∧ ¬ attd m k sd) ∧ RTo m rt ∧ SPs m sd ps) := by
      intro t0 hle ht htg hf
      unfold f_mayStand_70 at hf
      obtain ⟨v1, e1, hf⟩ := m_bndE hf
      have t1 : v1.toInt = x2.toInt + 1 := ti_add e1 rfl (show (1 : Int32).toInt = 1 from rfl) (by omega) (by omega)
      refine ih t0 v1 (by omega) ht ?_ hf
      rw [htg, hg]
      constructor
      · rintro ⟨a, c⟩ i i0 i1
        by_cases e : i = x2.toInt
        · rw [e]; exact c
        · exact a i i0 (by omega)
      · intro a
        exact ⟨fun i i0 i1 => a i i0 (by omega), a x2.toInt h2.1 (by omega)⟩
    have no : x2.toInt ≤ 7 → ¬ (x1.toInt = 1 ∧ m x2.toInt % 8 ≠ 1 ∧ m (56 + x2.toInt) % 8 ≠ 1) → f_mayStand_69 (f_mayStand_26 N) x2 I A = some o → (o.1.toInt = 0 ∨ o.1.toInt = 1) ∧ (o.1.toInt = 1 ↔ (NPw m ∧ ¬ attd m k sd) ∧ RTo m rt ∧ SPs m sd ps) := fun hle a hf => go 0 hle (Or.inl rfl) ⟨fun g => absurd g (by decide), fun g => absurd g a⟩ hf
    have np : 8 ≤ x2.toInt → (x1.toInt = 1 ↔ NPw m) := fun h8 => by
      rw [hg]
      constructor
      · intro g s s0 s1 s2
        refine ⟨?_, ?_⟩
        · by_cases c : 8 ≤ s
          · exact c
          · exact absurd s2 (g s s0 (by omega)).1
        · by_cases c : s < 56
          · exact c
          · have := (g (s - 56) (by omega) (by omega)).2
            rw [show 56 + (s - 56) = s by omega] at this
            exact absurd s2 this
      · intro g f f0 f1
        refine ⟨fun e => ?_, fun e => ?_⟩
        · have := (g f f0 (by omega) e).1; omega
        · have := (g (56 + f) (by omega) (by omega) e).2; omega
    have fin : ∀ t0 : Int32, (t0.toInt = 0 ∨ t0.toInt = 1) → (t0.toInt = 1 ↔ NPw m ∧ ¬ attd m k sd) → f_mayStand_99 t0 I A = some o → (o.1.toInt = 0 ∨ o.1.toInt = 1) ∧ (o.1.toInt = 1 ↔ (NPw m ∧ ¬ attd m k sd) ∧ RTo m rt ∧ SPs m sd ps) := fun t0 ht htg hf => ms_102 h mFuel t0 0 (by decide) ht (by
      rw [htg]
      exact ⟨fun g => ⟨g, fun i i0 i1 => by omega⟩, fun g => g.1⟩) hf
    unfold f_mayStand_26s at hf
    rcases m_ifE hf with ⟨c1, hf⟩ | ⟨c1, hf⟩
    · skip
      replace c1 := ti_leP (a := (8 : Int32)) (b := x2) c1 (show (8 : Int32).toInt = 8 from rfl) rfl
      rcases m_ifE hf with ⟨c2, hf⟩ | ⟨c2, hf⟩
      · skip
        replace c2 := ti_eqP (a := x1) (b := (0 : Int32)) c2 rfl (show (0 : Int32).toInt = 0 from rfl)
        have e := np (by omega)
        exact fin 0 (Or.inl rfl) ⟨fun g => absurd g (by decide), fun g => by have := e.2 g.1; omega⟩ hf
      · skip
        replace c2 := ti_eqN (a := x1) (b := (0 : Int32)) c2 rfl (show (0 : Int32).toInt = 0 from rfl)
        obtain ⟨v1, e_v1, hf⟩ := m_bndE hf
        have t_v1 : v1.toInt = 1 - (I 25).toInt := ti_sub e_v1 (show (1 : Int32).toInt = 1 from rfl) rfl (by omega) (by omega)
        obtain ⟨r2, h_r2, hf⟩ := m_clR hf (fun _ h => rro_isInCheck h)
        obtain ⟨-, b2, q2⟩ := ok_of (x_isInCheck (k := k) (x1 := v1) hI hA (by omega) (by rw [hm, show v1.toInt = 1 - sd by omega]; exact hk) (by rw [hm]; exact hM)) h_r2
        dsimp only at b2 q2
        rw [hm, show 1 - v1.toInt = sd by omega] at q2
        have e := np (by omega)
        rcases m_ifE hf with ⟨c3, hf⟩ | ⟨c3, hf⟩
        · skip
          replace c3 := ti_eqP (a := r2) (b := (0 : Int32)) c3 rfl (show (0 : Int32).toInt = 0 from rfl)
          exact fin 1 (Or.inr rfl) ⟨fun _ => ⟨e.1 (by omega), fun g => by have := q2.2 g; omega⟩, fun _ => rfl⟩ hf
        · skip
          replace c3 := ti_eqN (a := r2) (b := (0 : Int32)) c3 rfl (show (0 : Int32).toInt = 0 from rfl)
          exact fin 0 (Or.inl rfl) ⟨fun g => absurd g (by decide), fun g => absurd (q2.1 (by omega)) g.2⟩ hf
    · skip
      replace c1 := ti_leN (a := (8 : Int32)) (b := x2) c1 (show (8 : Int32).toInt = 8 from rfl) rfl
      rcases m_ifE hf with ⟨c4, hf⟩ | ⟨c4, hf⟩
      · skip
        replace c4 := ti_eqP (a := x1) (b := (0 : Int32)) c4 rfl (show (0 : Int32).toInt = 0 from rfl)
        exact no (by omega) (fun g => by have := g.1; omega) hf
      · skip
        replace c4 := ti_eqN (a := x1) (b := (0 : Int32)) c4 rfl (show (0 : Int32).toInt = 0 from rfl)
        obtain ⟨-, hf⟩ := m_chkE hf
        obtain ⟨v3, e_v3, hf⟩ := m_bndE hf
        have q3 := mR_at e_v3 (by omega) (by omega)
        rw [hm] at q3
        have M3 := hM x2.toInt
        obtain ⟨r4, h_r4, hf⟩ := m_clR hf (fun _ h => rro_kind h)
        have p_r4 := pc_kind h_r4
        dsimp only at p_r4
        have q4 := p_r4 hI hA (by omega)
        rcases m_ifE hf with ⟨c5, hf⟩ | ⟨c5, hf⟩
        · skip
          replace c5 := ti_eqP (a := r4) (b := (1 : Int32)) c5 rfl (show (1 : Int32).toInt = 1 from rfl)
          exact no (by omega) (fun g => by have := g.2.1; omega) hf
        · skip
          replace c5 := ti_eqN (a := r4) (b := (1 : Int32)) c5 rfl (show (1 : Int32).toInt = 1 from rfl)
          obtain ⟨v5, e_v5, hf⟩ := m_bndE hf
          have t_v5 : v5.toInt = 56 + x2.toInt := ti_add e_v5 (show (56 : Int32).toInt = 56 from rfl) rfl (by omega) (by omega)
          obtain ⟨-, hf⟩ := m_chkE hf
          obtain ⟨v6, e_v6, hf⟩ := m_bndE hf
          have q6 := mR_at e_v6 (by omega) (by omega)
          rw [hm, t_v5] at q6
          have M6 := hM (56 + x2.toInt)
          obtain ⟨r7, h_r7, hf⟩ := m_clR hf (fun _ h => rro_kind h)
          have p_r7 := pc_kind h_r7
          dsimp only at p_r7
          have q7 := p_r7 hI hA (by omega)
          rcases m_ifE hf with ⟨c6, hf⟩ | ⟨c6, hf⟩
          · skip
            replace c6 := ti_eqP (a := r7) (b := (1 : Int32)) c6 rfl (show (1 : Int32).toInt = 1 from rfl)
            exact no (by omega) (fun g => by have := g.2.2; omega) hf
          · skip
            replace c6 := ti_eqN (a := r7) (b := (1 : Int32)) c6 rfl (show (1 : Int32).toInt = 1 from rfl)
            exact go 1 (by omega) (Or.inr rfl) ⟨fun _ => ⟨by omega, by omega, by omega⟩, fun _ => rfl⟩ hf
theorem cof_4 {x1 : Int32} (hm : mR A = m) : ∀ (N : Nat) (x2 x3 : Int32), (0 ≤ x3.toInt ∧ x3.toInt ≤ 64) → x2.toInt = ((cnt (fun s => m (s : Int) = x1.toInt) x3.toInt.toNat : Nat) : Int) → f_countOf_4 N x1 x2 x3 I A = some o → o.1.toInt = ((cnt (fun s => m (s : Int) = x1.toInt) 64 : Nat) : Int) := by
  intro N
  induction N with
  | zero => intro x2 x3 _ _ hf; cases hf
  | succ N ih =>
    intro x2 x3 h3 h2 hf
    have hf : f_countOf_4s (f_countOf_4 N) x1 x2 x3 I A = some o := hf
    have cl : cnt (fun s => m (s : Int) = x1.toInt) x3.toInt.toNat ≤ x3.toInt.toNat := cnt_le
    have en : ((x3.toInt.toNat : Nat) : Int) = x3.toInt := Int.toNat_of_nonneg h3.1
    have go : ∀ t0 : Int32, x3.toInt < 64 → t0.toInt = ((cnt (fun s => m (s : Int) = x1.toInt) (x3.toInt.toNat + 1) : Nat) : Int) → f_countOf_27 (f_countOf_4 N) x1 x3 t0 I A = some o → o.1.toInt = ((cnt (fun s => m (s : Int) = x1.toInt) 64 : Nat) : Int) := by
      intro t0 hlt ht hf
      unfold f_countOf_27 at hf
      obtain ⟨v1, e1, hf⟩ := m_bndE hf
      have t1 : v1.toInt = x3.toInt + 1 := ti_add e1 rfl (show (1 : Int32).toInt = 1 from rfl) (by omega) (by omega)
      refine ih t0 v1 (by omega) ?_ hf
      rw [show v1.toInt.toNat = x3.toInt.toNat + 1 by omega]
      exact ht
    unfold f_countOf_4s at hf
    rcases m_ifE hf with ⟨c1, hf⟩ | ⟨c1, hf⟩
    · skip
      replace c1 := ti_leP (a := (64 : Int32)) (b := x3) c1 (show (64 : Int32).toInt = 64 from rfl) rfl
      cases hf
      try dsimp only
      rw [h2, show x3.toInt.toNat = 64 by omega]
    · skip
      replace c1 := ti_leN (a := (64 : Int32)) (b := x3) c1 (show (64 : Int32).toInt = 64 from rfl) rfl
      obtain ⟨-, hf⟩ := m_chkE hf
      obtain ⟨v1, e_v1, hf⟩ := m_bndE hf
      have q1 := mR_at e_v1 (by omega) (by omega)
      rw [hm] at q1
      rcases m_ifE hf with ⟨c2, hf⟩ | ⟨c2, hf⟩
      · skip
        replace c2 := ti_eqP (a := v1) (b := x1) c2 rfl rfl
        obtain ⟨v2, e_v2, hf⟩ := m_bndE hf
        have t_v2 : v2.toInt = x2.toInt + 1 := ti_add e_v2 rfl (show (1 : Int32).toInt = 1 from rfl) (by omega) (by omega)
        refine go v2 (by omega) ?_ hf
        rw [cnt_y (show m ((x3.toInt.toNat : Nat) : Int) = x1.toInt by rw [en]; omega)]
        omega
      · skip
        replace c2 := ti_eqN (a := v1) (b := x1) c2 rfl rfl
        refine go x2 (by omega) ?_ hf
        rw [cnt_n (show ¬ (m ((x3.toInt.toNat : Nat) : Int) = x1.toInt) by rw [en]; omega)]
        exact h2
theorem v_countOf {x1 : Int32} (hm : mR A = m) (hf : f_countOf x1 I A = some o) : o.1.toInt = ((cnt (fun s => m (s : Int) = x1.toInt) 64 : Nat) : Int) := cof_4 hm mFuel 0 0 (by decide) (by rw [show (0 : Int32).toInt.toNat = 0 from rfl]; rfl) hf
theorem v_mayStand (h : RPo I A m sd rt ps) (hf : f_mayStand I A = some o) : (o.1.toInt = 0 ∨ o.1.toInt = 1) ∧ (o.1.toInt = 1 ↔ SNDp m sd rt ps) := by
  have hf : f_mayStand_0 I A = some o := hf
  have hm := h.2.2.1
  have hs := h.2.2.2.2.2.1
  have z1 : (1 : Int32).toInt = 1 := rfl
  have z6 : (6 : Int32).toInt = 6 + 8 * 0 := rfl
  have z14 : (14 : Int32).toInt = 6 + 8 * 1 := rfl
  unfold f_mayStand_0 at hf
  obtain ⟨r1, h_r1, hf⟩ := m_clR hf (fun _ h => rro_countOf h)
  have q1 := v_countOf hm h_r1
  dsimp only at q1
  rw [z6] at q1
  rcases m_ifE hf with ⟨c1, hf⟩ | ⟨c1, hf⟩
  · skip
    replace c1 := ti_eqP (a := r1) (b := (1 : Int32)) c1 rfl (show (1 : Int32).toInt = 1 from rfl)
    obtain ⟨r2, h_r2, hf⟩ := m_clR hf (fun _ h => rro_countOf h)
    have q2 := v_countOf hm h_r2
    dsimp only at q2
    rw [z14] at q2
    rcases m_ifE hf with ⟨c2, hf⟩ | ⟨c2, hf⟩
    · skip
      replace c2 := ti_eqP (a := r2) (b := (1 : Int32)) c2 rfl (show (1 : Int32).toInt = 1 from rfl)
      obtain ⟨kw, gw⟩ := cnt_ku (m := m) (w := 0) (by omega)
      obtain ⟨kb, gb⟩ := cnt_ku (m := m) (w := 1) (by omega)
      obtain ⟨k, gk⟩ : ∃ k, KU m (1 - sd) k := by
        rcases hs with e | e <;> subst e
        · exact ⟨kb, gb⟩
        · exact ⟨kw, gw⟩
      obtain ⟨g1, g2⟩ := ms_26 h gk mFuel 1 0 (by decide) (Or.inr rfl) ⟨fun _ f f0 f1 => by have z0 : (0 : Int32).toInt = 0 := rfl; omega, fun _ => rfl⟩ hf
      refine ⟨g1, ?_⟩
      rw [g2]
      constructor
      · rintro ⟨⟨a, c⟩, d, e⟩
        refine ⟨a, ⟨kw, gw⟩, ⟨kb, gb⟩, fun q hq => ?_, d, e⟩
        have e9 := gk.2.2.2 q hq.1 hq.2.1 hq.2.2.1
        rw [e9]; exact c
      · rintro ⟨a, -, -, c, d, e⟩
        exact ⟨⟨a, c k gk⟩, d, e⟩
    · skip
      replace c2 := ti_eqN (a := r2) (b := (1 : Int32)) c2 rfl (show (1 : Int32).toInt = 1 from rfl)
      unfold f_mayStand_20 at hf
      obtain ⟨-, hf⟩ := m_chkE hf
      cases hf
      try dsimp only
      refine ⟨Or.inl rfl, fun g => absurd g (by decide), fun g => ?_⟩
      obtain ⟨-, -, ⟨k, g⟩, -⟩ := g
      have := ku_cnt g
      omega
  · skip
    replace c1 := ti_eqN (a := r1) (b := (1 : Int32)) c1 rfl (show (1 : Int32).toInt = 1 from rfl)
    unfold f_mayStand_20 at hf
    obtain ⟨-, hf⟩ := m_chkE hf
    cases hf
    try dsimp only
    refine ⟨Or.inl rfl, fun g => absurd g (by decide), fun g => ?_⟩
    obtain ⟨-, ⟨k, g⟩, -⟩ := g
    have := ku_cnt g
    omega
end MST
