theorem pT_hi {k j : Nat} (h : 12 ≤ j) : (pT k j).1 = 99 := by
  unfold pT
  repeat (rw [if_neg (by omega)])
theorem bT_hi {k j : Nat} (h : 12 ≤ j) : bT k j = tF := by
  unfold bT
  repeat (rw [if_neg (by omega)])
theorem cM_hi {k j : Nat} (h : 12 ≤ j) : cM k j = 0 := by
  unfold cM
  repeat (rw [if_neg (by omega)])
theorem cT_hi {k j : Nat} (h : 12 ≤ j) : cT k j = 4 := by
  unfold cT
  repeat (rw [if_neg (by omega)])
/-- one cell of the first state, one slot -/
noncomputable def kS0 (S : ZS) (a k j : Nat) : Bool := (decide ((pT k j).1 = 99) || (match zP S j a with
    | some b => decide (zK S b = (pT k j).1) && (decide ((pT k j).2 = 0) || decide (zN S b = (pT k j).2))
    | none => false)) && (decide ((bT k j).1 ≤ (zI S j a).toInt) && decide ((zI S j a).toInt ≤ (bT k j).2)) && (match zP S j a with
    | some b => decide (cM k j ≤ rc b) && decide (rc b ≤ cT k j)
    | none => true)
noncomputable def kE0 (S : ZS) (a : Nat) : Bool := decide (18 ≤ zK S a) || ((List.range 12).all (fun j => kS0 S a (zK S a) j) && decide (zK S a ≠ 13) && (decide (zK S a ≠ 6) || (decide (zP S 0 a = some 0) && decide (zI S 1 a = 0))) && (decide (zK S a ≠ 15) || (List.range 7).all (fun i => match zB S a i with
    | some b => decide (zK S b = 0)
    | none => false)) && (decide (zK S a ≠ 1) || decide (zI S 5 a = 0)) && (decide (zK S a ≠ 16) || decide (a = 40 ∨ a = 104)) && (decide (zK S a ≠ 17) || decide (a = 41 ∨ a = 105)))
noncomputable def kF0 (S : ZS) : Bool := decide (zt S ≤ 200 ∧ 109 ≤ zt S ∧ zc S = 0 ∧ 18 ≤ zK S 0 ∧ zK S 1 = 11)
noncomputable def kT0 (S : ZS) : Bool := decide ((zK S 35 = 1 ∧ zK S 99 = 1) ∧ (zP S 1 35 = some 38 ∧ zP S 1 99 = some 102) ∧ (zP S 2 35 = some 40 ∧ zP S 2 99 = some 104) ∧ (zK S 38 = 4 ∧ zK S 102 = 4) ∧ (zK S 40 = 16 ∧ zK S 104 = 16)) && decide (zI S 3 35 = 0 ∧ zI S 3 99 = 0 ∧ zI S 2 38 = -1 ∧ zI S 2 102 = -1)
noncomputable def kC0 (S : ZS) : Bool := match zP S 7 1, zP S 5 1 with
  | some g, some r => (match zP S 3 r with
    | some g' => decide (g ≠ g') && decide (zI S 8 1 = 0)
    | none => false)
  | _, _ => false
noncomputable def evC (G : ZS → Bool) : Bool := match d_X11_init 1 (zsNewO zSs 1 11 10) with
  | some r => G r.2
  | none => false
theorem evC_E {G : ZS → Bool} (h : evC G = true) : ∃ r, d_X11_init 1 (zsNewO zSs 1 11 10) = some r ∧ G r.2 = true := by
  unfold evC at h
  cases e : d_X11_init 1 (zsNewO zSs 1 11 10) with
  | none => rw [e] at h; cases h
  | some r => rw [e] at h; exact ⟨r, rfl, h⟩
theorem evC_S {G : ZS → Bool} (h : evC G = true) {r : Int32 × ZS} (e : d_X11_init 1 (zsNewO zSs 1 11 10) = some r) : G r.2 = true := by
  obtain ⟨r', e', h'⟩ := evC_E h
  rw [e] at e'
  cases e'
  exact h'
theorem ev_F : evC kF0 = true := by decide +kernel
theorem ev_T : evC kT0 = true := by decide +kernel
theorem ev_C : evC kC0 = true := by decide +kernel
theorem ev_E0 : evC (fun S => (List.range 40).all (fun a => kE0 S a)) = true := by decide +kernel
theorem ev_E1 : evC (fun S => (List.range 40).all (fun a => kE0 S (40 + a))) = true := by decide +kernel
theorem ev_E2 : evC (fun S => (List.range 120).all (fun a => kE0 S (80 + a))) = true := by decide +kernel
theorem ev_L : evC (fun S => match zP S 0 1 with | some w => decide (zI S 1 w = 0) | none => true) = true := by decide +kernel
theorem ev_P : evC (fun S => decide (PS S ≤ 500000 ∧ zt S ≤ 2000 ∧ zu S ≤ 50000)) = true := by decide +kernel
theorem kE0_at {r : Int32 × ZS} (e : d_X11_init 1 (zsNewO zSs 1 11 10) = some r) (a : Nat) (ha : a < 200) : kE0 r.2 a = true := by
  by_cases h1 : a < 40
  · exact List.all_eq_true.mp (evC_S ev_E0 e) a (List.mem_range.mpr h1)
  · by_cases h2 : a < 80
    · have := List.all_eq_true.mp (evC_S ev_E1 e) (a - 40) (List.mem_range.mpr (by omega))
      rw [show 40 + (a - 40) = a by omega] at this
      exact this
    · have := List.all_eq_true.mp (evC_S ev_E2 e) (a - 80) (List.mem_range.mpr (by omega))
      rw [show 80 + (a - 80) = a by omega] at this
      exact this
theorem kE0_x {S : ZS} {a : Nat} (h : kE0 S a = true) (hk : zK S a < 18) : (∀ j, j < 12 → kS0 S a (zK S a) j = true) ∧ zK S a ≠ 13 ∧ (zK S a = 6 → zP S 0 a = some 0 ∧ zI S 1 a = 0) ∧ (zK S a = 15 → ∀ i, i < 7 → ∃ b, zB S a i = some b ∧ zK S b = 0) ∧ (zK S a = 1 → zI S 5 a = 0) ∧ (zK S a = 16 → a = 40 ∨ a = 104) ∧ (zK S a = 17 → a = 41 ∨ a = 105) := by
  unfold kE0 at h
  rw [Bool.or_eq_true] at h
  rcases h with h | h
  · exact absurd (of_decide_eq_true h) (by omega)
  · simp only [Bool.and_eq_true, Bool.or_eq_true, decide_eq_true_eq, List.all_eq_true, List.mem_range] at h
    obtain ⟨⟨⟨⟨⟨⟨h1, h2⟩, h3⟩, h4⟩, h5⟩, h6⟩, h7⟩ := h
    refine ⟨h1, h2, fun e => h3.resolve_left (fun hn => hn e), fun e i hi => ?_, fun e => h5.resolve_left (fun hn => hn e), fun e => h6.resolve_left (fun hn => hn e), fun e => h7.resolve_left (fun hn => hn e)⟩
    have h8 := h4.resolve_left (fun hn => hn e) i hi
    cases hb : zB S a i with
    | none => rw [hb] at h8; cases h8
    | some b => rw [hb] at h8; exact ⟨b, rfl, of_decide_eq_true h8⟩
theorem kS0_x {S : ZS} {a k j : Nat} (h : kS0 S a k j = true) : ((pT k j).1 ≠ 99 → ∃ b, zP S j a = some b ∧ zK S b = (pT k j).1 ∧ ((pT k j).2 = 0 ∨ zN S b = (pT k j).2)) ∧ ((bT k j).1 ≤ (zI S j a).toInt ∧ (zI S j a).toInt ≤ (bT k j).2) ∧ ∀ b, zP S j a = some b → cM k j ≤ rc b ∧ rc b ≤ cT k j := by
  unfold kS0 at h
  rw [Bool.and_eq_true, Bool.and_eq_true, Bool.or_eq_true, Bool.and_eq_true] at h
  obtain ⟨⟨h1, h2, h3⟩, h4⟩ := h
  refine ⟨fun hn => ?_, ⟨of_decide_eq_true h2, of_decide_eq_true h3⟩, fun b hb => ?_⟩
  · have h5 := h1.resolve_left (fun e => hn (of_decide_eq_true e))
    cases hb : zP S j a with
    | none => rw [hb] at h5; cases h5
    | some b =>
      rw [hb] at h5
      have h5 : (decide (zK S b = (pT k j).1) && (decide ((pT k j).2 = 0) || decide (zN S b = (pT k j).2))) = true := h5
      rw [Bool.and_eq_true, Bool.or_eq_true] at h5
      exact ⟨b, rfl, of_decide_eq_true h5.1, h5.2.imp of_decide_eq_true of_decide_eq_true⟩
  · rw [hb] at h4
    have h4 : (decide (cM k j ≤ rc b) && decide (rc b ≤ cT k j)) = true := h4
    rw [Bool.and_eq_true] at h4
    exact ⟨of_decide_eq_true h4.1, of_decide_eq_true h4.2⟩
/-- the first state of the class -/
theorem c_first : ∃ r, d_X11_init 1 (zsNewO zSs 1 11 10) = some r ∧ CI r.2 1 ∧ PS r.2 ≤ 500000 ∧ zt r.2 ≤ 2000 ∧ zu r.2 ≤ 50000 := by
  obtain ⟨r, e, hF⟩ := evC_E ev_F
  refine ⟨r, e, ?_, of_decide_eq_true (evC_S ev_P e)⟩
  obtain ⟨f1, f2, f3, f4, f5⟩ := of_decide_eq_true hF
  have hT := evC_S ev_T e
  unfold kT0 at hT
  rw [Bool.and_eq_true] at hT
  obtain ⟨⟨⟨a1, a2⟩, ⟨b1, b2⟩, ⟨c1, c2⟩, ⟨d1, d2⟩, ⟨e1, e2⟩⟩, g1, g2, g3, g4⟩ := (⟨of_decide_eq_true hT.1, of_decide_eq_true hT.2⟩ : _ ∧ _)
  have hF0 : Fh (zsNewO zSs 1 11 10) := fun a ha => by
    have ha' : 2 ≤ a := ha
    show 18 ≤ va_up (fun _ => 99) 1 11 a
    rw [va_up_ne _ _ (by omega)]; decide
  obtain ⟨b, b', t, t', ⟨m1, m2, m3⟩, ⟨n1, n2, n3⟩, Fh1⟩ := x11_em hF0 e
  have lt : ∀ a, zK r.2 a < 18 → a < 200 := fun a ha => by
    apply Classical.byContradiction
    intro h
    have := Fh1 a (by omega)
    omega
  have cx : ∀ a, zK r.2 a < 18 → _ := fun a ha => kE0_x (kE0_at e a (lt a ha)) ha
  have n16 : ∀ a, zK r.2 a = 16 → zB r.2 a = (fun _ => none) := fun a ha => by
    have h1 := (cx a (by omega)).2.2.2.2.2.1 ha
    have h2 := (cx b (by rw [m1.1]; decide)).2.2.2.2.2.1 m1.1
    have h3 := (cx b' (by rw [m2.1]; decide)).2.2.2.2.2.1 m2.1
    have : a = b ∨ a = b' := by omega
    rcases this with e | e
    · rw [e]; exact m1.2.1
    · rw [e]; exact m2.2.1
  have n17 : ∀ a, zK r.2 a = 17 → zB r.2 a = (fun _ => none) := fun a ha => by
    have h1 := (cx a (by omega)).2.2.2.2.2.2 ha
    have h2 := (cx t (by rw [n1.1]; decide)).2.2.2.2.2.2 n1.1
    have h3 := (cx t' (by rw [n2.1]; decide)).2.2.2.2.2.2 n2.1
    have : a = t ∨ a = t' := by omega
    rcases this with e | e
    · rw [e]; exact n1.2.1
    · rw [e]; exact n2.2.1
  have z0 : (0 : Int32).toInt = 0 := rfl
  have ZT1 : ZT r.2 := by
    refine ⟨fun a j ha hj => ?_, fun a ha => ?_, fun a j ha => ?_, fun a => ⟨fun ha i hi => ?_, fun ha i c hc => ?_, fun ha i c hc => ?_⟩, Fh1, f4, fun a ha => ?_, fun a j ha c hc => ?_, fun a ha c hc i hi => ?_, f3, f2, fun a a' c ka ka' pa pa' => ?_⟩
    · by_cases h12 : j < 12
      · exact (kS0_x ((cx a ha).1 j h12)).1 hj
      · exact absurd (pT_hi (by omega)) hj
    · obtain ⟨p0, p1⟩ := (cx a (by omega)).2.2.1 ha
      have hz : zcap r.2 0 = 0 := if_pos rfl
      refine ⟨0, p0, Or.inl rfl, ?_, ?_, ?_, ?_⟩
      · rw [p1]; decide
      · rw [p1, hz]; decide
      · rw [p1]; omega
      · rw [hz]; exact Nat.zero_le _
    · by_cases h12 : j < 12
      · exact (kS0_x ((cx a ha).1 j h12)).2.1
      · rw [bT_hi (by omega)]; exact tf_b _
    · exact (cx a (by omega)).2.2.2.1 ha i hi
    · rw [n16 a ha] at hc; cases hc
    · rw [n17 a ha] at hc; cases hc
    · exact absurd ha (cx a (by omega)).2.1
    · by_cases h12 : j < 12
      · exact (kS0_x ((cx a ha).1 j h12)).2.2 c hc
      · rw [cM_hi (by omega), cT_hi (by omega)]; exact ⟨Nat.zero_le _, rc_le _⟩
    · rw [(cx a (by omega)).2.2.2.2.1 ha, z0] at hi
      omega
    · rw [((cx a (by omega)).2.2.1 ka).1] at pa
      cases pa
      exact Or.inl rfl
  have emp : ∀ g0 r0 b0, zI r.2 3 g0 = 0 → zI r.2 2 r0 = -1 → TY r.2 g0 r0 b0 := by
    intro g0 r0 b0 h3 h2
    have hc : cn r.2 g0 = 0 := by unfold cn; rw [h3]; rfl
    refine ⟨fun k h4 h5 => by omega, fun k h4 h5 => by omega, fun _ => [], fun p hp => ?_⟩
    have hp0 : p = 0 := by omega
    subst hp0
    refine ⟨?_, List.nodup_nil, fun j => ⟨fun h => (by cases h), fun h => (by omega)⟩⟩
    show nF r.2 2 r0 b0 0 = -1
    unfold nF nk
    rw [if_pos rfl, h2]; rfl
  have hTX : TX r.2 := ⟨⟨a1, a2⟩, ⟨b1, b2⟩, ⟨c1, c2⟩, ⟨d1, d2⟩, ⟨e1, e2⟩, fun i c hc => (by rw [n16 40 e1] at hc; cases hc), fun i c hc => (by rw [n16 104 e2] at hc; cases hc)⟩
  have hCu := evC_S ev_C e
  unfold kC0 at hCu
  cases h7 : zP r.2 7 1 with
  | none => rw [h7] at hCu; cases hCu
  | some g =>
    cases h5 : zP r.2 5 1 with
    | none => rw [h7, h5] at hCu; cases hCu
    | some rd =>
      rw [h7, h5] at hCu
      cases h3 : zP r.2 3 rd with
      | none =>
        have hCu : (match zP r.2 3 rd with | some g' => decide (g ≠ g') && decide (zI r.2 8 1 = 0) | none => false) = true := hCu
        rw [h3] at hCu; cases hCu
      | some g' =>
        have hCu : (match zP r.2 3 rd with | some g' => decide (g ≠ g') && decide (zI r.2 8 1 = 0) | none => false) = true := hCu
        rw [h3] at hCu
        have hCu : (decide (g ≠ g') && decide (zI r.2 8 1 = 0)) = true := hCu
        rw [Bool.and_eq_true] at hCu
        refine ⟨ZT1, f5, ⟨hTX, emp 35 38 40 g1 g3, emp 99 102 104 g2 g4⟩, g, g', rd, h7, h5, h3, of_decide_eq_true hCu.1, ?_⟩
        rw [of_decide_eq_true hCu.2]
        show (0 : Int32).toInt ≤ _
        omega
theorem c_first_l {r : Int32 × ZS} (e : d_X11_init 1 (zsNewO zSs 1 11 10) = some r) (w : Nat) (hw : zP r.2 0 1 = some w) : (zI r.2 1 w).toInt ≤ 0 := by
  have h := evC_S ev_L e
  rw [hw] at h
  have h : decide (zI r.2 1 w = 0) = true := h
  rw [of_decide_eq_true h]
  decide
theorem ci_J {S : ZS} {x0 j : Nat} (h : CI S x0) : CI (zsJ S j) x0 := by
  obtain ⟨⟨h1, h2, h3, h4, h5, h6, h7, h8, h9, h10, h11⟩, k, z, p⟩ := h
  exact ⟨⟨h1, h2, h3, h4, fun a ha => h5 a (Nat.le_trans (Nat.le_add_right _ _) ha), h6, h7, h8, h9, h10, Nat.le_trans h11.1 (Nat.le_add_right _ _), h11.2⟩, k, z, p⟩
theorem sum_hi {S : ZS} (hF : Fh S) : ∀ j, sumN (pot S) (zt S + j) = sumN (pot S) (zt S)
  | 0 => rfl
  | j + 1 => by
    show sumN (pot S) (zt S + j) + pot S (zt S + j) = _
    have h0 : pot S (zt S + j) = 0 := by
      have hq := hF (zt S + j) (Nat.le_add_right _ _)
      unfold pot
      rw [if_neg (by omega), if_neg (by omega), if_neg (by omega)]
    rw [h0, sum_hi hF j]
    rfl
theorem ps_J {S : ZS} {j : Nat} (hF : Fh S) : PS (zsJ S j) = PS S := sum_hi hF j
theorem zsV_J (S : ZS) (j : Nat) : zsV (zsQ S) j = (zL S, zK S, zI S, zP S, zN S, zA S, zB S, zc S, zt S + j, zu S + 6) := by
  unfold zsV zsQ
  rfl
theorem ci_V {S : ZS} {x0 j : Nat} (h : CI S x0) : CI (zsV (zsQ S) j) x0 := by
  rw [zsV_J]
  exact ci_J (j := j) h
theorem ps_V {S : ZS} {j : Nat} (hF : Fh S) : PS (zsV (zsQ S) j) = PS S := by
  rw [zsV_J]
  exact sum_hi hF j
