/-- the class's first cells -/
noncomputable def kX1 (S : ZS) : Bool := (List.range 108).all (fun a => decide (zK S (a + 1) = fxK (a + 1)))
noncomputable def kX2 (S : ZS) : Bool := fxL.all (fun t => decide (zP S t.2.1 t.1 = some t.2.2))
noncomputable def kX3 (S : ZS) : Bool := (List.range 14).all (fun d => decide (zP S 0 (49 + 2 * d) = some (50 + 2 * d))) && (List.range 7).all (fun d => decide (zP S 0 (85 + 2 * d) = some (86 + 2 * d))) && (List.range 7).all (fun d => decide (zB S 47 d = some (49 + 4 * d) ∧ zB S 48 d = some (51 + 4 * d) ∧ zB S 84 d = some (85 + 2 * d))) && decide (zN S 45 = 7 ∧ zN S 46 = 7 ∧ zN S 31 = 64 ∧ zN S 16 = 64)
noncomputable def kX4 (S : ZS) : Bool := decide ((zP S 3 23 = some 35 ∧ zP S 7 1 = some 99) ∨ (zP S 3 23 = some 99 ∧ zP S 7 1 = some 35)) && decide (zI S 1 2 = 0)
theorem ev_X1 : evC kX1 = true := by decide +kernel
theorem ev_X2 : evC kX2 = true := by decide +kernel
theorem ev_X3 : evC kX3 = true := by decide +kernel
theorem ev_X4 : evC kX4 = true := by decide +kernel
theorem c_nb {r : Int32 × ZS} (e : d_X11_init 1 (zsNewO zSs 1 11 10) = some r) : (∀ a, zK r.2 a = 16 → zB r.2 a = (fun _ => none)) ∧ (∀ a, zK r.2 a = 17 → zB r.2 a = (fun _ => none)) := by
  obtain ⟨f1, f2, f3, f4, f5⟩ := of_decide_eq_true (evC_S ev_F e)
  have hF0 : Fh (zsNewO zSs 1 11 10) := fun a ha => by
    have ha' : 2 ≤ a := ha
    show 18 ≤ va_up (fun _ => 99) 1 11 a
    rw [va_up_ne _ _ (by omega)]; decide
  obtain ⟨b, b', t, t', ⟨m1, m2, m3⟩, ⟨n1, n2, n3⟩, Fh1⟩ := x11_em hF0 e
  have lt : ∀ a, zK r.2 a < 18 → a < 200 := fun a ha => by
    apply Classical.byContradiction
    intro h
    have := Fh1 a (by omega)
    omega
  have cx : ∀ a, zK r.2 a < 18 → _ := fun a ha => kE0_x (kE0_at e a (lt a ha)) ha
  refine ⟨fun a ha => ?_, fun a ha => ?_⟩
  · have h1 := (cx a (by omega)).2.2.2.2.2.1 ha
    have h2 := (cx b (by rw [m1.1]; decide)).2.2.2.2.2.1 m1.1
    have h3 := (cx b' (by rw [m2.1]; decide)).2.2.2.2.2.1 m2.1
    have : a = b ∨ a = b' := by omega
    rcases this with e | e
    · rw [e]; exact m1.2.1
    · rw [e]; exact m2.2.1
  · have h1 := (cx a (by omega)).2.2.2.2.2.2 ha
    have h2 := (cx t (by rw [n1.1]; decide)).2.2.2.2.2.2 n1.1
    have h3 := (cx t' (by rw [n2.1]; decide)).2.2.2.2.2.2 n2.1
    have : a = t ∨ a = t' := by omega
    rcases this with e | e
    · rw [e]; exact n1.2.1
    · rw [e]; exact n2.2.1
theorem c_cgx {r : Int32 × ZS} (e : d_X11_init 1 (zsNewO zSs 1 11 10) = some r) : SC r.2 := by
  have x1 := List.all_eq_true.1 (evC_S ev_X1 e)
  have x2 := List.all_eq_true.1 (evC_S ev_X2 e)
  have x3 := evC_S ev_X3 e
  have x4 := evC_S ev_X4 e
  unfold kX3 at x3
  unfold kX4 at x4
  rw [Bool.and_eq_true, Bool.and_eq_true, Bool.and_eq_true] at x3
  rw [Bool.and_eq_true] at x4
  obtain ⟨⟨⟨y1, y2⟩, y3⟩, y4⟩ := x3
  have y1 := List.all_eq_true.1 y1
  have y2 := List.all_eq_true.1 y2
  have y3 := List.all_eq_true.1 y3
  have K : ∀ a, 1 ≤ a → a ≤ 108 → zK r.2 a = fxK a := fun a h1 h2 => by
    have q := of_decide_eq_true (x1 (a - 1) (List.mem_range.mpr (by omega)))
    rw [show a - 1 + 1 = a by omega] at q
    exact q
  have N := c_nb e
  have b40 := N.1 40 (K 40 (by decide) (by decide))
  have b104 := N.1 104 (K 104 (by decide) (by decide))
  have b41 := N.2 41 (K 41 (by decide) (by decide))
  have b105 := N.2 105 (K 105 (by decide) (by decide))
  refine ⟨⟨⟨K, fun t ht => of_decide_eq_true (x2 t ht), fun d hd => of_decide_eq_true (y1 d (List.mem_range.mpr hd)), fun d hd => of_decide_eq_true (y2 d (List.mem_range.mpr hd)), fun d hd => of_decide_eq_true (y3 d (List.mem_range.mpr hd)), of_decide_eq_true y4⟩, ⟨fun i a ha => ?_, fun i a ha => ?_⟩, ⟨fun i a ha => ?_, fun i a ha => ?_⟩, fun q q' hq i a ha => ?_⟩, ?_⟩
  · have ha : zB r.2 40 i = some a := ha
    rw [b40] at ha; cases ha
  · have ha : zB r.2 41 i = some a := ha
    rw [b41] at ha; cases ha
  · have ha : zB r.2 104 i = some a := ha
    rw [b104] at ha; cases ha
  · have ha : zB r.2 105 i = some a := ha
    rw [b105] at ha; cases ha
  · rcases hq with ⟨e1, e2⟩ | ⟨e1, e2⟩
    · rw [e1] at ha
      have ha : zB r.2 41 i = some a := ha
      rw [b41] at ha; cases ha
    · rw [e1] at ha
      have ha : zB r.2 105 i = some a := ha
      rw [b105] at ha; cases ha
  · rcases of_decide_eq_true x4.1 with ⟨q1, q2⟩ | ⟨q1, q2⟩
    · exact ⟨35, 99, Or.inl ⟨rfl, rfl⟩, q1, q2⟩
    · exact ⟨99, 35, Or.inr ⟨rfl, rfl⟩, q1, q2⟩
theorem c_first_s {I : Nat → Int32} {A : Nat → Nat → Int32} {j : Nat} {r : Int32 × ZS} (e : d_X11_init 1 (zsNewO zSs 1 11 10) = some r) (h1 : I 1 = 0) : SM I A (zsJ r.2 j) := by
  have x4 := evC_S ev_X4 e
  unfold kX4 at x4
  rw [Bool.and_eq_true] at x4
  have i2 : zI r.2 1 2 = 0 := of_decide_eq_true x4.2
  have z : (0 : Int32).toInt = 0 := rfl
  have z1 : (I 1).toInt = 0 := by rw [h1]; rfl
  refine sm_c (S := r.2) rfl rfl rfl rfl rfl rfl ⟨c_cgx e, ?_⟩
  rw [tr_0 z1, z1]
  refine ⟨?_, by rw [i2]; rfl, ⟨by omega, by omega⟩, fun _ => ⟨by show (0 : Int) ≤ 0; omega, by show (0 : Int) ≤ 127; omega⟩⟩
  funext i
  unfold rwC
  rw [i2, z, if_neg (by omega)]
noncomputable def kX5 (S : ZS) : Bool := decide (zI S 6 35 = 0 ∧ zI S 6 99 = 0 ∧ zI S 5 35 = 0 ∧ zI S 5 99 = 0)
theorem ev_X5 : evC kX5 = true := by decide +kernel
theorem c_first_r {I : Nat → Int32} {A : Nat → Nat → Int32} {j : Nat} {r : Int32 × ZS} (e : d_X11_init 1 (zsNewO zSs 1 11 10) = some r) (h1 : I 1 = 0) (h5 : I 5 = 0) (h18 : A 18 0 = 0) (h23 : A 23 0 = 0) : SR I A (zsJ r.2 j) := by
  refine ⟨c_first_s e h1, fun g' p7 => ?_⟩
  obtain ⟨q1, q2, q3, q4⟩ := of_decide_eq_true (evC_S ev_X5 e)
  have p7 : zP r.2 7 1 = some g' := p7
  have n5 : (I 5).toInt.toNat = 0 := by rw [h5]; rfl
  rw [n5, h18, h23]
  show zI r.2 6 g' = 0 ∧ zI r.2 5 g' = 0
  rcases (sc_7 (c_cgx e) p7).1 with eg | eg
  · rw [eg]; exact ⟨q1, q3⟩
  · rw [eg]; exact ⟨q2, q4⟩
theorem c_first_t {I : Nat → Int32} {A : Nat → Nat → Int32} {j : Nat} {r : Int32 × ZS} (e : d_X11_init 1 (zsNewO zSs 1 11 10) = some r) (h1 : I 1 = 0) (h5 : I 5 = 0) (h18 : A 18 0 = 0) (h23 : A 23 0 = 0) : ST I A (zsJ r.2 j) := by
  have hr : SR I A (zsJ r.2 j) := c_first_r e h1 h5 h18 h23
  refine ⟨hr, ?_⟩
  obtain ⟨g, g', hg, p3, p7⟩ := hr.1.1.2
  have q := (hr.2 g' p7).2
  have n5 : (I 5).toInt.toNat = 0 := by rw [h5]; rfl
  rw [n5] at q ⊢
  refine ⟨g', [], p7, ⟨by rw [q, h18]; rfl, Nat.zero_le _, fun i hi => absurd hi (Nat.not_lt_zero _)⟩, ⟨?_, Nat.zero_le _, fun i i0 i1 => absurd (show i < 0 from i1) (by omega)⟩⟩
  show (A 18 0).toInt = 0
  rw [h18]; rfl
