/-- a throw changes nothing but the marks of room -/
theorem cg_Q {S : ZS} (h : CG S) (hT : ZT (zsQ S)) : CG (zsQ S) := by
  obtain ⟨-, hZ, hX, h35, h99, hd⟩ := h
  exact ⟨hT, tz_Q hZ, hX, h35, h99, hd⟩
/-- calls that change no references but those of rows keep all -/
theorem cg_z {S S' : ZS} {W V : List (Nat × Nat)} (h : CG S) (hT : ZT S') (hZ : TZ S') (f : FrZ W V [] S S') (hV : ∀ z ∈ V, z.1 = 6) : CG S' := by
  have g := (f h.1.2.2.2.2.1).2.2
  obtain ⟨-, -, hX, h35, h99, hd⟩ := h
  have nv : ∀ a j, zK S a ≠ 6 → (zK S a, j) ∉ V := fun a j hn hm => hn (hV _ hm)
  have l := fun a h1 h2 => fx_l (a := a) hX h1 h2
  have P' : ∀ a j, zK S a < 18 → zK S a ≠ 6 → zP S' j a = zP S j a := fun a j ha hn => (g a ha).2.2.2.1 j (nv a j hn)
  have B' : ∀ a, zK S a < 18 → zB S' a = zB S a := fun a ha => (g a ha).2.2.2.2 (fun hm => by cases hm)
  have b40 := B' 40 (l 40 (by decide) (by decide))
  have b41 := B' 41 (l 41 (by decide) (by decide))
  have b104 := B' 104 (l 104 (by decide) (by decide))
  have b105 := B' 105 (l 105 (by decide) (by decide))
  have gm : ∀ q, GM S q → zB S' (q + 5) = zB S (q + 5) → zB S' (q + 6) = zB S (q + 6) → GM S' q := fun q hm e5 e6 => by
    refine ⟨fun i a ha => ?_, fun i a ha => ?_⟩
    · rw [e5] at ha
      obtain ⟨a1, a2, a3, a4⟩ := hm.1 i a ha
      exact ⟨a1, (g a (by rw [a2]; decide)).1.trans a2, (P' a 6 (by rw [a2]; decide) (by rw [a2]; decide)).trans a3, (g (a + 1) (by rw [a4]; decide)).1.trans a4⟩
    · rw [e6] at ha
      obtain ⟨a1, a2, a3, a4, a5, a6⟩ := hm.2 i a ha
      exact ⟨a1, (g a (by rw [a2]; decide)).1.trans a2, (P' a 0 (by rw [a2]; decide) (by rw [a2]; decide)).trans a3, (P' a 1 (by rw [a2]; decide) (by rw [a2]; decide)).trans a4, (g (a + 1) (by rw [a5]; decide)).1.trans a5, (g (a + 2) (by rw [a6]; decide)).1.trans a6⟩
  refine ⟨hT, hZ, ⟨fun a h1 h2 => (g a (l a h1 h2)).1.trans (hX.1 a h1 h2), fun t ht => ?_, fun d hd => ?_, fun d hd => ?_, fun d hd => ?_, ?_⟩, gm 35 h35 b40 b41, gm 99 h99 b104 b105, fun q q' hq => ?_⟩
  · obtain ⟨t1, t2, t3⟩ := fx_vp t ht
    rw [P' t.1 t.2.1 (l _ t1 t2) (fun e => by rw [hX.1 _ t1 t2] at e; rw [e] at t3; cases t3)]
    exact hX.2.1 t ht
  · rw [P' _ 0 (l (49 + 2 * d) (by omega) (by omega)) (by rw [hX.1 _ (by omega) (by omega), (fx_bk d hd).1]; decide)]
    exact hX.2.2.1 d hd
  · rw [P' _ 0 (l (85 + 2 * d) (by omega) (by omega)) (by rw [hX.1 _ (by omega) (by omega), (fx_wk d hd).1]; decide)]
    exact hX.2.2.2.1 d hd
  · rw [B' 47 (l 47 (by decide) (by decide)), B' 48 (l 48 (by decide) (by decide)), B' 84 (l 84 (by decide) (by decide))]
    exact hX.2.2.2.2.1 d hd
  · have e := fun a h1 h2 => (g a (l a h1 h2)).2.1
    rw [e 45 (by decide) (by decide), e 46 (by decide) (by decide), e 31 (by decide) (by decide), e 16 (by decide) (by decide)]
    exact hX.2.2.2.2.2
  · rcases hq with ⟨e1, e2⟩ | ⟨e1, e2⟩
    · rw [e1, e2, b41, b105]
      exact hd 35 99 (Or.inl ⟨rfl, rfl⟩)
    · rw [e1, e2, b41, b105]
      exact hd 99 35 (Or.inr ⟨rfl, rfl⟩)
