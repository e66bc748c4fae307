/-- the class's first board and games -/
noncomputable def kXb (S : ZS) (b : Nat) : Bool := decide (zI S 1 b = 4 ∧ zI S 2 b = 60 ∧ zI S 3 b = 0 ∧ zI S 4 b = 15 ∧ zI S 5 b = -1 ∧ zI S 6 b = 1) && (List.range 64).all (fun s => decide ((zA S (b + 1) s).toInt = m00 (s : Int)))
noncomputable def kXg (S : ZS) (g : Nat) : Bool := decide (zI S 3 g = 0 ∧ zI S 5 g = 0 ∧ zI S 6 g = 0 ∧ zI S 0 (g + 3) = -1 ∧ zI S 1 (g + 3) = -1 ∧ zI S 2 (g + 3) = -1 ∧ zI S 3 (g + 3) = -1 ∧ zI S 4 (g + 3) = 0 ∧ zI S 5 (g + 3) = 0 ∧ zI S 1 (g + 4) = 0)
noncomputable def kX6 (S : ZS) : Bool := kXb S 36 && kXb S 100 && kXb S 107
noncomputable def kX7 (S : ZS) : Bool := kXg S 35 && kXg S 99 && decide (zI S 8 1 = 0)
theorem ev_X6 : evC kX6 = true := by decide +kernel
theorem ev_X7 : evC kX7 = true := by decide +kernel
theorem bo_00 {S : ZS} {b : Nat} (k0 : zK S b = 0) (p0 : zP S 0 b = some (b + 1)) (k1 : zK S (b + 1) = 14) (h : kXb S b = true) : BO S b st00 := by
  unfold kXb at h
  rw [Bool.and_eq_true] at h
  obtain ⟨h1, h2⟩ := h
  obtain ⟨q1, q2, q3, q4, q5, q6⟩ := of_decide_eq_true h1
  have h2 := List.all_eq_true.1 h2
  refine ⟨⟨k0, p0, k1⟩, ?_, by rw [q3]; rfl, by rw [q4]; rfl, by rw [q5]; rfl, by rw [q1]; rfl, by rw [q2]; rfl, by rw [q6]; rfl⟩
  funext s
  show mCb S b s = m00 s
  unfold mCb
  by_cases c : 0 ≤ s ∧ s < 64
  · rw [if_pos c, p0]
    have := of_decide_eq_true (h2 s.toNat (List.mem_range.mpr (by omega)))
    rw [show ((s.toNat : Nat) : Int) = s by omega] at this
    exact this
  · rw [if_neg c, m00_x (by omega)]
theorem tr_00 {S : ZS} {g : Nat} (h : kXg S g = true) : TRc S g T00 ∧ TGk S g [] ∧ (zI S 6 g).toInt = 0 := by
  unfold kXg at h
  obtain ⟨q1, q2, q3, q4, q5, q6, q7, q8, q9, q10⟩ := of_decide_eq_true h
  have n0 : nk S (g + 3) (g + 5) 0 = g + 3 := if_pos rfl
  refine ⟨⟨?_, fun k k1 k2 => absurd (show k ≤ 0 from k2) (by omega), fun p hp => ?_, fun k hk => ?_⟩, ⟨?_, Nat.zero_le _, fun i hi => absurd hi (Nat.not_lt_zero _)⟩, ?_⟩
  · unfold cn
    rw [q1]; rfl
  · have p0 : p = 0 := Nat.le_zero.1 hp
    rw [p0]
    refine ⟨?_, List.nodup_nil, fun k => ⟨fun hk => (List.not_mem_nil hk).elim, fun ⟨a, b, _⟩ => absurd (show k ≤ 0 from b) (by omega)⟩⟩
    show nF S 2 (g + 3) (g + 5) 0 = -1
    unfold nF
    rw [n0, q6]; rfl
  · have k0 : k = 0 := Nat.le_zero.1 hk
    rw [k0, n0]
    unfold nF
    rw [n0, q4, q5]
    refine ⟨⟨rfl, rfl⟩, ⟨by rw [q8]; rfl, by rw [q9]; rfl⟩, by rw [q10]; rfl, fun i => ?_⟩
    unfold rwC
    have z : (zI S 1 (g + 3 + 1)).toInt = 0 := by rw [q10]; rfl
    rw [z, if_neg (by omega)]
    exact (wA_out (show i < 0 ∨ (0 : Int) ≤ i by omega)).symm
  · rw [q2]; rfl
  · rw [q3]; rfl
theorem c_first_f {I : Nat → Int32} {A : Nat → Nat → Int32} {j : Nat} {r : Int32 × ZS} (e : d_X11_init 1 (zsNewO zSs 1 11 10) = some r) (h1 : I 1 = 0) (h5 : I 5 = 0) (h6 : I 6 = 0) (hG : GMr A 0 [] st00 T00 0) (hQ : QS I A st00) : FM I A (zsJ r.2 j) := by
  have hs : SM I A (zsJ r.2 j) := c_first_s e h1
  have x6 := evC_S ev_X6 e
  have x7 := evC_S ev_X7 e
  unfold kX6 at x6
  unfold kX7 at x7
  rw [Bool.and_eq_true, Bool.and_eq_true] at x6 x7
  obtain ⟨⟨b36, b100⟩, b107⟩ := x6
  obtain ⟨⟨g35, g99⟩, i8⟩ := x7
  have i8 := of_decide_eq_true i8
  have X : FIX r.2 := (c_cgx e).1.1
  have n5 : (I 5).toInt.toNat = 0 := by rw [h5]; rfl
  have lt0 : LTr st00 T00 := hG.1.2.2
  refine fm_c (S := r.2) rfl rfl rfl rfl rfl rfl ⟨sm_c (S := zsJ r.2 j) rfl rfl rfl rfl rfl rfl hs, ?_⟩
  obtain ⟨-, g, g', hg, p3, p7⟩ := c_cgx e
  have go : ∀ {g'}, zP r.2 7 1 = some g' → kXg r.2 g' = true → BO r.2 (g' + 1) st00 → ∃ g L st T r0 c, FGm I A r.2 g L st T r0 c := fun {g'} p7 kg kb => by
    obtain ⟨t1, t2, t3⟩ := tr_00 kg
    refine ⟨g', [], st00, T00, 0, 0, ⟨p7, ⟨t1, wt_00, lt0⟩, kb, t2, fun i i0 i1 => absurd (show i < 0 from i1) (by omega), t3⟩, by rw [n5]; exact hG, ⟨by rw [i8]; rfl, by rw [h6]; rfl, Nat.zero_le _⟩, bo_00 (fx_k X (by decide) (by decide)) (fx_p X (by decide)) (fx_k X (by decide) (by decide)) b107, hQ⟩
  rcases hg with ⟨e1, e2⟩ | ⟨e1, e2⟩
  · exact go p7 (by rw [e2]; exact g99) (by rw [e2]; exact bo_00 (fx_k X (by decide) (by decide)) (fx_p X (by decide)) (fx_k X (by decide) (by decide)) b100)
  · exact go p7 (by rw [e2]; exact g35) (by rw [e2]; exact bo_00 (fx_k X (by decide) (by decide)) (fx_p X (by decide)) (fx_k X (by decide) (by decide)) b36)
