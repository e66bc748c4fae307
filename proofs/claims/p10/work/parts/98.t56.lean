/-- a tree: how many, parents, moves, children, marks, remarks -/
noncomputable abbrev TRa : Type := Nat × (Nat → Int) × (Nat → Int) × (Nat → List Nat) × (Nat → List Int) × (Nat → List Int)
noncomputable def tn (T : TRa) : Nat := T.1
noncomputable def tP (T : TRa) : Nat → Int := T.2.1
noncomputable def tM (T : TRa) : Nat → Int := T.2.2.1
noncomputable def tL (T : TRa) : Nat → List Nat := T.2.2.2.1
noncomputable def tK (T : TRa) : Nat → List Int := T.2.2.2.2.1
noncomputable def tR (T : TRa) : Nat → List Int := T.2.2.2.2.2
noncomputable def mkT (T : TRa) (k : Nat) (K : List Int) : TRa := (tn T, tP T, tM T, tL T, fun j => if j = k then K else tK T j, tR T)
noncomputable def rkT (T : TRa) (k : Nat) (r : List Int) : TRa := (tn T, tP T, tM T, tL T, tK T, fun j => if j = k then r else tR T j)
/-- a node more, the last child of p -/
noncomputable def grT (T : TRa) (p : Nat) (m : Int) : TRa := (tn T + 1, fun k => if k = tn T + 1 then (p : Int) else tP T k, fun k => if k = tn T + 1 then m else tM T k, fun q => if q = p then tL T p ++ [tn T + 1] else if q = tn T + 1 then [] else tL T q, fun k => if k = tn T + 1 then [] else tK T k, fun k => if k = tn T + 1 then [] else tR T k)
/-- bounds of a tree -/
noncomputable def WT (T : TRa) : Prop := tn T ≤ 300 ∧ (∀ k, 1 ≤ k → k ≤ tn T → (0 ≤ tP T k ∧ tP T k < (k : Int)) ∧ 0 ≤ tM T k ∧ tM T k ≤ 24575) ∧ (∀ k, (tR T k).length ≤ 200 ∧ (tK T k).length ≤ 4) ∧ tP T 0 = -1 ∧ tM T 0 = -1
/-- the first child with a move -/
noncomputable def chL (M : Nat → Int) (m : Int) : List Nat → Int
  | [] => -1
  | k :: l => if M k = m then (k : Int) else chL M m l
/-- the tree of the class's game g -/
noncomputable def TRc (S : ZS) (g : Nat) (T : TRa) : Prop := cn S g = tn T ∧ ((∀ k, 1 ≤ k → k ≤ tn T → zB S (g + 5) k ≠ none) ∧ nF S 3 (g + 3) (g + 5) 0 = -1) ∧ TTl (tn T) (nF S 0 (g + 3) (g + 5)) (nF S 2 (g + 3) (g + 5)) (nF S 3 (g + 3) (g + 5)) (tL T) ∧ ∀ k, k ≤ tn T → (nF S 0 (g + 3) (g + 5) k = tP T k ∧ nF S 1 (g + 3) (g + 5) k = tM T k) ∧ NMk S (nk S (g + 3) (g + 5) k) (tK T k) ∧ RWL S (nk S (g + 3) (g + 5) k + 1) (tR T k)
/-- the cells of a game's tree -/
noncomputable def TCl (S : ZS) (g a : Nat) : Prop := a = g ∨ a = g + 3 ∨ a = g + 4 ∨ a = g + 5 ∨ ∃ i n, zB S (g + 5) i = some n ∧ (a = n ∨ a = n + 1)
section TRS
variable {S S' : ZS} {g g' k : Nat} {T : TRa} {K r : List Int}
theorem tc_nk (i : Nat) : TCl S g (nk S (g + 3) (g + 5) i) ∧ TCl S g (nk S (g + 3) (g + 5) i + 1) := by
  rcases nk_or (S := S) (r := g + 3) (b := g + 5) (k := i) with h | h
  · rw [h]; exact ⟨Or.inr (Or.inl rfl), Or.inr (Or.inr (Or.inl rfl))⟩
  · exact ⟨Or.inr (Or.inr (Or.inr (Or.inr ⟨i, _, h, Or.inl rfl⟩))), Or.inr (Or.inr (Or.inr (Or.inr ⟨i, _, h, Or.inr rfl⟩)))⟩
/-- a node, its row -/
theorem nk_nd (hC : CG S) (hg : g = 35 ∨ g = 99) (i : Nat) : zK S (nk S (g + 3) (g + 5) i) = 4 ∧ zP S 6 (nk S (g + 3) (g + 5) i) = some (nk S (g + 3) (g + 5) i + 1) ∧ zK S (nk S (g + 3) (g + 5) i + 1) = 6 ∧ rc (nk S (g + 3) (g + 5) i + 1) = 0 := by
  obtain ⟨-, ⟨-, -, k3, k4, -⟩, -, p6⟩ := fx_g hC.2.2.1 hg
  rcases nk_or (S := S) (r := g + 3) (b := g + 5) (k := i) with h | h
  · rw [h]
    refine ⟨k3, p6, k4, ?_⟩
    rcases hg with e | e <;> rw [e] <;> decide
  · obtain ⟨a1, a2, a3, a4⟩ := (gm_of hC hg).1 i _ h
    refine ⟨a2, a3, a4, ?_⟩
    unfold rc
    rw [if_neg (by omega), if_neg (by omega), if_neg (by omega), if_neg (by omega)]
theorem trc_nd (hC : CG S) (hg : g = 35 ∨ g = 99) (h : TRc S g T) (hk : k ≤ tn T) : NDo S (nk S (g + 3) (g + 5) k) (tR T k) := ⟨nk_nd hC hg k, (h.2.2.2 k hk).2.2⟩
theorem nk_ij (hC : CG S) (hg : GG g g') (h : TRc S g T) {i j : Nat} (hi : i ≤ tn T) (hj : j ≤ tn T) (e : nk S (g + 3) (g + 5) i = nk S (g + 3) (g + 5) j) : i = j :=
  nk_inj (fun i c hc => ⟨((txs_g hC hg).2.2.2.2.2.1 i c hc).1, ((txs_g hC hg).2.2.2.2.2.1 i c hc).2.2.2⟩ ) h.2.1.1 hi hj e
theorem nk_r1 (hC : CG S) (hg : g = 35 ∨ g = 99) (i j : Nat) : nk S (g + 3) (g + 5) i ≠ nk S (g + 3) (g + 5) j + 1 := fun e => by
  have h1 := (nk_nd hC hg i).1
  have h2 := (nk_nd hC hg j).2.2.1
  rw [e, h2] at h1
  omega
theorem trc_e (hC : CG S) (hg : g = 35 ∨ g = 99) (h : TRc S g T) (hE : ∀ a, TCl S g a → EQc S S' a) : TRc S' g T := by
  obtain ⟨h1, h2, h3, h4⟩ := h
  have eB : zB S' (g + 5) = zB S (g + 5) := (hE (g + 5) (Or.inr (Or.inr (Or.inr (Or.inl rfl))))).2.2.2.2.1
  have en : ∀ i, nk S' (g + 3) (g + 5) i = nk S (g + 3) (g + 5) i := fun i => by unfold nk; rw [eB]
  have eF : ∀ j, nF S' j (g + 3) (g + 5) = nF S j (g + 3) (g + 5) := fun j => by
    funext i
    unfold nF
    rw [en i, (hE _ (tc_nk i).1).2.2.1]
  refine ⟨by unfold cn; rw [(hE g (Or.inl rfl)).2.2.1]; exact h1, ⟨fun k k1 k2 => by rw [eB]; exact h2.1 k k1 k2, by rw [eF 3]; exact h2.2⟩, by rw [eF 0, eF 2, eF 3]; exact h3, fun k hk => ?_⟩
  obtain ⟨a1, a2, a3⟩ := h4 k hk
  have e1 := hE _ (tc_nk (S := S) (g := g) k).1
  have e2 := hE _ (tc_nk (S := S) (g := g) k).2
  rw [eF 0, eF 1, en k]
  exact ⟨a1, ⟨by rw [e1.2.2.1]; exact a2.1, by rw [e1.2.2.1]; exact a2.2⟩, eqc_rl e2 (nk_nd hC hg k).2.2.1 a3⟩
theorem trc_mk (hC : CG S) (hg : GG g g') (h : TRc S g T) (hk : k ≤ tn T) (hE : ∀ a, TCl S g a → a ≠ nk S (g + 3) (g + 5) k → EQc S S' a) (hl : LKs S S' (nk S (g + 3) (g + 5) k)) (hm : NMk S' (nk S (g + 3) (g + 5) k) K) : TRc S' g (mkT T k K) := by
  have hij := fun i hi e => nk_ij (i := i) (j := k) hC hg h hi hk e
  obtain ⟨h1, h2, h3, h4⟩ := h
  have g5 : g + 5 ≠ nk S (g + 3) (g + 5) k := fun e => by
    have a1 := (nk_nd hC (gg_g hg) k).1
    rw [← e, (fx_g hC.2.2.1 (gg_g hg)).2.1.2.2.2.2.1] at a1
    omega
  have g0 : g ≠ nk S (g + 3) (g + 5) k := fun e => by
    have a1 := (nk_nd hC (gg_g hg) k).1
    rw [← e, (fx_g hC.2.2.1 (gg_g hg)).1.1] at a1
    omega
  have eB : zB S' (g + 5) = zB S (g + 5) := (hE (g + 5) (Or.inr (Or.inr (Or.inr (Or.inl rfl)))) g5).2.2.2.2.1
  have en : ∀ i, nk S' (g + 3) (g + 5) i = nk S (g + 3) (g + 5) i := fun i => by unfold nk; rw [eB]
  have eF : ∀ j, j ≠ 4 → j ≠ 5 → nF S' j (g + 3) (g + 5) = nF S j (g + 3) (g + 5) := fun j j4 j5 => by
    funext i
    unfold nF
    rw [en i]
    by_cases e : nk S (g + 3) (g + 5) i = nk S (g + 3) (g + 5) k
    · rw [e, hl j j4 j5]
    · rw [(hE _ (tc_nk i).1 e).2.2.1]
  refine ⟨by unfold cn; rw [(hE g (Or.inl rfl) g0).2.2.1]; exact h1, ⟨fun k k1 k2 => by rw [eB]; exact h2.1 k k1 k2, by rw [eF 3 (by decide) (by decide)]; exact h2.2⟩, by rw [eF 0 (by decide) (by decide), eF 2 (by decide) (by decide), eF 3 (by decide) (by decide)]; exact h3, fun i hi => ?_⟩
  obtain ⟨a1, a2, a3⟩ := h4 i hi
  have e2 := hE _ (tc_nk (S := S) (g := g) i).2 (fun e => nk_r1 hC (gg_g hg) k i e.symm)
  rw [eF 0 (by decide) (by decide), eF 1 (by decide) (by decide), en i]
  refine ⟨a1, ?_, eqc_rl e2 (nk_nd hC (gg_g hg) i).2.2.1 a3⟩
  show NMk S' _ (if i = k then K else tK T i)
  by_cases e : i = k
  · rw [if_pos e, e]; exact hm
  · rw [if_neg e]
    have e1 := hE _ (tc_nk (S := S) (g := g) i).1 (fun ee => e (hij i hi ee))
    exact ⟨by rw [e1.2.2.1]; exact a2.1, by rw [e1.2.2.1]; exact a2.2⟩
theorem trc_rk (hC : CG S) (hg : GG g g') (h : TRc S g T) (hk : k ≤ tn T) (hE : ∀ a, TCl S g a → a ≠ nk S (g + 3) (g + 5) k + 1 → EQc S S' a) (hr : RWL S' (nk S (g + 3) (g + 5) k + 1) r) : TRc S' g (rkT T k r) := by
  have hij := fun i hi e => nk_ij (i := i) (j := k) hC hg h hi hk e
  obtain ⟨h1, h2, h3, h4⟩ := h
  have g5 : g + 5 ≠ nk S (g + 3) (g + 5) k + 1 := fun e => by
    have a1 := (nk_nd hC (gg_g hg) k).2.2.1
    rw [← e, (fx_g hC.2.2.1 (gg_g hg)).2.1.2.2.2.2.1] at a1
    omega
  have g0 : g ≠ nk S (g + 3) (g + 5) k + 1 := fun e => by
    have a1 := (nk_nd hC (gg_g hg) k).2.2.1
    rw [← e, (fx_g hC.2.2.1 (gg_g hg)).1.1] at a1
    omega
  have eB : zB S' (g + 5) = zB S (g + 5) := (hE (g + 5) (Or.inr (Or.inr (Or.inr (Or.inl rfl)))) g5).2.2.2.2.1
  have en : ∀ i, nk S' (g + 3) (g + 5) i = nk S (g + 3) (g + 5) i := fun i => by unfold nk; rw [eB]
  have e1 := fun i => hE _ (tc_nk (S := S) (g := g) i).1 (nk_r1 hC (gg_g hg) i k)
  have eF : ∀ j, nF S' j (g + 3) (g + 5) = nF S j (g + 3) (g + 5) := fun j => by
    funext i
    unfold nF
    rw [en i, (e1 i).2.2.1]
  refine ⟨by unfold cn; rw [(hE g (Or.inl rfl) g0).2.2.1]; exact h1, ⟨fun k k1 k2 => by rw [eB]; exact h2.1 k k1 k2, by rw [eF 3]; exact h2.2⟩, by rw [eF 0, eF 2, eF 3]; exact h3, fun i hi => ?_⟩
  obtain ⟨a1, a2, a3⟩ := h4 i hi
  rw [eF 0, eF 1, en i]
  refine ⟨a1, ⟨by rw [(e1 i).2.2.1]; exact a2.1, by rw [(e1 i).2.2.1]; exact a2.2⟩, ?_⟩
  show RWL S' _ (if i = k then r else tR T i)
  by_cases e : i = k
  · rw [if_pos e, e]; exact hr
  · rw [if_neg e]
    exact eqc_rl (hE _ (tc_nk (S := S) (g := g) i).2 (fun ee => e (hij i hi (by omega)))) (nk_nd hC (gg_g hg) i).2.2.1 a3
/-- which node the class gets -/
theorem p_at {x1 : Int32} {c : Nat} {S1 : ZS} (hC : CG S) (hg : g = 35 ∨ g = 99) (h : TRc S g T) (h0 : 0 ≤ x1.toInt) (h1 : x1.toInt ≤ (tn T : Int)) (hf : f_X1_at g x1 S = some (c, S1)) : S1 = S ∧ c = nk S (g + 3) (g + 5) x1.toInt.toNat := by
  obtain ⟨⟨kg, -, p1, p2, -⟩, -⟩ := fx_g hC.2.2.1 hg
  obtain ⟨a1, -, a3⟩ := ok_of (t_f_X1_at (x1 := x1) hC.1 kg) hf
  exact ⟨a1, by rw [← nd_nk hC.1 kg p1 p2 h0 (by rw [h.1]; exact h1)]; exact a3⟩
end TRS
section CWC
variable {S S' : ZS} {g k : Nat} {T : TRa} {o : Int32 × ZS} {x1 x2 : Int32}
theorem cwc_12 (hC : CG S) (hg : g = 35 ∨ g = 99) (h : TRc S g T) : ∀ (n : Nat) (l : List Nat) (x3 x4 : Int32), chn (nF S 3 (g + 3) (g + 5)) l x3.toInt → (∀ k ∈ l, 1 ≤ k ∧ k ≤ tn T) → 0 ≤ x4.toInt → x4.toInt + (l.length : Int) ≤ 300 → f_X1_childWith_12 n g x2 x3 x4 S = some o → o.1.toInt = chL (tM T) x2.toInt l := by
  intro n
  induction n with
  | zero => intro l x3 x4 _ _ _ _ hf; cases hf
  | succ n ih =>
    intro l x3 x4 hc hm h4 hl hf
    have hf : f_X1_childWith_12s (f_X1_childWith_12 n) g x2 x3 x4 S = some o := hf
    cases l with
    | nil =>
      have hc' : x3.toInt = -1 := hc
      unfold f_X1_childWith_12s at hf
      rcases m_ifE hf with ⟨c1, hf⟩ | ⟨c1, hf⟩
      · skip
        replace c1 := ti_leP (a := (300 : Int32)) (b := x4) c1 (show (300 : Int32).toInt = 300 from rfl) rfl
        unfold f_X1_childWith_52 at hf
        cases hf
        try dsimp only
        exact hc'
      · skip
        replace c1 := ti_leN (a := (300 : Int32)) (b := x4) c1 (show (300 : Int32).toInt = 300 from rfl) rfl
        rcases m_ifE hf with ⟨c2, hf⟩ | ⟨c2, hf⟩
        · skip
          replace c2 := ti_eqP (a := x3) (b := (-1 : Int32)) c2 rfl (show (-1 : Int32).toInt = -1 from rfl)
          unfold f_X1_childWith_52 at hf
          cases hf
          try dsimp only
          exact hc'
        · skip
          replace c2 := ti_eqN (a := x3) (b := (-1 : Int32)) c2 rfl (show (-1 : Int32).toInt = -1 from rfl)
          exact absurd hc' (by omega)
    | cons k l =>
      obtain ⟨hc1, hc2⟩ := hc
      have hk := hm k List.mem_cons_self
      have ll : ((k :: l).length : Int) = (l.length : Int) + 1 := rfl
      have hkM := (h.2.2.2 k hk.2).1.2
      unfold f_X1_childWith_12s at hf
      rcases m_ifE hf with ⟨c1, hf⟩ | ⟨c1, hf⟩
      · skip
        replace c1 := ti_leP (a := (300 : Int32)) (b := x4) c1 (show (300 : Int32).toInt = 300 from rfl) rfl
        omega
      · skip
        replace c1 := ti_leN (a := (300 : Int32)) (b := x4) c1 (show (300 : Int32).toInt = 300 from rfl) rfl
        rcases m_ifE hf with ⟨c2, hf⟩ | ⟨c2, hf⟩
        · skip
          replace c2 := ti_eqP (a := x3) (b := (-1 : Int32)) c2 rfl (show (-1 : Int32).toInt = -1 from rfl)
          omega
        · skip
          replace c2 := ti_eqN (a := x3) (b := (-1 : Int32)) c2 rfl (show (-1 : Int32).toInt = -1 from rfl)
          obtain ⟨-, hf⟩ := m_chkE hf
          obtain ⟨r1, h_r1, hf⟩ := m_calR hf (fun _ h => ro_X1_at h)
          dsimp only at hf
          obtain ⟨-, q1⟩ := p_at hC hg h (by omega) (by omega) h_r1
          have ek : x3.toInt.toNat = k := by omega
          rw [ek] at q1
          have m1 : (zI S 1 r1).toInt = tM T k := by rw [q1]; exact hkM
          obtain ⟨-, hf⟩ := m_chkE hf
          rcases m_ifE hf with ⟨c3, hf⟩ | ⟨c3, hf⟩
          · skip
            replace c3 := ti_eqP (a := (zI S 1 r1)) (b := x2) c3 rfl rfl
            unfold f_X1_childWith_52 at hf
            cases hf
            try dsimp only
            show x3.toInt = if tM T k = x2.toInt then (k : Int) else _
            rw [if_pos (by omega)]
            exact hc1
          · skip
            replace c3 := ti_eqN (a := (zI S 1 r1)) (b := x2) c3 rfl rfl
            obtain ⟨-, hf⟩ := m_chkE hf
            obtain ⟨r2, h_r2, hf⟩ := m_calR hf (fun _ h => ro_X1_at h)
            dsimp only at hf
            obtain ⟨-, q2⟩ := p_at hC hg h (by omega) (by omega) h_r2
            rw [ek] at q2
            obtain ⟨-, hf⟩ := m_chkE hf
            obtain ⟨v3, e_v3, hf⟩ := m_bndE hf
            have t_v3 : v3.toInt = x4.toInt + 1 := ti_add e_v3 rfl (show (1 : Int32).toInt = 1 from rfl) (by omega) (by omega)
            show o.1.toInt = if tM T k = x2.toInt then (k : Int) else chL (tM T) x2.toInt l
            rw [if_neg (by omega)]
            refine ih l (zI S 3 r2) v3 ?_ (fun j hj => hm j (List.mem_cons_of_mem _ hj)) (by omega) (by omega) hf
            rw [q2]
            exact hc2
theorem p_childWith (hC : CG S) (hg : g = 35 ∨ g = 99) (h : TRc S g T) (h3 : tn T ≤ 300) (h1 : x1.toInt = (k : Int)) (hk : k ≤ tn T) (hf : f_X1_childWith g x1 x2 S = some o) : o.1.toInt = chL (tM T) x2.toInt (tL T k) := by
  have hf : f_X1_childWith_0 g x1 x2 S = some o := hf
  have ht := h.2.2.1 k hk
  have hl := chn_len h.2.2.1 hk
  have z0 : (0 : Int32).toInt = 0 := rfl
  unfold f_X1_childWith_0 at hf
  obtain ⟨-, hf⟩ := m_chkE hf
  obtain ⟨r1, h_r1, hf⟩ := m_calR hf (fun _ h => ro_X1_at h)
  dsimp only at hf
  obtain ⟨-, q1⟩ := p_at hC hg h (by omega) (by omega) h_r1
  rw [show x1.toInt.toNat = k by omega] at q1
  obtain ⟨-, hf⟩ := m_chkE hf
  refine cwc_12 hC hg h mFuel (tL T k) (zI S 2 r1) 0 ?_ (fun j hj => ?_) (by decide) (by omega) hf
  · rw [q1]; exact ht.1
  · have := (ht.2.2 j).1 hj
    exact ⟨this.1, this.2.1⟩
end CWC
/-- the tree of the reference's game g -/
noncomputable def TRr (A : Nat → Nat → Int32) (g : Nat) (T : TRa) : Prop := (aK A g = tn T ∧ aN A g 0 = -1) ∧ TTl (tn T) (aP A g) (aC A g) (aN A g) (tL T) ∧ ∀ k, k ≤ tn T → (aP A g k = tP T k ∧ aM A g k = tM T k) ∧ NKr A (301 * g + k) (tK T k) ∧ NRr A (301 * g + k) (tR T k)
section CWR
variable {I : Nat → Int32} {A A' : Nat → Nat → Int32} {g k : Nat} {T : TRa} {o : Int32 × MS} {x1 x2 x3 : Int32} {K r : List Int}
theorem trr_e (hg : g ≤ 1) (h3 : tn T ≤ 300) (h : TRr A g T) (e7 : A' 7 g = A 7 g) (e : ∀ j, (8 ≤ j ∧ j ≤ 15) → A' j = A j) : TRr A' g T := by
  obtain ⟨h1, h2, h4⟩ := h
  have e8 : aP A' g = aP A g := by funext k; unfold aP; rw [e 8 (by decide)]
  have e9 : aM A' g = aM A g := by funext k; unfold aM; rw [e 9 (by decide)]
  have e10 : aC A' g = aC A g := by funext k; unfold aC; rw [e 10 (by decide)]
  have e11 : aN A' g = aN A g := by funext k; unfold aN; rw [e 11 (by decide)]
  refine ⟨⟨by unfold aK; rw [e7]; exact h1.1, by rw [e11]; exact h1.2⟩, by rw [e8, e10, e11]; exact h2, fun k hk => ?_⟩
  rw [e8, e9]
  unfold NKr NRr
  rw [e 12 (by decide), e 13 (by decide), e 14 (by decide), e 15 (by decide)]
  exact h4 k hk
theorem trr_mk {I I' : Nat → Int32} (h : TRr A g T) (hw : WT T) (hF : RFk I I' A A' (301 * g + k)) (hm : NKr A' (301 * g + k) K) : TRr A' g (mkT T k K) := by
  obtain ⟨h1, h2, h4⟩ := h
  obtain ⟨-, f1, f2, f3⟩ := hF
  have e := fun j a b => f1 j a b
  have e8 : aP A' g = aP A g := by funext k; unfold aP; rw [e 8 (by decide) (by decide)]
  have e9 : aM A' g = aM A g := by funext k; unfold aM; rw [e 9 (by decide) (by decide)]
  have e10 : aC A' g = aC A g := by funext k; unfold aC; rw [e 10 (by decide) (by decide)]
  have e11 : aN A' g = aN A g := by funext k; unfold aN; rw [e 11 (by decide) (by decide)]
  refine ⟨⟨by unfold aK; rw [e 7 (by decide) (by decide)]; exact h1.1, by rw [e11]; exact h1.2⟩, by rw [e8, e10, e11]; exact h2, fun i hi => ?_⟩
  obtain ⟨a1, a2, a3⟩ := h4 i hi
  rw [e8, e9]
  refine ⟨a1, ?_, by unfold NRr; rw [e 14 (by decide) (by decide), e 15 (by decide) (by decide)]; exact a3⟩
  show NKr A' _ (if i = k then K else tK T i)
  by_cases ei : i = k
  · rw [if_pos ei, ei]; exact hm
  · rw [if_neg ei]
    refine ⟨by rw [f2 _ (by omega)]; exact a2.1, fun j hj => ?_⟩
    have l4 := (hw.2.2.1 i).2
    rw [f3 _ (by omega)]
    exact a2.2 j hj
theorem trr_rk {I I' : Nat → Int32} (h : TRr A g T) (hw : WT T) (hF : RFm I I' A A' (301 * g + k)) (hm : NRr A' (301 * g + k) r) : TRr A' g (rkT T k r) := by
  obtain ⟨h1, h2, h4⟩ := h
  obtain ⟨-, f1, f2, f3⟩ := hF
  have e := fun j a b => f1 j a b
  have e8 : aP A' g = aP A g := by funext k; unfold aP; rw [e 8 (by decide) (by decide)]
  have e9 : aM A' g = aM A g := by funext k; unfold aM; rw [e 9 (by decide) (by decide)]
  have e10 : aC A' g = aC A g := by funext k; unfold aC; rw [e 10 (by decide) (by decide)]
  have e11 : aN A' g = aN A g := by funext k; unfold aN; rw [e 11 (by decide) (by decide)]
  refine ⟨⟨by unfold aK; rw [e 7 (by decide) (by decide)]; exact h1.1, by rw [e11]; exact h1.2⟩, by rw [e8, e10, e11]; exact h2, fun i hi => ?_⟩
  obtain ⟨a1, a2, a3⟩ := h4 i hi
  rw [e8, e9]
  refine ⟨a1, by unfold NKr; rw [e 12 (by decide) (by decide), e 13 (by decide) (by decide)]; exact a2, ?_⟩
  show NRr A' _ (if i = k then r else tR T i)
  by_cases ei : i = k
  · rw [if_pos ei, ei]; exact hm
  · rw [if_neg ei]
    have l2 := (hw.2.2.1 i).1
    refine ⟨by rw [f2 _ (by omega)]; exact a3.1, fun j hj => ?_⟩
    rw [f3 _ (by omega)]
    exact a3.2 j hj
theorem cv_14 (hg : g ≤ 1) (h3' : tn T ≤ 300) (h : TRr A g T) (h1 : x1.toInt = (g : Int)) : ∀ (n : Nat) (l : List Nat) (x4 : Int32), chn (aN A g) l x4.toInt → (∀ k ∈ l, 1 ≤ k ∧ k ≤ tn T) → f_childWith_14 n x1 x3 x4 I A = some o → o.2 = (I, A) ∧ o.1.toInt = chL (tM T) x3.toInt l := by
  intro n
  induction n with
  | zero => intro l x4 _ _ hf; cases hf
  | succ n ih =>
    intro l x4 hc hm hf
    have hf : f_childWith_14s (f_childWith_14 n) x1 x3 x4 I A = some o := hf
    cases l with
    | nil =>
      have hc' : x4.toInt = -1 := hc
      unfold f_childWith_14s at hf
      rcases m_ifE hf with ⟨c1, hf⟩ | ⟨c1, hf⟩
      · skip
        replace c1 := ti_ltP (a := x4) (b := (0 : Int32)) c1 rfl (show (0 : Int32).toInt = 0 from rfl)
        unfold f_childWith_54 at hf
        cases hf
        try dsimp only
        exact ⟨rfl, hc'⟩
      · skip
        replace c1 := ti_ltN (a := x4) (b := (0 : Int32)) c1 rfl (show (0 : Int32).toInt = 0 from rfl)
        exact absurd hc' (by omega)
    | cons k l =>
      obtain ⟨hc1, hc2⟩ := hc
      have hk := hm k List.mem_cons_self
      have hkM := (h.2.2 k hk.2).1.2
      unfold f_childWith_14s at hf
      rcases m_ifE hf with ⟨c1, hf⟩ | ⟨c1, hf⟩
      · skip
        replace c1 := ti_ltP (a := x4) (b := (0 : Int32)) c1 rfl (show (0 : Int32).toInt = 0 from rfl)
        omega
      · skip
        replace c1 := ti_ltN (a := x4) (b := (0 : Int32)) c1 rfl (show (0 : Int32).toInt = 0 from rfl)
        obtain ⟨v1, e_v1, hf⟩ := m_bndE hf
        have t_v1 : v1.toInt = 301 * x1.toInt := ti_mul e_v1 (show (301 : Int32).toInt = 301 from rfl) rfl (by omega) (by omega)
        obtain ⟨v2, e_v2, hf⟩ := m_bndE hf
        have t_v2 : v2.toInt = v1.toInt + x4.toInt := ti_add e_v2 rfl rfl (by omega) (by omega)
        obtain ⟨-, hf⟩ := m_chkE hf
        obtain ⟨v3, e_v3, hf⟩ := m_bndE hf
        have t3 : v3.toInt = tM T k := by rw [e_v3, cl_n (n := 301 * g + k) (by omega)]; exact hkM
        rcases m_ifE hf with ⟨c2, hf⟩ | ⟨c2, hf⟩
        · skip
          replace c2 := ti_eqP (a := v3) (b := x3) c2 rfl rfl
          unfold f_childWith_54 at hf
          cases hf
          try dsimp only
          refine ⟨rfl, ?_⟩
          show x4.toInt = if tM T k = x3.toInt then (k : Int) else _
          rw [if_pos (by omega)]
          exact hc1
        · skip
          replace c2 := ti_eqN (a := v3) (b := x3) c2 rfl rfl
          obtain ⟨v4, e_v4, hf⟩ := m_bndE hf
          have t_v4 : v4.toInt = 301 * x1.toInt := ti_mul e_v4 (show (301 : Int32).toInt = 301 from rfl) rfl (by omega) (by omega)
          obtain ⟨v5, e_v5, hf⟩ := m_bndE hf
          have t_v5 : v5.toInt = v4.toInt + x4.toInt := ti_add e_v5 rfl rfl (by omega) (by omega)
          obtain ⟨-, hf⟩ := m_chkE hf
          obtain ⟨v6, e_v6, hf⟩ := m_bndE hf
          have t6 : v6.toInt = aN A g k := by rw [e_v6, cl_n (n := 301 * g + k) (by omega)]; rfl
          show _ ∧ o.1.toInt = if tM T k = x3.toInt then (k : Int) else chL (tM T) x3.toInt l
          rw [if_neg (by omega)]
          exact ih l v6 (by rw [t6]; exact hc2) (fun j hj => hm j (List.mem_cons_of_mem _ hj)) hf
theorem v_childWith (hg : g ≤ 1) (h3' : tn T ≤ 300) (h : TRr A g T) (h1 : x1.toInt = (g : Int)) (h2 : x2.toInt = (k : Int)) (hk : k ≤ tn T) (hf : f_childWith x1 x2 x3 I A = some o) : o.2 = (I, A) ∧ o.1.toInt = chL (tM T) x3.toInt (tL T k) := by
  have hf : f_childWith_0 x1 x2 x3 I A = some o := hf
  have ht := h.2.1 k hk
  unfold f_childWith_0 at hf
  obtain ⟨v1, e_v1, hf⟩ := m_bndE hf
  have t_v1 : v1.toInt = 301 * x1.toInt := ti_mul e_v1 (show (301 : Int32).toInt = 301 from rfl) rfl (by omega) (by omega)
  obtain ⟨v2, e_v2, hf⟩ := m_bndE hf
  have t_v2 : v2.toInt = v1.toInt + x2.toInt := ti_add e_v2 rfl rfl (by omega) (by omega)
  obtain ⟨-, hf⟩ := m_chkE hf
  obtain ⟨v3, e_v3, hf⟩ := m_bndE hf
  have t3 : v3.toInt = aC A g k := by rw [e_v3, cl_n (n := 301 * g + k) (by omega)]; rfl
  refine cv_14 hg h3' h h1 mFuel (tL T k) v3 (by rw [t3]; exact ht.1) (fun j hj => ?_) hf
  have := (ht.2.2 j).1 hj
  exact ⟨this.1, this.2.1⟩
end CWR
