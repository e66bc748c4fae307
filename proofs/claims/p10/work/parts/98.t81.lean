section FNZ
theorem rk_o {V : Int → Int} {base : Int} (hb : 0 ≤ base ∧ base ≤ 56) : ∀ (k : Nat) (p f dg : Int) (m : Int → Int) (z : Int × (Int → Int)), 0 ≤ f → (∀ s, ¬ (0 ≤ s ∧ s < 64) → m s = 0) → rkV V base k p f dg m = some z → ∀ s, ¬ (0 ≤ s ∧ s < 64) → z.2 s = 0
  | 0, p, f, dg, m, z, _, _, h => by cases h
  | k + 1, p, f, dg, m, z, hf, hm, h => by
    have h : (if 8 ≤ f then (if f = 8 then some (p, m) else none) else if 49 ≤ V p ∧ V p ≤ 56 then (if dg = 0 then rkV V base k (p + 1) (f + (V p - 48)) 1 m else none) else if manV (V p) = 0 then none else rkV V base k (p + 1) (f + 1) 0 (up m (base + f) (manV (V p)))) = some z := h
    by_cases c1 : 8 ≤ f
    · rw [if_pos c1] at h
      by_cases c2 : f = 8
      · rw [if_pos c2] at h
        cases h
        exact hm
      · rw [if_neg c2] at h; cases h
    · rw [if_neg c1] at h
      by_cases c2 : 49 ≤ V p ∧ V p ≤ 56
      · rw [if_pos c2] at h
        by_cases c3 : dg = 0
        · rw [if_pos c3] at h
          exact rk_o hb k _ _ _ m z (by omega) hm h
        · rw [if_neg c3] at h; cases h
      · rw [if_neg c2] at h
        by_cases c3 : manV (V p) = 0
        · rw [if_pos c3] at h; cases h
        · rw [if_neg c3] at h
          refine rk_o hb k _ _ _ _ z (by omega) (fun s hs => ?_) h
          rw [up_n (by omega)]
          exact hm s hs
theorem mh_o {V : Int → Int} : ∀ (r : Nat) (p : Int) (m : Int → Int) (z : Int × (Int → Int)), r ≤ 8 → (∀ s, ¬ (0 ≤ s ∧ s < 64) → m s = 0) → mhV V r p m = some z → ∀ s, ¬ (0 ≤ s ∧ s < 64) → z.2 s = 0
  | 0, p, m, z, _, hm, h => by
    cases h
    exact hm
  | r + 1, p, m, z, hr, hm, h => by
    have h : (if r = 7 then bnd2 (rkV V (8 * (r : Int)) 9 p 0 0 m) (fun z => mhV V r z.1 z.2) else if V p = 47 then bnd2 (rkV V (8 * (r : Int)) 9 (p + 1) 0 0 m) (fun z => mhV V r z.1 z.2) else none) = some z := h
    have step : ∀ q, bnd2 (rkV V (8 * (r : Int)) 9 q 0 0 m) (fun z => mhV V r z.1 z.2) = some z → ∀ s, ¬ (0 ≤ s ∧ s < 64) → z.2 s = 0 := fun q h => by
      cases hk : rkV V (8 * (r : Int)) 9 q 0 0 m with
      | none => rw [hk] at h; cases h
      | some y =>
        rw [hk] at h
        exact mh_o r y.1 y.2 z (by omega) (rk_o ⟨by omega, by omega⟩ 9 q 0 0 m y (by decide) hm hk) h
    by_cases c1 : r = 7
    · rw [if_pos c1] at h; exact step p h
    · rw [if_neg c1] at h
      by_cases c2 : V p = 47
      · rw [if_pos c2] at h; exact step (p + 1) h
      · rw [if_neg c2] at h; cases h
theorem fen_o {V : Int → Int} {n : Int} {m : Int → Int} {sd rt ps nb : Int} (h : FENp V n m sd rt ps nb) : ∀ s, ¬ (0 ≤ s ∧ s < 64) → m s = 0 := by
  obtain ⟨p1, h1, -⟩ := h
  exact mh_o 8 0 (fun _ => 0) (p1, m) (Nat.le_refl _) (fun _ _ => rfl) h1
theorem vl_ge {ch : Int → Int} {N : Int} : ∀ (k : Nat) (p : Int) (w : List Int), p ≤ (vlP ch N k p w).2.1
  | 0, p, w => Int.le_refl _
  | k + 1, p, w => by
    by_cases c1 : ch p = 34
    · rw [vl_q c1]; show p ≤ p + 1; omega
    · by_cases c2 : ch p = 92
      · by_cases c3 : ch (p + 1) = 34 ∨ ch (p + 1) = 92
        · rw [vl_e c2 c3]; have := vl_ge (ch := ch) (N := N) k (p + 2) (w ++ [ch (p + 1)]); omega
        · rw [vl_f c2 c3]; show p ≤ p + 1; omega
      · by_cases c3 : N ≤ p ∨ ch p = 10
        · rw [vl_n c1 c2 c3]; exact Int.le_refl _
        · rw [vl_s c1 c2 c3]; have := vl_ge (ch := ch) (N := N) k (p + 1) (w ++ [ch p]); omega
theorem tpf_p {ch : Int → Int} {N p f : Int} (h : TPf ch N p f) : p < f := by
  obtain ⟨n0, n1, h1, h2, h3⟩ := h
  have a1 := h1.1
  have a2 := h2.1
  rcases h3 with ⟨-, h4⟩ | ⟨-, q, h5, h6⟩
  · omega
  · have a3 := h5.1
    have a4 := vl_ge (ch := ch) (N := N) 2001 (q + 1) []
    rcases h6 with ⟨-, h7⟩ | ⟨-, ⟨-, h7⟩ | ⟨-, e, h7, -, h8⟩⟩
    · omega
    · omega
    · have := h7.1
      omega
end FNZ
/-- the reference while it reads tags into game g -/
noncomputable def HRt (I : Nat → Int32) (A : Nat → Nat → Int32) (g : Nat) (ch : Int → Int) (N p : Int) (st : PO) (L : List (List Int × List Int)) (T : TRa) : Prop := (RV I A ch N p ∧ p ≤ N ∧ g ≤ 1 ∧ (I 29).toInt ≤ 1999) ∧ TGr A (g : Int) L ∧ SPp A g st ∧ (TRr A g T ∧ WT T ∧ tn T = 0) ∧ PGd st ∧ 1 ≤ onb st ∧ onb st ≤ 999
/-- the reference's game behind its tags -/
noncomputable def RGT (x1 : Int32) (I : Nat → Int32) (A : Nat → Nat → Int32) : Option (Int32 × MS) :=
  m_cl (f_readRemarks x1 (0 : Int32) I A) (fun r2 Ic2 Ac2 =>
  m_if (r2 ≤ 0) (
  m_cl (f_readLine x1 (0 : Int32) (0 : Int32) Ic2 Ac2) (fun r3 Ic3 Ac3 =>
  f_readGame_59 x1 r3 Ic3 Ac3)
  ) (
  f_readGame_59 x1 r2 Ic2 Ac2
  ))
section RHR
variable {I I0 : Nat → Int32} {A A0 : Nat → Nat → Int32} {g : Nat} {ch : Int → Int} {N p : Int} {st : PO} {L : List (List Int × List Int)} {T : TRa} {o : Int32 × MS} {x1 : Int32}
theorem rs_hr (h : HRt I A g ch N p st L T) : RSt I I A A g ch N p st T := by
  obtain ⟨⟨rv, hp, hg, -⟩, tg, sp, ⟨tr, hw, h0⟩, pg, nb⟩ := h
  exact ⟨rv, hp, hg, tr, sp, ⟨hw, pg, nb, fun k k1 k2 => by omega⟩, rdf_0, fun _ _ _ => rfl, fun _ _ => rfl⟩
/-- a tag of the reference -/
theorem v_tag1 (h : HRt I A g ch N p st L T) (h91 : ch p = 91) (h1 : x1.toInt = (g : Int)) (hf : f_readTag x1 I A = some o) : (∃ r, TG1 ch N p L st r ∧ o.1.toInt = 0 ∧ HRt o.2.1 o.2.2 g ch N r.1 r.2.2 r.2.1 T) ∨ ((∀ r, ¬ TG1 ch N p L st r) ∧ 0 < o.1.toInt) := by
  obtain ⟨⟨rv, hp, hg, h29⟩, tg, sp, ⟨tr, hw, h0⟩, pg, nb⟩ := h
  obtain ⟨⟨hI, hA⟩, ⟨hc, hn, hN⟩, hcb, h37, hp0, -⟩ := id rv
  have out : ∀ i, N ≤ i → ch i = 0 := fun i hi => rv_out rv hi
  have pN : p < N := Int.not_le.1 (fun e => by have := out p e; omega)
  obtain ⟨hI', hA', -, -, h29'⟩ := ok_of (t_readTag (aa := p) (x1 := x1) hI hA (by omega) (by omega) (by omega) h29) hf
  have fw := fw_readTag hf
  have hg2 : (g : Int) = 0 ∨ (g : Int) = 1 := by omega
  have noR : ∀ e u w, TPk ch N p e u w → (RF2 L u w ∨ (u = strL 0 ∧ ∀ m sd rt ps nb, ¬ FENp (wA w) (w.length : Int) m sd rt ps nb)) → ∀ r, ¬ TG1 ch N p L st r := fun e u w hk hR r ⟨e', u', w', a1, a2, a3, a4, a5⟩ => by
    obtain ⟨-, e2, e3⟩ := tpk_u hk a1
    subst e2; subst e3
    rcases hR with hR | ⟨hR, hF⟩
    · exact a2 hR
    · rcases a5 with ⟨a6, -⟩ | ⟨-, a6⟩
      · exact a6 hR
      · exact hF _ _ _ _ _ a6.1
  rcases v_readTag hI hA hc hcb hn hN.2 h37 ⟨hp0, hp⟩ hg2 h1 tg h29 hf with ⟨f, a1, a2⟩ | ⟨e, u, w, a1, a2⟩
  · have := tpf_p a1
    exact Or.inr ⟨fun r ⟨e, u, w, b, _⟩ => tp_x a1 b, by omega⟩
  · rcases a2 with ⟨b1, b2⟩ | ⟨b1, b2, b3, b4⟩ | ⟨b1, b2, b3, b4, b5⟩
    · exact Or.inr ⟨noR e u w a1 (Or.inl b1), by omega⟩
    · exact Or.inr ⟨noR e u w a1 (Or.inr ⟨b2, b3⟩), by omega⟩
    · have e93 : ch e = 93 := by
        obtain ⟨_, _, _, _, _, _, _, _, _, _, x, _⟩ := a1
        exact x
      have e0 : p < e := by
        obtain ⟨n0, n1, q, x1, x2, x3, x4, _, _, x5, _⟩ := a1
        have y1 := x1.1
        have y2 := x4.1
        have y3 := vl_ge (ch := ch) (N := N) 2001 (q + 1) []
        have y4 := x5.1
        omega
      have eN : e < N := Int.not_le.1 (fun ee => by have := out e ee; omega)
      have rv' : RV o.2.1 o.2.2 ch N (e + 1) := ⟨⟨hI', hA'⟩, ⟨by rw [← hc]; funext i; unfold txR; rw [fw.1 1 (by decide), fw.2 2 (by decide)], by rw [fw.1 1 (by decide)]; exact hn, hN⟩, hcb, b3, by omega, by omega⟩
      have tr' : TRr o.2.2 g T := trr_e hg (by omega) tr (by rw [fw.2 7 (by decide)]) (fun j hj => fw.2 j (by simp only [List.mem_cons, List.not_mem_nil, or_false]; omega))
      rcases b5 with ⟨b6, b7, b8, b9⟩ | ⟨b6, b7, m, sd, rt, ps, nb', b8, b9, b10⟩
      · refine Or.inl ⟨(e + 1, L ++ [(u, w)], st), ⟨e, u, w, a1, b1, rfl, rfl, Or.inl ⟨b6, rfl⟩⟩, b2, ⟨rv', show e + 1 ≤ N by omega, hg, h29'⟩, b4, ⟨?_, sp.2⟩, ⟨tr', hw, h0⟩, pg, nb⟩
        have s1 := sp.1
        unfold SPo at s1 ⊢
        rw [b8, b9]
        exact s1
      · obtain ⟨kw, kb, d1, d2, d3⟩ := fno_ex b8 b9 (fen_o b8)
        exact Or.inl ⟨(e + 1, L ++ [(u, w)], (m, sd, rt, ps, kw, kb, nb')), ⟨e, u, w, a1, b1, rfl, rfl, Or.inr ⟨b6, d1⟩⟩, b2, ⟨rv', show e + 1 ≤ N by omega, hg, h29'⟩, b4, ⟨b10, fen_o b8⟩, ⟨tr', hw, h0⟩, d2, d3⟩
theorem rg_9 (h1 : x1.toInt = (g : Int)) : ∀ (n : Nat) (I : Nat → Int32) (A : Nat → Nat → Int32) (k : Nat) (p : Int) (L : List (List Int × List Int)) (st : PO), HRt I A g ch N p st L T → 9 ≤ k + L.length → f_readGame_9 n x1 I A = some o → (∃ r I1 A1, hdP ch N k p L st = some r ∧ HRt I1 A1 g ch N r.1 r.2.2 r.2.1 T ∧ RGT x1 I1 A1 = some o) ∨ (hdP ch N k p L st = none ∧ 0 < o.1.toInt) := by
  intro n
  induction n with
  | zero => intro I A k p L st _ _ hf; cases hf
  | succ n ih =>
    intro I A k p L st h hk hf
    have hf : f_readGame_9s (f_readGame_9 n) x1 I A = some o := hf
    have l8 := h.2.1.2.1
    obtain ⟨k, rfl⟩ : ∃ j, k = j + 1 := ⟨k - 1, by omega⟩
    unfold f_readGame_9s at hf
    obtain ⟨r1, h_r1, hf⟩ := m_clR hf (fun _ h => rro_look h)
    have q1 := rv_lk h.1.1 h_r1
    dsimp only at q1
    rcases m_ifE hf with ⟨c1, hf⟩ | ⟨c1, hf⟩
    · replace c1 := ti_eqP (a := r1) (b := (91 : Int32)) c1 rfl (show (91 : Int32).toInt = 91 from rfl)
      obtain ⟨⟨r4, Ic4, Ac4⟩, h_r4, hf⟩ := m_clE hf
      dsimp only at hf
      rcases v_tag1 h (by omega) h1 h_r4 with ⟨r, a1, a2, a3⟩ | ⟨a1, a2⟩
      · dsimp only at a2 a3
        rcases m_ifE hf with ⟨-, hf⟩ | ⟨c2, hf⟩
        · obtain ⟨⟨r5, Ic5, Ac5⟩, h_r5, hf⟩ := m_clE hf
          dsimp only at hf
          obtain ⟨⟨rv, hp, hg, h29⟩, tg, sp, tr, pg⟩ := a3
          obtain ⟨b1, b2, b3, b4, b5⟩ := rv_bl rv h_r5
          dsimp only at b2 b3 b4
          have hl : r.2.1.length = L.length + 1 := by
            obtain ⟨e, u, w, -, -, -, x, -⟩ := a1
            rw [x, List.length_append]; rfl
          rw [hd_y (by omega) a1]
          rw [b3] at hf b2
          exact ih Ic5 Ac4 k _ _ _ ⟨⟨b2, by omega, hg, by rw [b4 29 (by decide)]; exact h29⟩, tg, sp, tr, pg⟩ (by rw [hl]; omega) hf
        · replace c2 := ti_leN (a := r4) (b := (0 : Int32)) c2 rfl (show (0 : Int32).toInt = 0 from rfl)
          omega
      · dsimp only at a2
        rcases m_ifE hf with ⟨c2, hf⟩ | ⟨c2, hf⟩
        · replace c2 := ti_leP (a := r4) (b := (0 : Int32)) c2 rfl (show (0 : Int32).toInt = 0 from rfl)
          omega
        · cases hf
          exact Or.inr ⟨hd_n (by omega) a1, a2⟩
    · replace c1 := ti_eqN (a := r1) (b := (91 : Int32)) c1 rfl (show (91 : Int32).toInt = 91 from rfl)
      exact Or.inl ⟨(p, L, st), I, A, hd_0 (by omega), h, hf⟩
end RHR
