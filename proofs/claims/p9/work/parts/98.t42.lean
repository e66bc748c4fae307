/-- the tags of the class's game gm -/
def TGc (S : ZS) (gm : Nat) (L : List (List Int × List Int)) : Prop := (zI S 5 gm).toInt = (L.length : Int) ∧ L.length ≤ 8 ∧ ∃ ar, zP S 4 gm = some ar ∧ ∀ i : Int, 0 ≤ i → i < (L.length : Int) → ∃ t nr vr, zB S ar i.toNat = some t ∧ zP S 0 t = some nr ∧ zP S 1 t = some vr ∧ RWL S nr (nmL L i) ∧ RWL S vr (vlL L i)
section TGC
variable {S S' : ZS} {gm : Nat} {L : List (List Int × List Int)} {x1 : Int32}
theorem p_tagAt {r : Nat} (h : TGc S gm L) (hi : 0 ≤ x1.toInt ∧ x1.toInt < (L.length : Int)) (hf : d_X1_tagAt gm x1 S = some (r, S')) : S' = S ∧ ∃ nr vr, zP S 0 r = some nr ∧ zP S 1 r = some vr ∧ RWL S nr (nmL L x1.toInt) ∧ RWL S vr (vlL L x1.toInt) := by
  have hf : d_X1_tagAt_0 gm x1 S = some (r, S') := hf
  obtain ⟨hl, h8, ar, hP, ht⟩ := h
  obtain ⟨t, nr, vr, g1, g2, g3, g4, g5⟩ := ht x1.toInt hi.1 hi.2
  have z0 : (0 : Int32).toInt = 0 := rfl
  unfold d_X1_tagAt_0 at hf
  rcases m_ifE hf with ⟨c1, hf⟩ | ⟨c1, hf⟩
  · replace c1 := ti_ltP (a := x1) (b := (0 : Int32)) c1 rfl rfl
    omega
  · obtain ⟨-, hf⟩ := m_chkE hf
    rcases m_ifE hf with ⟨c2, hf⟩ | ⟨c2, hf⟩
    · replace c2 := ti_leP (a := zI S 5 gm) (b := x1) c2 rfl rfl
      omega
    · obtain ⟨-, hf⟩ := m_chkE hf
      replace hf := m_calY hf hP
      obtain ⟨-, hf⟩ := m_chkE hf
      obtain ⟨-, hf⟩ := m_chkE hf
      obtain ⟨v2, e2, hf⟩ := m_bndE hf
      have e3 : v2 = some t := by rw [e2]; exact g1
      unfold d_X1_tagAt_22 at hf
      rcases m_optE hf with ⟨n1, hf⟩ | ⟨b1, n1, hf⟩
      · rw [n1] at e3; cases e3
      · rw [n1] at e3
        cases e3
        unfold d_X1_tagAt_38 at hf
        replace hf := m_calY hf rfl
        cases hf
        exact ⟨rfl, nr, vr, g2, g3, g4, g5⟩
end TGC
