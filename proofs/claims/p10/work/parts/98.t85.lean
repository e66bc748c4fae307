section RDR
variable {I : Nat → Int32} {A : Nat → Nat → Int32} {g : Nat} {ch : Int → Int} {N r : Int} {st : PO} {L : List (List Int × List Int)} {T : TRa} {o : Int32 × MS} {x2 : Int32}
theorem gmr_e {A' : Nat → Nat → Int32} (hg : g ≤ 1) (h : GMr A g L st T r) (e : ∀ j, j ≤ 23 → A' j = A j) : GMr A' g L st T r := by
  obtain ⟨⟨tr, hw, hl⟩, sp, tg, hr⟩ := h
  have h3 := hw.1
  refine ⟨⟨trr_e hg h3 tr (by rw [e 7 (by decide)]) (fun j hj => e j (by omega)), hw, hl⟩, ⟨?_, sp.2⟩, tgr_e tg (fun j j1 j2 => e j (by omega)), by rw [e 23 (by decide)]; exact hr⟩
  have s1 := sp.1
  unfold SPo at s1 ⊢
  rw [e 16 (by decide), e 17 (by decide)]
  exact s1
theorem rd_47 (hf : f_read_47 x2 I A = some o) : o.1 = x2 ∧ (∀ j, j ∉ [25, 26, 27, 28, 29, 33] → o.2.1 j = I j) ∧ ∀ j, j ∉ [24, 30, 31, 32, 34] → o.2.2 j = A j := by
  unfold f_read_47 at hf
  obtain ⟨⟨r1, Ic1, Ac1⟩, h_r1, hf⟩ := m_clE hf
  dsimp only at hf
  have fw := fw_place h_r1
  cases hf
  exact ⟨rfl, fw.1, fw.2⟩
/-- the reference's read -/
theorem v_read (hI : TJ I) (hA : TK A) (hc : txR I A = ch) (hn : (I 1).toInt = N) (hN : 0 ≤ N ∧ N ≤ 2000) (hcb : ∀ i, 0 ≤ ch i ∧ ch i ≤ 127) (h5 : (I 5).toInt = 1 - (g : Int)) (hg : g ≤ 1) (hf : f_read I A = some o) : (∃ L st T r, rdP ch N = some (L, st, T, r) ∧ o.1.toInt = 0 ∧ (o.2.1 1).toInt = 0 ∧ (o.2.1 5).toInt = (g : Int) ∧ (o.2.1 6).toInt = 0 ∧ GMr o.2.2 g L st T r) ∨ (rdP ch N = none ∧ 0 < o.1.toInt ∧ o.2.1 1 = I 1 ∧ o.2.2 2 = A 2 ∧ o.2.1 5 = I 5 ∧ o.2.1 6 = I 6) := by
  have hf : f_read_0 I A = some o := hf
  unfold f_read_0 at hf
  obtain ⟨I1, e1, hf⟩ := m_bndE hf
  have hI1 : TJ I1 := by rw [e1]; exact tj_u hI (show (0 : Int) ≤ (0 : Int32).toInt by decide) (show (0 : Int32).toInt ≤ (2 : Int) by decide)
  have j5 : I1 5 = I 5 := by rw [e1, upd_ne (by decide)]
  obtain ⟨v2, e2, hf⟩ := m_bndE hf
  have t2 : v2.toInt = 1 - (I1 5).toInt := ti_sub e2 (show (1 : Int32).toInt = 1 from rfl) rfl (by rw [j5]; omega) (by rw [j5]; omega)
  have q2 : v2.toInt = (g : Int) := by rw [t2, j5]; omega
  obtain ⟨⟨r3, Ic3, Ac3⟩, h_r3, hf⟩ := m_clE hf
  dsimp only at hf
  obtain ⟨hI3, hA3, -⟩ := ok_of (t_clearGame2 (gg := g) (x1 := v2) hI1 hA (by omega) q2) h_r3
  obtain ⟨a1, a2, a3⟩ := v_clearGame hg q2 h_r3
  have fc := fw_clearGame h_r3
  dsimp only at a1 a2 a3 hI3 hA3 fc
  obtain ⟨⟨r4, Ic4, Ac4⟩, h_r4, hf⟩ := m_clE hf
  dsimp only at hf
  obtain ⟨hI4, hA4, h29⟩ := ok_of (t_usual (x1 := v2) hI3 hA3 (by omega)) h_r4
  have sp4 := v_usual hg q2 h_r4
  have fu := fw_usual h_r4
  dsimp only at hI4 hA4 h29 sp4 fu
  have tr4 : TRr Ac4 g T00 := trr_e hg (Nat.zero_le _) a2 (by rw [fu.2 7 (by decide)]) (fun j hj => fu.2 j (by simp only [List.mem_cons, List.not_mem_nil, or_false]; omega))
  have tg4 : TGr Ac4 (g : Int) [] := tgr_e a3 (fun j j1 j2 => fu.2 j (by simp only [List.mem_cons, List.not_mem_nil, or_false]; omega))
  have k1 : ∀ j, j ≠ 0 → j ∉ [25, 26, 27, 28, 29] → Ic4 j = I j := fun j h0 hj => by
    rw [fu.1 j hj, a1, e1, upd_ne h0]
  have k2 : Ac4 2 = A 2 := by rw [fu.2 2 (by decide), fc.2 2 (by decide)]
  have c4 : txR Ic4 Ac4 = ch := by
    rw [← hc]
    funext i
    unfold txR
    rw [k1 1 (by decide) (by decide), k2]
  obtain ⟨⟨r5, Ic5, Ac5⟩, h_r5, hf⟩ := m_clE hf
  dsimp only at hf
  have fg := fw_readGame h_r5
  dsimp only at fg
  rcases v_readGame hI4 hA4 c4 (by rw [k1 1 (by decide) (by decide)]; exact hn) hN hcb hg (by omega) tg4 sp4 tr4 q2 h_r5 with ⟨L, st, T, r, b1, b2, b3⟩ | ⟨b1, b2⟩
  · dsimp only at b2 b3
    rcases m_ifE hf with ⟨-, hf⟩ | ⟨c1, hf⟩
    · obtain ⟨I6, e6, hf⟩ := m_bndE hf
      obtain ⟨I7, e7, hf⟩ := m_bndE hf
      obtain ⟨I8, e8, hf⟩ := m_bndE hf
      obtain ⟨d1, d2, d3⟩ := rd_47 hf
      refine Or.inl ⟨L, st, T, r, b1, by rw [d1]; exact b2, ?_, ?_, ?_, gmr_e hg b3 (fun j hj => d3 j (by simp only [List.mem_cons, List.not_mem_nil, or_false]; omega))⟩
      · rw [d2 1 (by decide), e8, upd_self]; rfl
      · rw [d2 5 (by decide), e8, upd_ne (by decide), e7, upd_ne (by decide), e6, upd_self]; exact q2
      · rw [d2 6 (by decide), e8, upd_ne (by decide), e7, upd_self]; rfl
    · exact absurd (i32_of b2) c1
  · dsimp only at b2
    rcases m_ifE hf with ⟨c1, hf⟩ | ⟨-, hf⟩
    · rw [c1] at b2; exact absurd b2 (by decide)
    · obtain ⟨d1, d2, d3⟩ := rd_47 hf
      refine Or.inr ⟨b1, by rw [d1]; exact b2, ?_, ?_, ?_, ?_⟩
      · rw [d2 1 (by decide), fg.1 1 (by decide), k1 1 (by decide) (by decide)]
      · rw [d3 2 (by decide), fg.2 2 (by decide), k2]
      · rw [d2 5 (by decide), fg.1 5 (by decide), k1 5 (by decide) (by decide)]
      · rw [d2 6 (by decide), fg.1 6 (by decide), k1 6 (by decide) (by decide)]
end RDR
