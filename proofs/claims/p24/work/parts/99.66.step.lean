/-- what holds between two calls: both sides' invariants, the room, and what both sides tell of the same -/
noncomputable def RRd (j c t : Nat) (I : Nat → Int32) (A : Nat → Nat → Int32) (S : ZS) : Prop := j ≤ 48 ∧ RIt I A ∧ CI S 1 ∧ 8 * c + PS S + 8 * (48 - j) ≤ 4800000 ∧ t + 2 * PS S + 6 * (48 - j) ≤ 7300000 ∧ ST I A S
theorem rr_room {j c t : Nat} {I : Nat → Int32} {A : Nat → Nat → Int32} {S S' : ZS} (h : RRd j c t I A S) (hj : j < 48) (hW : RW S S') : c + (zt S' - zt S) ≤ room_1.cells ∧ t + (zu S' - zu S) ≤ room_1.slots := by
  obtain ⟨w1, w2, w3, w4⟩ := hW
  obtain ⟨-, -, -, h4, h5, -⟩ := h
  have e1 : room_1.cells = 600096 := rfl
  have e2 : room_1.slots = 7301386 := rfl
  rw [e1, e2]
  omega
theorem rr_step {j c t : Nat} {I I' : Nat → Int32} {A A' : Nat → Nat → Int32} {S S' S2 : ZS} (h : RRd j c t I A S) (hj : j < 48) (hI : RIt I' A') (hC : CI S2 1) (hW : RW S S') (hP : PS S2 = PS S') (hs : ST I' A' S2) : RRd (j + 1) (c + (zt S' - zt S)) (t + (zu S' - zu S)) I' A' S2 := by
  obtain ⟨w1, w2, w3, w4⟩ := hW
  obtain ⟨-, -, hC0, h4, h5, h6⟩ := h
  refine ⟨by omega, hI, hC, ?_, ?_, hs⟩
  · rw [hP]; omega
  · rw [hP]; omega
theorem rr_g {j c t : Nat} {I : Nat → Int32} {A : Nat → Nat → Int32} {S : ZS} (h : RRd j c t I A S) : CG S := cg_of h.2.2.1.1 h.2.2.1.2.2.1 h.2.2.2.2.2.1.1.1.1
theorem sm_V {I : Nat → Int32} {A : Nat → Nat → Int32} {S : ZS} {j : Nat} (h : ST I A (zsQ S)) : ST I A (zsV (zsQ S) j) := sT_c (S := zsQ S) rfl rfl rfl rfl rfl rfl h
theorem sm_Q {I : Nat → Int32} {A : Nat → Nat → Int32} {S : ZS} (h : SM I A S) : SM I A (zsQ S) := sm_c (S := S) rfl rfl rfl rfl rfl rfl h
theorem rc_w {S S' : ZS} {k : Nat} {v : Int32} (h : RC S 1 ((k, v), S')) : RW S S' := by
  rcases h with ⟨-, -, w, -⟩ | ⟨-, S1, -, -, w, -⟩
  · exact w
  · exact w
theorem rcs_w {S S' : ZS} {k : Nat} {v : Int32} (h : RCs S 1 ((k, v), S')) : RW S S' := by
  rcases h with ⟨-, -, w, -⟩ | ⟨-, S1, -, -, w, -⟩
  · exact w
  · exact w
theorem end_k {x1 v : Int32} {k : Nat} {S S' : ZS} (hf : d_X11_end 1 x1 S = some ((k, v), S')) : (k = 0 ∧ 0 ≤ x1.toInt ∧ x1.toInt ≤ 3) ∨ (k = 1 ∧ (x1.toInt < 0 ∨ 3 < x1.toInt)) := by
  have hf : d_X11_end_0 1 x1 S = some ((k, v), S') := hf
  have z0 : (0 : Int32).toInt = 0 := rfl
  have z4 : (4 : Int32).toInt = 4 := rfl
  unfold d_X11_end_0 at hf
  rcases m_ifE hf with ⟨c, hf⟩ | ⟨c, hf⟩
  · have := ti_ltP (a := x1) (b := 0) c rfl rfl
    unfold d_X11_end_9 at hf
    cases hf
    exact Or.inr ⟨rfl, by omega⟩
  · replace c := ti_ltN (a := x1) (b := 0) c rfl rfl
    rcases m_ifE hf with ⟨c2, hf⟩ | ⟨c2, hf⟩
    · have := ti_ltP (a := x1) (b := (4 : Int32)) c2 rfl rfl
      obtain ⟨-, hf⟩ := m_chkE hf
      obtain ⟨b1, -, hf⟩ := m_calE hf
      obtain ⟨-, hf⟩ := m_chkE hf
      obtain ⟨S2, -, hf⟩ := m_bndE hf
      cases hf
      exact Or.inl ⟨rfl, by omega⟩
    · have := ti_ltN (a := x1) (b := (4 : Int32)) c2 rfl rfl
      unfold d_X11_end_9 at hf
      cases hf
      exact Or.inr ⟨rfl, by omega⟩

theorem st_type {j c t : Nat} {v1 v2 v3 : Int32} {I : Nat → Int32} {A : Nat → Nat → Int32} {S : ZS} (h : RRd j c t I A S) (hj : j < 48) : PS_type (RRd (j + 1)) c t v1 v2 v3 I A S := by
  obtain ⟨o2, h2, r2⟩ : Ok (f_type (lw v1 v2) v3 I A) (fun o => RIt o.2.1 o.2.2) := ri_type h.2.1
  have g5 := (fw_type h2).1 5 (by decide)
  have g18 := (fw_type h2).2 18 (by decide)
  have g23 := (fw_type h2).2 23 (by decide)
  obtain ⟨o, ho, hC, hW, hX⟩ : Ok (d_X11_type 1 (lw v1 v2) v3 S) (fun o => CI o.2 1 ∧ RW S o.2 ∧ ∀ w, zP S 0 1 = some w → (zI o.2 1 w).toInt ≤ (zI S 1 w).toInt + 8) := ci_type h.2.2.1
  obtain ⟨han, hs⟩ := sm_type (rr_g h) h.2.2.2.2.2.1.1 h2 ho
  exact ⟨zt o.2 - zt S, zu o.2 - zu S, rr_room h hj hW, o2, h2, (tt_X11_type (Pw := fun r S1 => RRd (j + 1) (c + (zt o.2 - zt S)) (t + (zu o.2 - zu S)) o2.2.1 o2.2.2 S1) o ho).2 _ _ (by omega) (by omega) (rr_step h hj r2 hC hW rfl (sT_gen h.2.2.2.2.2 (sr_z h.2.2.2.2.2.1 (hs) (fz_X11_type ho) h.2.2.1.1.2.2.2.2.1 (by decide) g5 g18 g23) (fr_7 h.2.2.2.2.2.1.1.1 (fz_X11_type ho) h.2.2.1.1.2.2.2.2.1 (by decide)) (fun g L p7 hg tg => tgk_type (rr_g h) h.2.2.2.2.2.1.1 hg tg ho) ((fw_type h2).1 5 (by decide)) (fun j j1 j2 => (fw_type h2).2 j (by intro hm; first | (cases hm; done) | (simp only [List.mem_cons, List.not_mem_nil, or_false] at hm; omega)))))⟩
theorem st_cut {j c t : Nat} {v1 v2 v3 : Int32} {I : Nat → Int32} {A : Nat → Nat → Int32} {S : ZS} (h : RRd j c t I A S) (hj : j < 48) : PS_cut (RRd (j + 1)) c t v1 v2 v3 I A S := by
  obtain ⟨o2, h2, r2⟩ : Ok (f_cut v1 I A) (fun o => RIt o.2.1 o.2.2) := ri_cut h.2.1
  have g5 := (fw_cut h2).1 5 (by decide)
  have g18 := (fw_cut h2).2 18 (by decide)
  have g23 := (fw_cut h2).2 23 (by decide)
  obtain ⟨o, ho, hC, hW, hX⟩ : Ok (f_X11_cut 1 v1 S) (fun o => CI o.2 1 ∧ RW S o.2 ∧ CX S 1 v1 o) := ci_cut h.2.2.1
  obtain ⟨han, hs⟩ := sm_cut (rr_g h) h.2.2.2.2.2.1.1 h2 ho
  exact ⟨zt o.2 - zt S, zu o.2 - zu S, rr_room h hj hW, o, o2, h2, ho, rr_step h hj r2 hC hW rfl (sT_gen h.2.2.2.2.2 (sr_z h.2.2.2.2.2.1 (hs) (fz_X11_cut ho) h.2.2.1.1.2.2.2.2.1 (by decide) g5 g18 g23) (fr_7 h.2.2.2.2.2.1.1.1 (fz_X11_cut ho) h.2.2.1.1.2.2.2.2.1 (by decide)) (fun g L p7 hg tg => tgk_cut (rr_g h) h.2.2.2.2.2.1.1 hg tg ho) ((fw_cut h2).1 5 (by decide)) (fun j j1 j2 => (fw_cut h2).2 j (by intro hm; first | (cases hm; done) | (simp only [List.mem_cons, List.not_mem_nil, or_false] at hm; omega))))⟩
theorem st_read {j c t : Nat} {v1 v2 v3 : Int32} {I : Nat → Int32} {A : Nat → Nat → Int32} {S : ZS} (h : RRd j c t I A S) (hj : j < 48) : PS_read (RRd (j + 1)) c t v1 v2 v3 I A S := by
  obtain ⟨o2, h2, r2⟩ : Ok (f_read I A) (fun o => RIt o.2.1 o.2.2) := ri_read h.2.1
  obtain ⟨o, ho, hC, hW, hX⟩ : Ok (d_X11_read 1 S) (fun o => CI o.2 1 ∧ RW S o.2 ∧ (XR S o.2 ∨ ∃ b, zP o.2 0 1 = some b ∧ (zI o.2 1 b).toInt ≤ 0)) := ci_read h.2.2.1
  have hs := sT_read (rr_g h) h.2.1.1 h.2.1.2.1 h.2.2.2.2.2 h2 ho
  exact ⟨zt o.2 - zt S, zu o.2 - zu S, rr_room h hj hW, o2, h2, (tt_X11_read (Pw := fun r S1 => RRd (j + 1) (c + (zt o.2 - zt S)) (t + (zu o.2 - zu S)) o2.2.1 o2.2.2 S1) o ho).2 _ _ (by omega) (by omega) (rr_step h hj r2 hC hW rfl hs)⟩
theorem st_find {j c t : Nat} {v1 v2 v3 : Int32} {I : Nat → Int32} {A : Nat → Nat → Int32} {S : ZS} (h : RRd j c t I A S) (hj : j < 48) : PS_find (RRd (j + 1)) c t v1 v2 v3 I A S := by
  obtain ⟨o2, h2, r2⟩ : Ok (f_find I A) (fun o => RIt o.2.1 o.2.2) := ri_find h.2.1
  have g1 := (fw_find h2).1 1 (by decide)
  have g2 := (fw_find h2).2 2 (by decide)
  have g5 := (fw_find h2).1 5 (by decide)
  have g18 := (fw_find h2).2 18 (by decide)
  have g23 := (fw_find h2).2 23 (by decide)
  obtain ⟨o, ho, hC, hW, hX⟩ : Ok (d_X11_find 1 S) (fun o => CI o.2 1 ∧ RW S o.2 ∧ XR S o.2) := ci_find h.2.2.1
  have hs : SM o2.2.1 o2.2.2 o.2 := sm_z h.2.2.2.2.2.1.1 h.2.2.1.1 (fz_X11_find ho) (by decide) hX g1 g2
  exact ⟨zt o.2 - zt S, zu o.2 - zu S, rr_room h hj hW, o2, h2, (tt_X11_find (Pw := fun r S1 => RRd (j + 1) (c + (zt o.2 - zt S)) (t + (zu o.2 - zu S)) o2.2.1 o2.2.2 S1) o ho).2 _ _ (by omega) (by omega) (rr_step h hj r2 hC hW rfl (sT_gen h.2.2.2.2.2 (sr_z h.2.2.2.2.2.1 (hs) (fz_X11_find ho) h.2.2.1.1.2.2.2.2.1 (by decide) g5 g18 g23) (fr_7 h.2.2.2.2.2.1.1.1 (fz_X11_find ho) h.2.2.1.1.2.2.2.2.1 (by decide)) (fun g L p7 hg tg => tgk_ke h.2.2.2.2.2.1.1.1.1 hg tg (ke_X11_find (nq_sc h.2.2.1.1 h.2.2.2.2.2.1.1.1) (by decide) ho).2) ((fw_find h2).1 5 (by decide)) (fun j j1 j2 => (fw_find h2).2 j (by intro hm; first | (cases hm; done) | (simp only [List.mem_cons, List.not_mem_nil, or_false] at hm; omega)))))⟩
theorem st_write {j c t : Nat} {v1 v2 v3 : Int32} {I : Nat → Int32} {A : Nat → Nat → Int32} {S : ZS} (h : RRd j c t I A S) (hj : j < 48) : PS_write (RRd (j + 1)) c t v1 v2 v3 I A S := by
  obtain ⟨o2, h2, r2⟩ : Ok (f_write I A) (fun o => RIt o.2.1 o.2.2) := ri_write h.2.1
  have g1 := (fw_write h2).1 1 (by decide)
  have g2 := (fw_write h2).2 2 (by decide)
  have g5 := (fw_write h2).1 5 (by decide)
  have g18 := (fw_write h2).2 18 (by decide)
  have g23 := (fw_write h2).2 23 (by decide)
  obtain ⟨o, ho, hC, hW, hX⟩ : Ok (d_X11_write 1 S) (fun o => CI o.2 1 ∧ RW S o.2 ∧ XR S o.2) := ci_write h.2.2.1
  have hs : SM o2.2.1 o2.2.2 o.2 := sm_z h.2.2.2.2.2.1.1 h.2.2.1.1 (fy_X11_write ho) (by decide) hX g1 g2
  exact ⟨zt o.2 - zt S, zu o.2 - zu S, rr_room h hj hW, o2, h2, (tt_X11_write (Pw := fun r S1 => RRd (j + 1) (c + (zt o.2 - zt S)) (t + (zu o.2 - zu S)) o2.2.1 o2.2.2 S1) o ho).2 _ _ (by omega) (by omega) (rr_step h hj r2 hC hW rfl (sT_gen h.2.2.2.2.2 (sr_z h.2.2.2.2.2.1 (hs) (fz_X11_write ho) h.2.2.1.1.2.2.2.2.1 (by decide) g5 g18 g23) (fr_7 h.2.2.2.2.2.1.1.1 (fz_X11_write ho) h.2.2.1.1.2.2.2.2.1 (by decide)) (fun g L p7 hg tg => tgk_ke h.2.2.2.2.2.1.1.1.1 hg tg (ke_X11_write (nq_sc h.2.2.1.1 h.2.2.2.2.2.1.1.1) (by decide) ho).2) ((fw_write h2).1 5 (by decide)) (fun j j1 j2 => (fw_write h2).2 j (by intro hm; first | (cases hm; done) | (simp only [List.mem_cons, List.not_mem_nil, or_false] at hm; omega)))))⟩
theorem st_signs {j c t : Nat} {v1 v2 v3 : Int32} {I : Nat → Int32} {A : Nat → Nat → Int32} {S : ZS} (h : RRd j c t I A S) (hj : j < 48) : PS_signs (RRd (j + 1)) c t v1 v2 v3 I A S := by
  obtain ⟨o2, h2, r2⟩ : Ok (f_signs v1 I A) (fun o => RIt o.2.1 o.2.2) := ri_signs h.2.1
  have g1 := (fw_signs h2).1 1 (by decide)
  have g2 := (fw_signs h2).2 2 (by decide)
  have g5 := (fw_signs h2).1 5 (by decide)
  have g18 := (fw_signs h2).2 18 (by decide)
  have g23 := (fw_signs h2).2 23 (by decide)
  obtain ⟨⟨⟨k, v⟩, S'⟩, ho, hC⟩ : Ok (d_X11_signs 1 v1 S) (RC S 1) := ci_signs h.2.2.1
  have hW := rc_w hC
  have sc : SC S' := sc_z h.2.2.2.2.2.1.1.1 h.2.2.1.1 (fz_X11_signs ho) (by decide)
  have kd := kd_X11_signs ho
  replace kd : k = 0 ∨ k = 1 := kd
  refine ⟨zt S' - zt S, zu S' - zu S, rr_room h hj hW, o2, h2, fun F => (tt_X11_signs _ ho).2 _ _ (by show zt S' ≤ _; omega) (by show zu S' ≤ _; omega) ⟨fun e => ?_, fun e jj => ?_⟩⟩
  · have e : k = 0 := e
    rcases hC with ⟨-, hC, -, hX⟩ | ⟨hn, -⟩
    · skip
      exact fun F1 _ => rr_step h hj r2 hC hW rfl (sT_gen h.2.2.2.2.2 (sr_z h.2.2.2.2.2.1 (sm_x h.2.2.2.2.2.1.1 sc hX g1 g2) (fz_X11_signs ho) h.2.2.1.1.2.2.2.2.1 (by decide) g5 g18 g23) (fr_7 h.2.2.2.2.2.1.1.1 (fz_X11_signs ho) h.2.2.1.1.2.2.2.2.1 (by decide)) (fun g L p7 hg tg => tgk_ke h.2.2.2.2.2.1.1.1.1 hg tg (ke_X11_signs (nq_sc h.2.2.1.1 h.2.2.2.2.2.1.1.1) (by decide) ho).2) ((fw_signs h2).1 5 (by decide)) (fun j j1 j2 => (fw_signs h2).2 j (by intro hm; first | (cases hm; done) | (simp only [List.mem_cons, List.not_mem_nil, or_false] at hm; omega))))
    · exact absurd e hn
  · have e : k ≠ 0 := e
    rcases hC with ⟨hn, -⟩ | ⟨-, S1, e1, hC, -, hX⟩
    · exact absurd hn e
    · have e1 : S' = zsQ S1 := e1
      subst e1
      have hs : SM o2.2.1 o2.2.2 (zsQ S1) := sm_x h.2.2.2.2.2.1.1 sc (show XR S (zsQ S1) from hX) g1 g2
      exact ⟨kd.resolve_left e, rr_step h hj r2 (ci_V hC) hW ((ps_V hC.1.2.2.2.2.1).trans (ps_Q hC.1).symm) (sm_V (sT_gen h.2.2.2.2.2 (sr_z h.2.2.2.2.2.1 (hs) (fz_X11_signs ho) h.2.2.1.1.2.2.2.2.1 (by decide) g5 g18 g23) (fr_7 h.2.2.2.2.2.1.1.1 (fz_X11_signs ho) h.2.2.1.1.2.2.2.2.1 (by decide)) (fun g L p7 hg tg => tgk_ke h.2.2.2.2.2.1.1.1.1 hg tg (ke_X11_signs (nq_sc h.2.2.1.1 h.2.2.2.2.2.1.1.1) (by decide) ho).2) ((fw_signs h2).1 5 (by decide)) (fun j j1 j2 => (fw_signs h2).2 j (by intro hm; first | (cases hm; done) | (simp only [List.mem_cons, List.not_mem_nil, or_false] at hm; omega)))))⟩
theorem st_out {j c t : Nat} {v1 v2 v3 : Int32} {I : Nat → Int32} {A : Nat → Nat → Int32} {S : ZS} (h : RRd j c t I A S) (hj : j < 48) : PS_out (RRd (j + 1)) c t v1 v2 v3 I A S := by
  obtain ⟨o2, h2, r2⟩ : Ok (f_out v1 I A) (fun o => RIt o.2.1 o.2.2) := ri_out h.2.1
  have g1 := (fw_out h2).1 1 (by decide)
  have g2 := (fw_out h2).2 2 (by decide)
  have g5 := (fw_out h2).1 5 (by decide)
  have g18 := (fw_out h2).2 18 (by decide)
  have g23 := (fw_out h2).2 23 (by decide)
  obtain ⟨o, ho, hC, hW, hX⟩ : Ok (f_X11_out 1 v1 S) (fun o => CI o.2 1 ∧ RW S o.2 ∧ XR S o.2) := ci_out h.2.2.1
  have hs : SM o2.2.1 o2.2.2 o.2 := sm_z h.2.2.2.2.2.1.1 h.2.2.1.1 (fz_X11_out ho) (by decide) hX g1 g2
  exact ⟨zt o.2 - zt S, zu o.2 - zu S, rr_room h hj hW, o, o2, h2, ho, rr_step h hj r2 hC hW rfl (sT_gen h.2.2.2.2.2 (sr_z h.2.2.2.2.2.1 (hs) (fz_X11_out ho) h.2.2.1.1.2.2.2.2.1 (by decide) g5 g18 g23) (fr_7 h.2.2.2.2.2.1.1.1 (fz_X11_out ho) h.2.2.1.1.2.2.2.2.1 (by decide)) (fun g L p7 hg tg => tgk_z h.2.2.1.1 h.2.2.2.2.2.1.1.1.1 hg tg (fz_X11_out ho) (fa_X11_out ho) (by decide) (by decide)) ((fw_out h2).1 5 (by decide)) (fun j j1 j2 => (fw_out h2).2 j (by intro hm; first | (cases hm; done) | (simp only [List.mem_cons, List.not_mem_nil, or_false] at hm; omega))))⟩
theorem st_nodes {j c t : Nat} {v1 v2 v3 : Int32} {I : Nat → Int32} {A : Nat → Nat → Int32} {S : ZS} (h : RRd j c t I A S) (hj : j < 48) : PS_nodes (RRd (j + 1)) c t v1 v2 v3 I A S := by
  obtain ⟨o2, h2, r2⟩ : Ok (f_nodes I A) (fun o => RIt o.2.1 o.2.2) := ri_nodes h.2.1
  have g1 := (fw_nodes h2).1 1 (by decide)
  have g2 := (fw_nodes h2).2 2 (by decide)
  have g5 := (fw_nodes h2).1 5 (by decide)
  have g18 := (fw_nodes h2).2 18 (by decide)
  have g23 := (fw_nodes h2).2 23 (by decide)
  obtain ⟨o, ho, hC, hW, hX⟩ : Ok (f_X11_nodes 1 S) (fun o => CI o.2 1 ∧ RW S o.2 ∧ XR S o.2) := ci_nodes h.2.2.1
  have hs : SM o2.2.1 o2.2.2 o.2 := sm_z h.2.2.2.2.2.1.1 h.2.2.1.1 (fz_X11_nodes ho) (by decide) hX g1 g2
  exact ⟨zt o.2 - zt S, zu o.2 - zu S, rr_room h hj hW, o, o2, h2, ho, rr_step h hj r2 hC hW rfl (sT_gen h.2.2.2.2.2 (sr_z h.2.2.2.2.2.1 (hs) (fz_X11_nodes ho) h.2.2.1.1.2.2.2.2.1 (by decide) g5 g18 g23) (fr_7 h.2.2.2.2.2.1.1.1 (fz_X11_nodes ho) h.2.2.1.1.2.2.2.2.1 (by decide)) (fun g L p7 hg tg => tgk_z h.2.2.1.1 h.2.2.2.2.2.1.1.1.1 hg tg (fz_X11_nodes ho) (fa_X11_nodes ho) (by decide) (by decide)) ((fw_nodes h2).1 5 (by decide)) (fun j j1 j2 => (fw_nodes h2).2 j (by intro hm; first | (cases hm; done) | (simp only [List.mem_cons, List.not_mem_nil, or_false] at hm; omega))))⟩
theorem st_node {j c t : Nat} {v1 v2 v3 : Int32} {I : Nat → Int32} {A : Nat → Nat → Int32} {S : ZS} (h : RRd j c t I A S) (hj : j < 48) : PS_node (RRd (j + 1)) c t v1 v2 v3 I A S := by
  obtain ⟨o2, h2, r2⟩ : Ok (f_node v1 v2 I A) (fun o => RIt o.2.1 o.2.2) := ri_node h.2.1
  have g1 := (fw_node h2).1 1 (by decide)
  have g2 := (fw_node h2).2 2 (by decide)
  have g5 := (fw_node h2).1 5 (by decide)
  have g18 := (fw_node h2).2 18 (by decide)
  have g23 := (fw_node h2).2 23 (by decide)
  obtain ⟨⟨⟨k, v⟩, S'⟩, ho, hC⟩ : Ok (d_X11_node 1 v1 v2 S) (RC S 1) := ci_node h.2.2.1
  have hW := rc_w hC
  have sc : SC S' := sc_z h.2.2.2.2.2.1.1.1 h.2.2.1.1 (fz_X11_node ho) (by decide)
  have kd := kd_X11_node ho
  replace kd : k = 0 ∨ k = 2 := kd
  refine ⟨zt S' - zt S, zu S' - zu S, rr_room h hj hW, o2, h2, fun F => (tt_X11_node _ ho).2 _ _ (by show zt S' ≤ _; omega) (by show zu S' ≤ _; omega) ⟨fun e => ?_, fun e jj => ?_⟩⟩
  · have e : k = 0 := e
    rcases hC with ⟨-, hC, -, hX⟩ | ⟨hn, -⟩
    · skip
      exact fun F1 _ => rr_step h hj r2 hC hW rfl (sT_gen h.2.2.2.2.2 (sr_z h.2.2.2.2.2.1 (sm_x h.2.2.2.2.2.1.1 sc hX g1 g2) (fz_X11_node ho) h.2.2.1.1.2.2.2.2.1 (by decide) g5 g18 g23) (fr_7 h.2.2.2.2.2.1.1.1 (fz_X11_node ho) h.2.2.1.1.2.2.2.2.1 (by decide)) (fun g L p7 hg tg => tgk_z h.2.2.1.1 h.2.2.2.2.2.1.1.1.1 hg tg (fz_X11_node ho) (fa_X11_node ho) (by decide) (by decide)) ((fw_node h2).1 5 (by decide)) (fun j j1 j2 => (fw_node h2).2 j (by intro hm; first | (cases hm; done) | (simp only [List.mem_cons, List.not_mem_nil, or_false] at hm; omega))))
    · exact absurd e hn
  · have e : k ≠ 0 := e
    rcases hC with ⟨hn, -⟩ | ⟨-, S1, e1, hC, -, hX⟩
    · exact absurd hn e
    · have e1 : S' = zsQ S1 := e1
      subst e1
      have hs : SM o2.2.1 o2.2.2 (zsQ S1) := sm_x h.2.2.2.2.2.1.1 sc (show XR S (zsQ S1) from hX) g1 g2
      exact ⟨kd.resolve_left e, rr_step h hj r2 (ci_V hC) hW ((ps_V hC.1.2.2.2.2.1).trans (ps_Q hC.1).symm) (sm_V (sT_gen h.2.2.2.2.2 (sr_z h.2.2.2.2.2.1 (hs) (fz_X11_node ho) h.2.2.1.1.2.2.2.2.1 (by decide) g5 g18 g23) (fr_7 h.2.2.2.2.2.1.1.1 (fz_X11_node ho) h.2.2.1.1.2.2.2.2.1 (by decide)) (fun g L p7 hg tg => tgk_z h.2.2.1.1 h.2.2.2.2.2.1.1.1.1 hg tg (fz_X11_node ho) (fa_X11_node ho) (by decide) (by decide)) ((fw_node h2).1 5 (by decide)) (fun j j1 j2 => (fw_node h2).2 j (by intro hm; first | (cases hm; done) | (simp only [List.mem_cons, List.not_mem_nil, or_false] at hm; omega)))))⟩
theorem st_mark {j c t : Nat} {v1 v2 v3 : Int32} {I : Nat → Int32} {A : Nat → Nat → Int32} {S : ZS} (h : RRd j c t I A S) (hj : j < 48) : PS_mark (RRd (j + 1)) c t v1 v2 v3 I A S := by
  obtain ⟨o2, h2, r2⟩ : Ok (f_mark v1 v2 I A) (fun o => RIt o.2.1 o.2.2) := ri_mark h.2.1
  have g1 := (fw_mark h2).1 1 (by decide)
  have g2 := (fw_mark h2).2 2 (by decide)
  have g5 := (fw_mark h2).1 5 (by decide)
  have g18 := (fw_mark h2).2 18 (by decide)
  have g23 := (fw_mark h2).2 23 (by decide)
  obtain ⟨⟨⟨k, v⟩, S'⟩, ho, hC⟩ : Ok (d_X11_mark 1 v1 v2 S) (RC S 1) := ci_mark h.2.2.1
  have hW := rc_w hC
  have sc : SC S' := sc_z h.2.2.2.2.2.1.1.1 h.2.2.1.1 (fz_X11_mark ho) (by decide)
  have kd := kd_X11_mark ho
  replace kd : k = 0 ∨ k = 2 := kd
  refine ⟨zt S' - zt S, zu S' - zu S, rr_room h hj hW, o2, h2, fun F => (tt_X11_mark _ ho).2 _ _ (by show zt S' ≤ _; omega) (by show zu S' ≤ _; omega) ⟨fun e => ?_, fun e jj => ?_⟩⟩
  · have e : k = 0 := e
    rcases hC with ⟨-, hC, -, hX⟩ | ⟨hn, -⟩
    · skip
      exact fun F1 _ => rr_step h hj r2 hC hW rfl (sT_gen h.2.2.2.2.2 (sr_z h.2.2.2.2.2.1 (sm_x h.2.2.2.2.2.1.1 sc hX g1 g2) (fz_X11_mark ho) h.2.2.1.1.2.2.2.2.1 (by decide) g5 g18 g23) (fr_7 h.2.2.2.2.2.1.1.1 (fz_X11_mark ho) h.2.2.1.1.2.2.2.2.1 (by decide)) (fun g L p7 hg tg => tgk_z h.2.2.1.1 h.2.2.2.2.2.1.1.1.1 hg tg (fz_X11_mark ho) (fa_X11_mark ho) (by decide) (by decide)) ((fw_mark h2).1 5 (by decide)) (fun j j1 j2 => (fw_mark h2).2 j (by intro hm; first | (cases hm; done) | (simp only [List.mem_cons, List.not_mem_nil, or_false] at hm; omega))))
    · exact absurd e hn
  · have e : k ≠ 0 := e
    rcases hC with ⟨hn, -⟩ | ⟨-, S1, e1, hC, -, hX⟩
    · exact absurd hn e
    · have e1 : S' = zsQ S1 := e1
      subst e1
      have hs : SM o2.2.1 o2.2.2 (zsQ S1) := sm_x h.2.2.2.2.2.1.1 sc (show XR S (zsQ S1) from hX) g1 g2
      exact ⟨kd.resolve_left e, rr_step h hj r2 (ci_V hC) hW ((ps_V hC.1.2.2.2.2.1).trans (ps_Q hC.1).symm) (sm_V (sT_gen h.2.2.2.2.2 (sr_z h.2.2.2.2.2.1 (hs) (fz_X11_mark ho) h.2.2.1.1.2.2.2.2.1 (by decide) g5 g18 g23) (fr_7 h.2.2.2.2.2.1.1.1 (fz_X11_mark ho) h.2.2.1.1.2.2.2.2.1 (by decide)) (fun g L p7 hg tg => tgk_z h.2.2.1.1 h.2.2.2.2.2.1.1.1.1 hg tg (fz_X11_mark ho) (fa_X11_mark ho) (by decide) (by decide)) ((fw_mark h2).1 5 (by decide)) (fun j j1 j2 => (fw_mark h2).2 j (by intro hm; first | (cases hm; done) | (simp only [List.mem_cons, List.not_mem_nil, or_false] at hm; omega)))))⟩
theorem st_remark {j c t : Nat} {v1 v2 v3 : Int32} {I : Nat → Int32} {A : Nat → Nat → Int32} {S : ZS} (h : RRd j c t I A S) (hj : j < 48) : PS_remark (RRd (j + 1)) c t v1 v2 v3 I A S := by
  obtain ⟨o2, h2, r2⟩ : Ok (f_remark v1 v2 I A) (fun o => RIt o.2.1 o.2.2) := ri_remark h.2.1
  have g1 := (fw_remark h2).1 1 (by decide)
  have g2 := (fw_remark h2).2 2 (by decide)
  have g5 := (fw_remark h2).1 5 (by decide)
  have g18 := (fw_remark h2).2 18 (by decide)
  have g23 := (fw_remark h2).2 23 (by decide)
  obtain ⟨⟨⟨k, v⟩, S'⟩, ho, hC⟩ : Ok (d_X11_remark 1 v1 v2 S) (RC S 1) := ci_remark h.2.2.1
  have hW := rc_w hC
  have sc : SC S' := sc_z h.2.2.2.2.2.1.1.1 h.2.2.1.1 (fz_X11_remark ho) (by decide)
  have kd := kd_X11_remark ho
  replace kd : k = 0 ∨ k = 2 := kd
  refine ⟨zt S' - zt S, zu S' - zu S, rr_room h hj hW, o2, h2, fun F => (tt_X11_remark _ ho).2 _ _ (by show zt S' ≤ _; omega) (by show zu S' ≤ _; omega) ⟨fun e => ?_, fun e jj => ?_⟩⟩
  · have e : k = 0 := e
    rcases hC with ⟨-, hC, -, hX⟩ | ⟨hn, -⟩
    · skip
      exact fun F1 _ => rr_step h hj r2 hC hW rfl (sT_gen h.2.2.2.2.2 (sr_z h.2.2.2.2.2.1 (sm_x h.2.2.2.2.2.1.1 sc hX g1 g2) (fz_X11_remark ho) h.2.2.1.1.2.2.2.2.1 (by decide) g5 g18 g23) (fr_7 h.2.2.2.2.2.1.1.1 (fz_X11_remark ho) h.2.2.1.1.2.2.2.2.1 (by decide)) (fun g L p7 hg tg => tgk_z h.2.2.1.1 h.2.2.2.2.2.1.1.1.1 hg tg (fz_X11_remark ho) (fa_X11_remark ho) (by decide) (by decide)) ((fw_remark h2).1 5 (by decide)) (fun j j1 j2 => (fw_remark h2).2 j (by intro hm; first | (cases hm; done) | (simp only [List.mem_cons, List.not_mem_nil, or_false] at hm; omega))))
    · exact absurd e hn
  · have e : k ≠ 0 := e
    rcases hC with ⟨hn, -⟩ | ⟨-, S1, e1, hC, -, hX⟩
    · exact absurd hn e
    · have e1 : S' = zsQ S1 := e1
      subst e1
      have hs : SM o2.2.1 o2.2.2 (zsQ S1) := sm_x h.2.2.2.2.2.1.1 sc (show XR S (zsQ S1) from hX) g1 g2
      exact ⟨kd.resolve_left e, rr_step h hj r2 (ci_V hC) hW ((ps_V hC.1.2.2.2.2.1).trans (ps_Q hC.1).symm) (sm_V (sT_gen h.2.2.2.2.2 (sr_z h.2.2.2.2.2.1 (hs) (fz_X11_remark ho) h.2.2.1.1.2.2.2.2.1 (by decide) g5 g18 g23) (fr_7 h.2.2.2.2.2.1.1.1 (fz_X11_remark ho) h.2.2.1.1.2.2.2.2.1 (by decide)) (fun g L p7 hg tg => tgk_z h.2.2.1.1 h.2.2.2.2.2.1.1.1.1 hg tg (fz_X11_remark ho) (fa_X11_remark ho) (by decide) (by decide)) ((fw_remark h2).1 5 (by decide)) (fun j j1 j2 => (fw_remark h2).2 j (by intro hm; first | (cases hm; done) | (simp only [List.mem_cons, List.not_mem_nil, or_false] at hm; omega)))))⟩
theorem st_here {j c t : Nat} {v1 v2 v3 : Int32} {I : Nat → Int32} {A : Nat → Nat → Int32} {S : ZS} (h : RRd j c t I A S) (hj : j < 48) : PS_here (RRd (j + 1)) c t v1 v2 v3 I A S := by
  obtain ⟨o2, h2, r2⟩ : Ok (f_here I A) (fun o => RIt o.2.1 o.2.2) := ri_here h.2.1
  have g1 := (fw_here h2).1 1 (by decide)
  have g2 := (fw_here h2).2 2 (by decide)
  have g5 := (fw_here h2).1 5 (by decide)
  have g18 := (fw_here h2).2 18 (by decide)
  have g23 := (fw_here h2).2 23 (by decide)
  obtain ⟨o, ho, hC, hW, hX⟩ : Ok (f_X11_here 1 S) (fun o => CI o.2 1 ∧ RW S o.2 ∧ XR S o.2) := ci_here h.2.2.1
  have hs : SM o2.2.1 o2.2.2 o.2 := sm_z h.2.2.2.2.2.1.1 h.2.2.1.1 (fz_X11_here ho) (by decide) hX g1 g2
  exact ⟨zt o.2 - zt S, zu o.2 - zu S, rr_room h hj hW, o, o2, h2, ho, rr_step h hj r2 hC hW rfl (sT_gen h.2.2.2.2.2 (sr_z h.2.2.2.2.2.1 (hs) (fz_X11_here ho) h.2.2.1.1.2.2.2.2.1 (by decide) g5 g18 g23) (fr_7 h.2.2.2.2.2.1.1.1 (fz_X11_here ho) h.2.2.1.1.2.2.2.2.1 (by decide)) (fun g L p7 hg tg => tgk_z h.2.2.1.1 h.2.2.2.2.2.1.1.1.1 hg tg (fz_X11_here ho) (fa_X11_here ho) (by decide) (by decide)) ((fw_here h2).1 5 (by decide)) (fun j j1 j2 => (fw_here h2).2 j (by intro hm; first | (cases hm; done) | (simp only [List.mem_cons, List.not_mem_nil, or_false] at hm; omega))))⟩
theorem st_go {j c t : Nat} {v1 v2 v3 : Int32} {I : Nat → Int32} {A : Nat → Nat → Int32} {S : ZS} (h : RRd j c t I A S) (hj : j < 48) : PS_go (RRd (j + 1)) c t v1 v2 v3 I A S := by
  obtain ⟨o2, h2, r2⟩ : Ok (f_go v1 I A) (fun o => RIt o.2.1 o.2.2) := ri_go h.2.1
  have g1 := (fw_go h2).1 1 (by decide)
  have g2 := (fw_go h2).2 2 (by decide)
  have g5 := (fw_go h2).1 5 (by decide)
  have g18 := (fw_go h2).2 18 (by decide)
  have g23 := (fw_go h2).2 23 (by decide)
  obtain ⟨⟨⟨k, v⟩, S'⟩, ho, hC⟩ : Ok (d_X11_go 1 v1 S) (RC S 1) := ci_go h.2.2.1
  have hW := rc_w hC
  have sc : SC S' := sc_z h.2.2.2.2.2.1.1.1 h.2.2.1.1 (fz_X11_go ho) (by decide)
  have kd := kd_X11_go ho
  replace kd : k = 0 ∨ k = 2 := kd
  refine ⟨zt S' - zt S, zu S' - zu S, rr_room h hj hW, o2, h2, fun F => (tt_X11_go _ ho).2 _ _ (by show zt S' ≤ _; omega) (by show zu S' ≤ _; omega) ⟨fun e => ?_, fun e jj => ?_⟩⟩
  · have e : k = 0 := e
    rcases hC with ⟨-, hC, -, hX⟩ | ⟨hn, -⟩
    · skip
      exact rr_step h hj r2 hC hW rfl (sT_gen h.2.2.2.2.2 (sr_z h.2.2.2.2.2.1 (sm_x h.2.2.2.2.2.1.1 sc hX g1 g2) (fz_X11_go ho) h.2.2.1.1.2.2.2.2.1 (by decide) g5 g18 g23) (fr_7 h.2.2.2.2.2.1.1.1 (fz_X11_go ho) h.2.2.1.1.2.2.2.2.1 (by decide)) (fun g L p7 hg tg => tgk_z h.2.2.1.1 h.2.2.2.2.2.1.1.1.1 hg tg (fz_X11_go ho) (fa_X11_go ho) (by decide) (by decide)) ((fw_go h2).1 5 (by decide)) (fun j j1 j2 => (fw_go h2).2 j (by intro hm; first | (cases hm; done) | (simp only [List.mem_cons, List.not_mem_nil, or_false] at hm; omega))))
    · exact absurd e hn
  · have e : k ≠ 0 := e
    rcases hC with ⟨hn, -⟩ | ⟨-, S1, e1, hC, -, hX⟩
    · exact absurd hn e
    · have e1 : S' = zsQ S1 := e1
      subst e1
      have hs : SM o2.2.1 o2.2.2 (zsQ S1) := sm_x h.2.2.2.2.2.1.1 sc (show XR S (zsQ S1) from hX) g1 g2
      exact ⟨kd.resolve_left e, rr_step h hj r2 (ci_V hC) hW ((ps_V hC.1.2.2.2.2.1).trans (ps_Q hC.1).symm) (sm_V (sT_gen h.2.2.2.2.2 (sr_z h.2.2.2.2.2.1 (hs) (fz_X11_go ho) h.2.2.1.1.2.2.2.2.1 (by decide) g5 g18 g23) (fr_7 h.2.2.2.2.2.1.1.1 (fz_X11_go ho) h.2.2.1.1.2.2.2.2.1 (by decide)) (fun g L p7 hg tg => tgk_z h.2.2.1.1 h.2.2.2.2.2.1.1.1.1 hg tg (fz_X11_go ho) (fa_X11_go ho) (by decide) (by decide)) ((fw_go h2).1 5 (by decide)) (fun j j1 j2 => (fw_go h2).2 j (by intro hm; first | (cases hm; done) | (simp only [List.mem_cons, List.not_mem_nil, or_false] at hm; omega)))))⟩
theorem st_man {j c t : Nat} {v1 v2 v3 : Int32} {I : Nat → Int32} {A : Nat → Nat → Int32} {S : ZS} (h : RRd j c t I A S) (hj : j < 48) : PS_man (RRd (j + 1)) c t v1 v2 v3 I A S := by
  obtain ⟨o2, h2, r2⟩ : Ok (f_man v1 I A) (fun o => RIt o.2.1 o.2.2) := ri_man h.2.1
  have g1 := (fw_man h2).1 1 (by decide)
  have g2 := (fw_man h2).2 2 (by decide)
  have g5 := (fw_man h2).1 5 (by decide)
  have g18 := (fw_man h2).2 18 (by decide)
  have g23 := (fw_man h2).2 23 (by decide)
  obtain ⟨⟨⟨k, v⟩, S'⟩, ho, hC⟩ : Ok (d_X11_man 1 v1 S) (RC S 1) := ci_man h.2.2.1
  have hW := rc_w hC
  have sc : SC S' := sc_z h.2.2.2.2.2.1.1.1 h.2.2.1.1 (fz_X11_man ho) (by decide)
  have kd := kd_X11_man ho
  replace kd : k = 0 ∨ k = 2 := kd
  refine ⟨zt S' - zt S, zu S' - zu S, rr_room h hj hW, o2, h2, fun F => (tt_X11_man _ ho).2 _ _ (by show zt S' ≤ _; omega) (by show zu S' ≤ _; omega) ⟨fun e => ?_, fun e jj => ?_⟩⟩
  · have e : k = 0 := e
    rcases hC with ⟨-, hC, -, hX⟩ | ⟨hn, -⟩
    · skip
      exact fun F1 _ => rr_step h hj r2 hC hW rfl (sT_gen h.2.2.2.2.2 (sr_z h.2.2.2.2.2.1 (sm_x h.2.2.2.2.2.1.1 sc hX g1 g2) (fz_X11_man ho) h.2.2.1.1.2.2.2.2.1 (by decide) g5 g18 g23) (fr_7 h.2.2.2.2.2.1.1.1 (fz_X11_man ho) h.2.2.1.1.2.2.2.2.1 (by decide)) (fun g L p7 hg tg => tgk_z h.2.2.1.1 h.2.2.2.2.2.1.1.1.1 hg tg (fz_X11_man ho) (fa_X11_man ho) (by decide) (by decide)) ((fw_man h2).1 5 (by decide)) (fun j j1 j2 => (fw_man h2).2 j (by intro hm; first | (cases hm; done) | (simp only [List.mem_cons, List.not_mem_nil, or_false] at hm; omega))))
    · exact absurd e hn
  · have e : k ≠ 0 := e
    rcases hC with ⟨hn, -⟩ | ⟨-, S1, e1, hC, -, hX⟩
    · exact absurd hn e
    · have e1 : S' = zsQ S1 := e1
      subst e1
      have hs : SM o2.2.1 o2.2.2 (zsQ S1) := sm_x h.2.2.2.2.2.1.1 sc (show XR S (zsQ S1) from hX) g1 g2
      exact ⟨kd.resolve_left e, rr_step h hj r2 (ci_V hC) hW ((ps_V hC.1.2.2.2.2.1).trans (ps_Q hC.1).symm) (sm_V (sT_gen h.2.2.2.2.2 (sr_z h.2.2.2.2.2.1 (hs) (fz_X11_man ho) h.2.2.1.1.2.2.2.2.1 (by decide) g5 g18 g23) (fr_7 h.2.2.2.2.2.1.1.1 (fz_X11_man ho) h.2.2.1.1.2.2.2.2.1 (by decide)) (fun g L p7 hg tg => tgk_z h.2.2.1.1 h.2.2.2.2.2.1.1.1.1 hg tg (fz_X11_man ho) (fa_X11_man ho) (by decide) (by decide)) ((fw_man h2).1 5 (by decide)) (fun j j1 j2 => (fw_man h2).2 j (by intro hm; first | (cases hm; done) | (simp only [List.mem_cons, List.not_mem_nil, or_false] at hm; omega)))))⟩
theorem st_move {j c t : Nat} {v1 v2 v3 : Int32} {I : Nat → Int32} {A : Nat → Nat → Int32} {S : ZS} (h : RRd j c t I A S) (hj : j < 48) : PS_move (RRd (j + 1)) c t v1 v2 v3 I A S := by
  obtain ⟨o2, h2, r2⟩ : Ok (f_move v1 I A) (fun o => RIt o.2.1 o.2.2) := ri_move h.2.1
  have g1 := (fw_move h2).1 1 (by decide)
  have g2 := (fw_move h2).2 2 (by decide)
  have g5 := (fw_move h2).1 5 (by decide)
  have g18 := (fw_move h2).2 18 (by decide)
  have g23 := (fw_move h2).2 23 (by decide)
  obtain ⟨o, ho, hC, hW, hX⟩ : Ok (f_X11_move 1 v1 S) (fun o => CI o.2 1 ∧ RW S o.2 ∧ XR S o.2) := ci_move h.2.2.1
  have hs : SM o2.2.1 o2.2.2 o.2 := sm_z h.2.2.2.2.2.1.1 h.2.2.1.1 (fz_X11_move ho) (by decide) hX g1 g2
  exact ⟨zt o.2 - zt S, zu o.2 - zu S, rr_room h hj hW, o, o2, h2, ho, rr_step h hj r2 hC hW rfl (sT_gen h.2.2.2.2.2 (sr_z h.2.2.2.2.2.1 (hs) (fz_X11_move ho) h.2.2.1.1.2.2.2.2.1 (by decide) g5 g18 g23) (fr_7 h.2.2.2.2.2.1.1.1 (fz_X11_move ho) h.2.2.1.1.2.2.2.2.1 (by decide)) (fun g L p7 hg tg => tgk_z h.2.2.1.1 h.2.2.2.2.2.1.1.1.1 hg tg (fz_X11_move ho) (fa_X11_move ho) (by decide) (by decide)) ((fw_move h2).1 5 (by decide)) (fun j j1 j2 => (fw_move h2).2 j (by intro hm; first | (cases hm; done) | (simp only [List.mem_cons, List.not_mem_nil, or_false] at hm; omega))))⟩
theorem st_add {j c t : Nat} {v1 v2 v3 : Int32} {I : Nat → Int32} {A : Nat → Nat → Int32} {S : ZS} (h : RRd j c t I A S) (hj : j < 48) : PS_add (RRd (j + 1)) c t v1 v2 v3 I A S := by
  obtain ⟨o2, h2, r2⟩ : Ok (f_add v1 I A) (fun o => RIt o.2.1 o.2.2) := ri_add h.2.1
  have g1 := (fw_add h2).1 1 (by decide)
  have g2 := (fw_add h2).2 2 (by decide)
  have g5 := (fw_add h2).1 5 (by decide)
  have g18 := (fw_add h2).2 18 (by decide)
  have g23 := (fw_add h2).2 23 (by decide)
  obtain ⟨⟨⟨k, v⟩, S'⟩, ho, hC⟩ : Ok (d_X11_add 1 v1 S) (RC S 1) := ci_add h.2.2.1
  have hW := rc_w hC
  have sc : SC S' := sc_add h.2.2.1.1 h.2.2.1.2.2.1 (fun q hq => by
    obtain ⟨g, g', rd, p7, -, -, -, hcur⟩ := h.2.2.1.2.2.2
    rw [p7] at hq
    cases hq
    exact hcur) h.2.2.2.2.2.1.1.1 ho
  have kd := kd_X11_add ho
  replace kd : k = 0 ∨ k = 1 ∨ k = 3 := kd
  refine ⟨zt S' - zt S, zu S' - zu S, rr_room h hj hW, o2, h2, fun F => (tt_X11_add _ ho).2 _ _ (by show zt S' ≤ _; omega) (by show zu S' ≤ _; omega) ⟨fun e => ?_, fun e jj => ?_⟩⟩
  · have e : k = 0 := e
    rcases hC with ⟨-, hC, -, hX⟩ | ⟨hn, -⟩
    · skip
      exact fun F1 _ => rr_step h hj r2 hC hW rfl (sT_gen h.2.2.2.2.2 (sr_z h.2.2.2.2.2.1 (sm_x h.2.2.2.2.2.1.1 sc hX g1 g2) (fz_X11_add ho) h.2.2.1.1.2.2.2.2.1 (by decide) g5 g18 g23) (fr_7 h.2.2.2.2.2.1.1.1 (fz_X11_add ho) h.2.2.1.1.2.2.2.2.1 (by decide)) (fun g L p7 hg tg => tgk_add h.2.2.1.1 h.2.2.1.2.2.1 (fun q hq => by
    obtain ⟨g, g', rd, p7, -, -, -, hcur⟩ := h.2.2.1.2.2.2
    rw [p7] at hq
    cases hq
    exact hcur) h.2.2.2.2.2.1.1.1 p7 tg ho) ((fw_add h2).1 5 (by decide)) (fun j j1 j2 => (fw_add h2).2 j (by intro hm; first | (cases hm; done) | (simp only [List.mem_cons, List.not_mem_nil, or_false] at hm; omega))))
    · exact absurd e hn
  · have e : k ≠ 0 := e
    rcases hC with ⟨hn, -⟩ | ⟨-, S1, e1, hC, -, hX⟩
    · exact absurd hn e
    · have e1 : S' = zsQ S1 := e1
      subst e1
      have hs : SM o2.2.1 o2.2.2 (zsQ S1) := sm_x h.2.2.2.2.2.1.1 sc (show XR S (zsQ S1) from hX) g1 g2
      rcases kd.resolve_left e with hk | hk
      · exact Or.inl (⟨hk, rr_step h hj r2 (ci_V hC) hW ((ps_V hC.1.2.2.2.2.1).trans (ps_Q hC.1).symm) (sm_V (sT_gen h.2.2.2.2.2 (sr_z h.2.2.2.2.2.1 (hs) (fz_X11_add ho) h.2.2.1.1.2.2.2.2.1 (by decide) g5 g18 g23) (fr_7 h.2.2.2.2.2.1.1.1 (fz_X11_add ho) h.2.2.1.1.2.2.2.2.1 (by decide)) (fun g L p7 hg tg => tgk_add h.2.2.1.1 h.2.2.1.2.2.1 (fun q hq => by
    obtain ⟨g, g', rd, p7, -, -, -, hcur⟩ := h.2.2.1.2.2.2
    rw [p7] at hq
    cases hq
    exact hcur) h.2.2.2.2.2.1.1.1 p7 tg ho) ((fw_add h2).1 5 (by decide)) (fun j j1 j2 => (fw_add h2).2 j (by intro hm; first | (cases hm; done) | (simp only [List.mem_cons, List.not_mem_nil, or_false] at hm; omega)))))⟩)
      · exact Or.inr (⟨hk, rr_step h hj r2 (ci_V hC) hW ((ps_V hC.1.2.2.2.2.1).trans (ps_Q hC.1).symm) (sm_V (sT_gen h.2.2.2.2.2 (sr_z h.2.2.2.2.2.1 (hs) (fz_X11_add ho) h.2.2.1.1.2.2.2.2.1 (by decide) g5 g18 g23) (fr_7 h.2.2.2.2.2.1.1.1 (fz_X11_add ho) h.2.2.1.1.2.2.2.2.1 (by decide)) (fun g L p7 hg tg => tgk_add h.2.2.1.1 h.2.2.1.2.2.1 (fun q hq => by
    obtain ⟨g, g', rd, p7, -, -, -, hcur⟩ := h.2.2.1.2.2.2
    rw [p7] at hq
    cases hq
    exact hcur) h.2.2.2.2.2.1.1.1 p7 tg ho) ((fw_add h2).1 5 (by decide)) (fun j j1 j2 => (fw_add h2).2 j (by intro hm; first | (cases hm; done) | (simp only [List.mem_cons, List.not_mem_nil, or_false] at hm; omega)))))⟩)
theorem st_addMark {j c t : Nat} {v1 v2 v3 : Int32} {I : Nat → Int32} {A : Nat → Nat → Int32} {S : ZS} (h : RRd j c t I A S) (hj : j < 48) : PS_addMark (RRd (j + 1)) c t v1 v2 v3 I A S := by
  obtain ⟨o2, h2, r2⟩ : Ok (f_addMark v1 I A) (fun o => RIt o.2.1 o.2.2) := ri_addMark h.2.1
  have g1 := (fw_addMark h2).1 1 (by decide)
  have g2 := (fw_addMark h2).2 2 (by decide)
  have g5 := (fw_addMark h2).1 5 (by decide)
  have g18 := (fw_addMark h2).2 18 (by decide)
  have g23 := (fw_addMark h2).2 23 (by decide)
  obtain ⟨⟨⟨k, v⟩, S'⟩, ho, hC⟩ : Ok (d_X11_addMark 1 v1 S) (RC S 1) := ci_addMark h.2.2.1
  have hW := rc_w hC
  have sc : SC S' := sc_z h.2.2.2.2.2.1.1.1 h.2.2.1.1 (fz_X11_addMark ho) (by decide)
  have kd := kd_X11_addMark ho
  replace kd : k = 0 ∨ k = 1 ∨ k = 4 := kd
  refine ⟨zt S' - zt S, zu S' - zu S, rr_room h hj hW, o2, h2, fun F => (tt_X11_addMark _ ho).2 _ _ (by show zt S' ≤ _; omega) (by show zu S' ≤ _; omega) ⟨fun e => ?_, fun e jj => ?_⟩⟩
  · have e : k = 0 := e
    rcases hC with ⟨-, hC, -, hX⟩ | ⟨hn, -⟩
    · skip
      exact fun F1 _ => rr_step h hj r2 hC hW rfl (sT_gen h.2.2.2.2.2 (sr_z h.2.2.2.2.2.1 (sm_x h.2.2.2.2.2.1.1 sc hX g1 g2) (fz_X11_addMark ho) h.2.2.1.1.2.2.2.2.1 (by decide) g5 g18 g23) (fr_7 h.2.2.2.2.2.1.1.1 (fz_X11_addMark ho) h.2.2.1.1.2.2.2.2.1 (by decide)) (fun g L p7 hg tg => tgk_z h.2.2.1.1 h.2.2.2.2.2.1.1.1.1 hg tg (fz_X11_addMark ho) (fa_X11_addMark ho) (by decide) (by decide)) ((fw_addMark h2).1 5 (by decide)) (fun j j1 j2 => (fw_addMark h2).2 j (by intro hm; first | (cases hm; done) | (simp only [List.mem_cons, List.not_mem_nil, or_false] at hm; omega))))
    · exact absurd e hn
  · have e : k ≠ 0 := e
    rcases hC with ⟨hn, -⟩ | ⟨-, S1, e1, hC, -, hX⟩
    · exact absurd hn e
    · have e1 : S' = zsQ S1 := e1
      subst e1
      have hs : SM o2.2.1 o2.2.2 (zsQ S1) := sm_x h.2.2.2.2.2.1.1 sc (show XR S (zsQ S1) from hX) g1 g2
      rcases kd.resolve_left e with hk | hk
      · exact Or.inl (⟨hk, rr_step h hj r2 (ci_V hC) hW ((ps_V hC.1.2.2.2.2.1).trans (ps_Q hC.1).symm) (sm_V (sT_gen h.2.2.2.2.2 (sr_z h.2.2.2.2.2.1 (hs) (fz_X11_addMark ho) h.2.2.1.1.2.2.2.2.1 (by decide) g5 g18 g23) (fr_7 h.2.2.2.2.2.1.1.1 (fz_X11_addMark ho) h.2.2.1.1.2.2.2.2.1 (by decide)) (fun g L p7 hg tg => tgk_z h.2.2.1.1 h.2.2.2.2.2.1.1.1.1 hg tg (fz_X11_addMark ho) (fa_X11_addMark ho) (by decide) (by decide)) ((fw_addMark h2).1 5 (by decide)) (fun j j1 j2 => (fw_addMark h2).2 j (by intro hm; first | (cases hm; done) | (simp only [List.mem_cons, List.not_mem_nil, or_false] at hm; omega)))))⟩)
      · exact Or.inr (⟨hk, rr_step h hj r2 (ci_V hC) hW ((ps_V hC.1.2.2.2.2.1).trans (ps_Q hC.1).symm) (sm_V (sT_gen h.2.2.2.2.2 (sr_z h.2.2.2.2.2.1 (hs) (fz_X11_addMark ho) h.2.2.1.1.2.2.2.2.1 (by decide) g5 g18 g23) (fr_7 h.2.2.2.2.2.1.1.1 (fz_X11_addMark ho) h.2.2.1.1.2.2.2.2.1 (by decide)) (fun g L p7 hg tg => tgk_z h.2.2.1.1 h.2.2.2.2.2.1.1.1.1 hg tg (fz_X11_addMark ho) (fa_X11_addMark ho) (by decide) (by decide)) ((fw_addMark h2).1 5 (by decide)) (fun j j1 j2 => (fw_addMark h2).2 j (by intro hm; first | (cases hm; done) | (simp only [List.mem_cons, List.not_mem_nil, or_false] at hm; omega)))))⟩)
theorem st_say {j c t : Nat} {v1 v2 v3 : Int32} {I : Nat → Int32} {A : Nat → Nat → Int32} {S : ZS} (h : RRd j c t I A S) (hj : j < 48) : PS_say (RRd (j + 1)) c t v1 v2 v3 I A S := by
  obtain ⟨o2, h2, r2⟩ : Ok (f_say I A) (fun o => RIt o.2.1 o.2.2) := ri_say h.2.1
  have g5 := (fw_say h2).1 5 (by decide)
  have g18 := (fw_say h2).2 18 (by decide)
  have g23 := (fw_say h2).2 23 (by decide)
  obtain ⟨⟨⟨k, v⟩, S'⟩, ho, hC⟩ : Ok (d_X11_say 1 S) (RCs S 1) := ci_say h.2.2.1
  have hW := rcs_w hC
  have hsy := sm_say (rr_g h) h.2.2.2.2.2.1.1 h2 ho
  have kd := kd_X11_say ho
  replace kd : k = 0 ∨ k = 1 := kd
  refine ⟨zt S' - zt S, zu S' - zu S, rr_room h hj hW, o2, h2, fun F => (tt_X11_say _ ho).2 _ _ (by show zt S' ≤ _; omega) (by show zu S' ≤ _; omega) ⟨fun e => ?_, fun e jj => ?_⟩⟩
  · have e : k = 0 := e
    rcases hC with ⟨-, hC, -, hX⟩ | ⟨hn, -⟩
    · rcases hsy with ⟨-, -, -, hs⟩ | ⟨hk, -⟩
      rotate_left
      · exact absurd (hk.symm.trans e) (by decide)
      exact fun F1 _ => rr_step h hj r2 hC hW rfl (sT_gen h.2.2.2.2.2 (sr_z h.2.2.2.2.2.1 (hs) (fz_X11_say ho) h.2.2.1.1.2.2.2.2.1 (by decide) g5 g18 g23) (fr_7 h.2.2.2.2.2.1.1.1 (fz_X11_say ho) h.2.2.1.1.2.2.2.2.1 (by decide)) (fun g L p7 hg tg => tgk_say (rr_g h) h.2.2.2.2.2.1.1 hg p7 tg ho) ((fw_say h2).1 5 (by decide)) (fun j j1 j2 => (fw_say h2).2 j (by intro hm; first | (cases hm; done) | (simp only [List.mem_cons, List.not_mem_nil, or_false] at hm; omega))))
    · exact absurd e hn
  · have e : k ≠ 0 := e
    rcases hC with ⟨hn, -⟩ | ⟨-, S1, e1, hC, -, e9⟩
    · exact absurd hn e
    · have e1 : S' = zsQ S1 := e1
      subst e1
      have hs : SM o2.2.1 o2.2.2 (zsQ S1) := by
        rcases hsy with ⟨hk, -⟩ | ⟨-, -, -, -, hs⟩
        · exact absurd hk e
        · rw [e9]
          exact sm_Q hs
      exact ⟨kd.resolve_left e, rr_step h hj r2 (ci_V hC) hW ((ps_V hC.1.2.2.2.2.1).trans (ps_Q hC.1).symm) (sm_V (sT_gen h.2.2.2.2.2 (sr_z h.2.2.2.2.2.1 (hs) (fz_X11_say ho) h.2.2.1.1.2.2.2.2.1 (by decide) g5 g18 g23) (fr_7 h.2.2.2.2.2.1.1.1 (fz_X11_say ho) h.2.2.1.1.2.2.2.2.1 (by decide)) (fun g L p7 hg tg => tgk_say (rr_g h) h.2.2.2.2.2.1.1 hg p7 tg ho) ((fw_say h2).1 5 (by decide)) (fun j j1 j2 => (fw_say h2).2 j (by intro hm; first | (cases hm; done) | (simp only [List.mem_cons, List.not_mem_nil, or_false] at hm; omega)))))⟩
theorem st_lead {j c t : Nat} {v1 v2 v3 : Int32} {I : Nat → Int32} {A : Nat → Nat → Int32} {S : ZS} (h : RRd j c t I A S) (hj : j < 48) : PS_lead (RRd (j + 1)) c t v1 v2 v3 I A S := by
  obtain ⟨o2, h2, r2⟩ : Ok (f_lead I A) (fun o => RIt o.2.1 o.2.2) := ri_lead h.2.1
  have g1 := (fw_lead h2).1 1 (by decide)
  have g2 := (fw_lead h2).2 2 (by decide)
  have g5 := (fw_lead h2).1 5 (by decide)
  have g18 := (fw_lead h2).2 18 (by decide)
  have g23 := (fw_lead h2).2 23 (by decide)
  obtain ⟨⟨⟨k, v⟩, S'⟩, ho, hC⟩ : Ok (d_X11_lead 1 S) (RC S 1) := ci_lead h.2.2.1
  have hW := rc_w hC
  have sc : SC S' := sc_z h.2.2.2.2.2.1.1.1 h.2.2.1.1 (fz_X11_lead ho) (by decide)
  have kd := kd_X11_lead ho
  replace kd : k = 0 ∨ k = 4 := kd
  refine ⟨zt S' - zt S, zu S' - zu S, rr_room h hj hW, o2, h2, fun F => (tt_X11_lead _ ho).2 _ _ (by show zt S' ≤ _; omega) (by show zu S' ≤ _; omega) ⟨fun e => ?_, fun e jj => ?_⟩⟩
  · have e : k = 0 := e
    rcases hC with ⟨-, hC, -, hX⟩ | ⟨hn, -⟩
    · skip
      exact fun F1 _ => rr_step h hj r2 hC hW rfl (sT_gen h.2.2.2.2.2 (sr_z h.2.2.2.2.2.1 (sm_x h.2.2.2.2.2.1.1 sc hX g1 g2) (fz_X11_lead ho) h.2.2.1.1.2.2.2.2.1 (by decide) g5 g18 g23) (fr_7 h.2.2.2.2.2.1.1.1 (fz_X11_lead ho) h.2.2.1.1.2.2.2.2.1 (by decide)) (fun g L p7 hg tg => tgk_z h.2.2.1.1 h.2.2.2.2.2.1.1.1.1 hg tg (fz_X11_lead ho) (fa_X11_lead ho) (by decide) (by decide)) ((fw_lead h2).1 5 (by decide)) (fun j j1 j2 => (fw_lead h2).2 j (by intro hm; first | (cases hm; done) | (simp only [List.mem_cons, List.not_mem_nil, or_false] at hm; omega))))
    · exact absurd e hn
  · have e : k ≠ 0 := e
    rcases hC with ⟨hn, -⟩ | ⟨-, S1, e1, hC, -, hX⟩
    · exact absurd hn e
    · have e1 : S' = zsQ S1 := e1
      subst e1
      have hs : SM o2.2.1 o2.2.2 (zsQ S1) := sm_x h.2.2.2.2.2.1.1 sc (show XR S (zsQ S1) from hX) g1 g2
      exact ⟨kd.resolve_left e, rr_step h hj r2 (ci_V hC) hW ((ps_V hC.1.2.2.2.2.1).trans (ps_Q hC.1).symm) (sm_V (sT_gen h.2.2.2.2.2 (sr_z h.2.2.2.2.2.1 (hs) (fz_X11_lead ho) h.2.2.1.1.2.2.2.2.1 (by decide) g5 g18 g23) (fr_7 h.2.2.2.2.2.1.1.1 (fz_X11_lead ho) h.2.2.1.1.2.2.2.2.1 (by decide)) (fun g L p7 hg tg => tgk_z h.2.2.1.1 h.2.2.2.2.2.1.1.1.1 hg tg (fz_X11_lead ho) (fa_X11_lead ho) (by decide) (by decide)) ((fw_lead h2).1 5 (by decide)) (fun j j1 j2 => (fw_lead h2).2 j (by intro hm; first | (cases hm; done) | (simp only [List.mem_cons, List.not_mem_nil, or_false] at hm; omega)))))⟩
theorem st_end {j c t : Nat} {v1 v2 v3 : Int32} {I : Nat → Int32} {A : Nat → Nat → Int32} {S : ZS} (h : RRd j c t I A S) (hj : j < 48) : PS_end (RRd (j + 1)) c t v1 v2 v3 I A S := by
  obtain ⟨o2, h2, r2, -⟩ : Ok (f_end v1 I A) (fun o => RIt o.2.1 o.2.2 ∧ ((0 ≤ v1.toInt ∧ v1.toInt ≤ 3 → (o.2.1 0).toInt = 0) ∧ (v1.toInt < 0 ∨ 3 < v1.toInt → (o.2.1 0).toInt = 1))) := ri_end h.2.1
  have g1 := (fw_end h2).1 1 (by decide)
  have g2 := (fw_end h2).2 2 (by decide)
  obtain ⟨⟨⟨k, v⟩, S'⟩, ho, hC⟩ : Ok (d_X11_end 1 v1 S) (RC S 1) := ci_end h.2.2.1
  have hW := rc_w hC
  have sc : SC S' := sc_z h.2.2.2.2.2.1.1.1 h.2.2.1.1 (fz_X11_end ho) (by decide)
  have kd : k = 0 ∨ k = 1 := by
    have ek := end_k ho
    omega
  refine ⟨zt S' - zt S, zu S' - zu S, rr_room h hj hW, o2, h2, fun F => (tt_X11_end _ ho).2 _ _ (by show zt S' ≤ _; omega) (by show zu S' ≤ _; omega) ⟨fun e => ?_, fun e jj => ?_⟩⟩
  · have e : k = 0 := e
    rcases hC with ⟨-, hC, -, hX⟩ | ⟨hn, -⟩
    · skip
      exact rr_step h hj r2 hC hW rfl (sT_gen h.2.2.2.2.2 (sr_end (show 0 ≤ (I 5).toInt ∧ (I 5).toInt ≤ 1 from h.2.1.1 5) h.2.2.2.2.2.1 (sm_x h.2.2.2.2.2.1.1 sc hX g1 g2) h2 ho) (fr_7 h.2.2.2.2.2.1.1.1 (fz_X11_end ho) h.2.2.1.1.2.2.2.2.1 (by decide)) (fun g L p7 hg tg => tgk_z h.2.2.1.1 h.2.2.2.2.2.1.1.1.1 hg tg (fz_X11_end ho) (fa_X11_end ho) (by decide) (by decide)) ((fw_end h2).1 5 (by decide)) (fun j j1 j2 => (fw_end h2).2 j (by intro hm; first | (cases hm; done) | (simp only [List.mem_cons, List.not_mem_nil, or_false] at hm; omega))))
    · exact absurd e hn
  · have e : k ≠ 0 := e
    rcases hC with ⟨hn, -⟩ | ⟨-, S1, e1, hC, -, hX⟩
    · exact absurd hn e
    · have e1 : S' = zsQ S1 := e1
      subst e1
      have hs : SM o2.2.1 o2.2.2 (zsQ S1) := sm_x h.2.2.2.2.2.1.1 sc (show XR S (zsQ S1) from hX) g1 g2
      exact ⟨kd.resolve_left e, rr_step h hj r2 (ci_V hC) hW ((ps_V hC.1.2.2.2.2.1).trans (ps_Q hC.1).symm) (sm_V (sT_gen h.2.2.2.2.2 (sr_end (show 0 ≤ (I 5).toInt ∧ (I 5).toInt ≤ 1 from h.2.1.1 5) h.2.2.2.2.2.1 (hs) h2 ho) (fr_7 h.2.2.2.2.2.1.1.1 (fz_X11_end ho) h.2.2.1.1.2.2.2.2.1 (by decide)) (fun g L p7 hg tg => tgk_z h.2.2.1.1 h.2.2.2.2.2.1.1.1.1 hg tg (fz_X11_end ho) (fa_X11_end ho) (by decide) (by decide)) ((fw_end h2).1 5 (by decide)) (fun j j1 j2 => (fw_end h2).2 j (by intro hm; first | (cases hm; done) | (simp only [List.mem_cons, List.not_mem_nil, or_false] at hm; omega)))))⟩
theorem st_result {j c t : Nat} {v1 v2 v3 : Int32} {I : Nat → Int32} {A : Nat → Nat → Int32} {S : ZS} (h : RRd j c t I A S) (hj : j < 48) : PS_result (RRd (j + 1)) c t v1 v2 v3 I A S := by
  obtain ⟨o2, h2, r2⟩ : Ok (f_result I A) (fun o => RIt o.2.1 o.2.2) := ri_result h.2.1
  have g1 := (fw_result h2).1 1 (by decide)
  have g2 := (fw_result h2).2 2 (by decide)
  have g5 := (fw_result h2).1 5 (by decide)
  have g18 := (fw_result h2).2 18 (by decide)
  have g23 := (fw_result h2).2 23 (by decide)
  obtain ⟨o, ho, hC, hW, hX⟩ : Ok (f_X11_result 1 S) (fun o => CI o.2 1 ∧ RW S o.2 ∧ XR S o.2) := ci_result h.2.2.1
  have hs : SM o2.2.1 o2.2.2 o.2 := sm_z h.2.2.2.2.2.1.1 h.2.2.1.1 (fz_X11_result ho) (by decide) hX g1 g2
  exact ⟨zt o.2 - zt S, zu o.2 - zu S, rr_room h hj hW, o, o2, h2, ho, rr_step h hj r2 hC hW rfl (sT_gen h.2.2.2.2.2 (sr_z h.2.2.2.2.2.1 (hs) (fz_X11_result ho) h.2.2.1.1.2.2.2.2.1 (by decide) g5 g18 g23) (fr_7 h.2.2.2.2.2.1.1.1 (fz_X11_result ho) h.2.2.1.1.2.2.2.2.1 (by decide)) (fun g L p7 hg tg => tgk_z h.2.2.1.1 h.2.2.2.2.2.1.1.1.1 hg tg (fz_X11_result ho) (fa_X11_result ho) (by decide) (by decide)) ((fw_result h2).1 5 (by decide)) (fun j j1 j2 => (fw_result h2).2 j (by intro hm; first | (cases hm; done) | (simp only [List.mem_cons, List.not_mem_nil, or_false] at hm; omega))))⟩
theorem st_tags {j c t : Nat} {v1 v2 v3 : Int32} {I : Nat → Int32} {A : Nat → Nat → Int32} {S : ZS} (h : RRd j c t I A S) (hj : j < 48) : PS_tags (RRd (j + 1)) c t v1 v2 v3 I A S := by
  obtain ⟨o2, h2, r2⟩ : Ok (f_tags I A) (fun o => RIt o.2.1 o.2.2) := ri_tags h.2.1
  have g1 := (fw_tags h2).1 1 (by decide)
  have g2 := (fw_tags h2).2 2 (by decide)
  have g5 := (fw_tags h2).1 5 (by decide)
  have g18 := (fw_tags h2).2 18 (by decide)
  have g23 := (fw_tags h2).2 23 (by decide)
  obtain ⟨o, ho, hC, hW, hX⟩ : Ok (f_X11_tags 1 S) (fun o => CI o.2 1 ∧ RW S o.2 ∧ XR S o.2) := ci_tags h.2.2.1
  have hs : SM o2.2.1 o2.2.2 o.2 := sm_z h.2.2.2.2.2.1.1 h.2.2.1.1 (fz_X11_tags ho) (by decide) hX g1 g2
  exact ⟨zt o.2 - zt S, zu o.2 - zu S, rr_room h hj hW, o, o2, h2, ho, rr_step h hj r2 hC hW rfl (sT_gen h.2.2.2.2.2 (sr_z h.2.2.2.2.2.1 (hs) (fz_X11_tags ho) h.2.2.1.1.2.2.2.2.1 (by decide) g5 g18 g23) (fr_7 h.2.2.2.2.2.1.1.1 (fz_X11_tags ho) h.2.2.1.1.2.2.2.2.1 (by decide)) (fun g L p7 hg tg => tgk_z h.2.2.1.1 h.2.2.2.2.2.1.1.1.1 hg tg (fz_X11_tags ho) (fa_X11_tags ho) (by decide) (by decide)) ((fw_tags h2).1 5 (by decide)) (fun j j1 j2 => (fw_tags h2).2 j (by intro hm; first | (cases hm; done) | (simp only [List.mem_cons, List.not_mem_nil, or_false] at hm; omega))))⟩
theorem st_tag {j c t : Nat} {v1 v2 v3 : Int32} {I : Nat → Int32} {A : Nat → Nat → Int32} {S : ZS} (h : RRd j c t I A S) (hj : j < 48) : PS_tag (RRd (j + 1)) c t v1 v2 v3 I A S := by
  obtain ⟨o2, h2, r2⟩ : Ok (f_tag v1 (lb v2) v3 I A) (fun o => RIt o.2.1 o.2.2) := ri_tag h.2.1
  have g1 := (fw_tag h2).1 1 (by decide)
  have g2 := (fw_tag h2).2 2 (by decide)
  have g5 := (fw_tag h2).1 5 (by decide)
  have g18 := (fw_tag h2).2 18 (by decide)
  have g23 := (fw_tag h2).2 23 (by decide)
  obtain ⟨⟨⟨k, v⟩, S'⟩, ho, hC⟩ : Ok (d_X11_tag 1 v1 (lb v2) v3 S) (RC S 1) := ci_tag h.2.2.1
  have hW := rc_w hC
  have sc : SC S' := sc_z h.2.2.2.2.2.1.1.1 h.2.2.1.1 (fy_X11_tag ho) (by decide)
  have hcm : (k = 0 ∧ o2.2.1 0 = 0 ∧ v = o2.1) ∨ (k = 2 ∧ o2.2.1 0 = 1) := by
    exact sT_tag (rr_g h) h.2.1.2.1 (show 0 ≤ (I 5).toInt ∧ (I 5).toInt ≤ 1 from h.2.1.1 5) h.2.2.2.2.2 h2 ho
  refine ⟨zt S' - zt S, zu S' - zu S, rr_room h hj hW, o2, (o2.2.1 0, o2.2), h2, rfl, fun F => (tt_X11_tag _ ho).2 _ _ (by show zt S' ≤ _; omega) (by show zu S' ≤ _; omega) ⟨fun e => ?_, fun e jj => ?_⟩⟩
  · have e : k = 0 := e
    rcases hC with ⟨-, hC, -, hX⟩ | ⟨hn, -⟩
    · skip
      rcases hcm with ⟨-, c0, cv⟩ | ⟨hk, -⟩
      · exact fun F1 hF1 => ⟨c0.symm, fun _ => by rw [hF1, cv], rr_step h hj r2 hC hW rfl (sT_gen h.2.2.2.2.2 (sr_z h.2.2.2.2.2.1 (sm_x h.2.2.2.2.2.1.1 sc hX g1 g2) (fz_X11_tag ho) h.2.2.1.1.2.2.2.2.1 (by decide) g5 g18 g23) (fr_7 h.2.2.2.2.2.1.1.1 (fz_X11_tag ho) h.2.2.1.1.2.2.2.2.1 (by decide)) (fun g L p7 hg tg => tgk_ke h.2.2.2.2.2.1.1.1.1 hg tg (ke_X11_tag (nq_sc h.2.2.1.1 h.2.2.2.2.2.1.1.1) ho).2) ((fw_tag h2).1 5 (by decide)) (fun j j1 j2 => (fw_tag h2).2 j (by intro hm; first | (cases hm; done) | (simp only [List.mem_cons, List.not_mem_nil, or_false] at hm; omega))))⟩
      · exact absurd (hk.symm.trans e) (by decide)
    · exact absurd e hn
  · have e : k ≠ 0 := e
    rcases hC with ⟨hn, -⟩ | ⟨-, S1, e1, hC, -, hX⟩
    · exact absurd hn e
    · have e1 : S' = zsQ S1 := e1
      subst e1
      have hs : SM o2.2.1 o2.2.2 (zsQ S1) := sm_x h.2.2.2.2.2.1.1 sc (show XR S (zsQ S1) from hX) g1 g2
      rcases hcm with ⟨hk, -⟩ | ⟨hk, c0⟩
      · exact absurd hk e
      · exact ⟨hk, c0.symm, fun e => absurd e (by decide), rr_step h hj r2 (ci_V hC) hW ((ps_V hC.1.2.2.2.2.1).trans (ps_Q hC.1).symm) (sm_V (sT_gen h.2.2.2.2.2 (sr_z h.2.2.2.2.2.1 (hs) (fz_X11_tag ho) h.2.2.1.1.2.2.2.2.1 (by decide) g5 g18 g23) (fr_7 h.2.2.2.2.2.1.1.1 (fz_X11_tag ho) h.2.2.1.1.2.2.2.2.1 (by decide)) (fun g L p7 hg tg => tgk_ke h.2.2.2.2.2.1.1.1.1 hg tg (ke_X11_tag (nq_sc h.2.2.1.1 h.2.2.2.2.2.1.1.1) ho).2) ((fw_tag h2).1 5 (by decide)) (fun j j1 j2 => (fw_tag h2).2 j (by intro hm; first | (cases hm; done) | (simp only [List.mem_cons, List.not_mem_nil, or_false] at hm; omega)))))⟩
theorem st_all {j c t : Nat} {v1 v2 v3 : Int32} {I : Nat → Int32} {A : Nat → Nat → Int32} {S : ZS} (h : RRd j c t I A S) (hj : j < 48) (op : Int32) : PStep (RRd (j + 1)) c t op v1 v2 v3 I A S :=
  ⟨fun _ => st_type h hj, fun _ => st_cut h hj, fun _ => st_read h hj, fun _ => st_find h hj, fun _ => st_write h hj, fun _ => st_signs h hj, fun _ => st_out h hj, fun _ => st_nodes h hj, fun _ => st_node h hj, fun _ => st_mark h hj, fun _ => st_remark h hj, fun _ => st_here h hj, fun _ => st_go h hj, fun _ => st_man h hj, fun _ => st_move h hj, fun _ => st_add h hj, fun _ => st_addMark h hj, fun _ => st_say h hj, fun _ => st_lead h hj, fun _ => st_end h hj, fun _ => st_result h hj, fun _ => st_tags h hj, fun _ => st_tag h hj, fun _ => ⟨by omega, h.2.1, h.2.2.1, by have := h.2.2.2.1; omega, by have := h.2.2.2.2.1; omega, h.2.2.2.2.2⟩⟩
/-- the reference's first state -/
theorem tB_0 (k : Nat) : (tB k).1 ≤ 0 ∧ 0 ≤ (tB k).2 := by
  unfold tB
  repeat' split
  all_goals decide
theorem if_r {x y : Nat} {a b : Int × Int} (ha : a.1 ≤ 0 ∧ 0 ≤ a.2) (hb : b.1 ≤ 0 ∧ 0 ≤ b.2) : (if x = y then a else b).1 ≤ 0 ∧ 0 ≤ (if x = y then a else b).2 := by
  by_cases h : x = y
  · rw [if_pos h]; exact ha
  · rw [if_neg h]; exact hb
theorem tF_0 : tF.1 ≤ 0 ∧ 0 ≤ tF.2 := by decide
theorem tC_0 (j i : Nat) : (tC j i).1 ≤ 0 ∧ 0 ≤ (tC j i).2 := by
  unfold tC
  exact (if_r (by decide) (if_r (by decide) (if_r (by decide) (if_r (by decide) (if_r (by decide) (if_r (by decide) (if_r (by decide) (if_r (by decide) (if_r (by decide) (if_r (by decide) (if_r (by decide) (if_r (if_r (by decide) (if_r (by decide) tF_0)) (if_r (by decide) (if_r (by decide) (if_r (by decide) (if_r (by decide) (if_r (by decide) (if_r (by decide) (if_r (if_r (by decide) (if_r (by decide) tF_0)) (if_r (by decide) (if_r (by decide) (if_r (by decide) tF_0))))))))))))))))))))))
theorem r_first : ∃ o1 o2 o3 : Int32 × MS, f_clearGame 0 mI0 mA0 = some o1 ∧ f_usual 0 o1.2.1 o1.2.2 = some o2 ∧ f_place 0 0 o2.2.1 o2.2.2 = some o3 ∧ RIt o3.2.1 o3.2.2 ∧ o3.2.1 1 = 0 ∧ o3.2.1 5 = 0 ∧ o3.2.2 18 0 = 0 ∧ o3.2.2 23 0 = 0 := by
  have hI : TJ mI0 := fun k => by
    have e : (mI0 k).toInt = 0 := rfl
    rw [e]; exact tB_0 k
  have hA : TK mA0 := fun j i => by
    have e : (mA0 j i).toInt = 0 := rfl
    rw [e]; exact tC_0 j i
  obtain ⟨o1, h1, I1, A1, t1, -⟩ := t_clearGame2 (gg := 0) (x1 := 0) hI hA (by decide) (by decide)
  have f1 := fw_clearGame h1
  obtain ⟨o2, h2, I2, A2, -⟩ := t_usual (x1 := 0) I1 A1 (by decide)
  have f2 := fw_usual h2
  have t2 : TRE o2.2.2 0 := by
    have e7 := f2.2 7 (by decide)
    have e8 := f2.2 8 (by decide)
    have e9 := f2.2 9 (by decide)
    have e10 := f2.2 10 (by decide)
    have e11 := f2.2 11 (by decide)
    unfold TRE aK aP aM aC aN at t1 ⊢
    rw [e7, e8, e9, e10, e11]
    exact t1
  obtain ⟨o3, h3, I3, A3, p3⟩ := t_place (gg := 0) (nn := aK o2.2.2 0) (x1 := 0) (x2 := 0) I2 A2 (by decide) (by decide) t2.1 (by decide) (by show (0 : Int) ≤ _; omega)
  have f3 := fw_place h3
  have t3 : TRE o3.2.2 0 := by
    have e7 := f3.2 7 (by decide)
    have e8 := f3.2 8 (by decide)
    have e9 := f3.2 9 (by decide)
    have e10 := f3.2 10 (by decide)
    have e11 := f3.2 11 (by decide)
    unfold TRE aK aP aM aC aN at t2 ⊢
    rw [e7, e8, e9, e10, e11]
    exact t2
  have e5 : o3.2.1 5 = 0 := (f3.1 5 (by decide)).trans ((f2.1 5 (by decide)).trans (f1.1 5 (by decide)))
  have e6 : o3.2.1 6 = 0 := (f3.1 6 (by decide)).trans ((f2.1 6 (by decide)).trans (f1.1 6 (by decide)))
  have e1 : o3.2.1 1 = 0 := (f3.1 1 (by decide)).trans ((f2.1 1 (by decide)).trans (f1.1 1 (by decide)))
  refine ⟨o1, o2, o3, h1, h2, h3, ⟨I3, A3, RIv_mk t3 (by rw [e5]; rfl) ?_ p3⟩, e1, e5, ?_, ?_⟩
  · rw [e6]
    show (0 : Int) ≤ _
    omega
  · rw [f3.2 18 (by decide), f2.2 18 (by decide)]
    exact Int32.toInt_inj.1 ((v_clearGame (g := 0) (by decide) rfl h1).2.2.1)
  · rw [f3.2 23 (by decide), f2.2 23 (by decide)]
    exact v_clear23 (g := 0) (by decide) rfl h1
