theorem G_of {P : Nat → Bool} (h0 : (List.range 5).all (fun k => P (0 + k)) = true) (h1 : (List.range 5).all (fun k => P (5 + k)) = true) (h2 : (List.range 5).all (fun k => P (10 + k)) = true) (h3 : (List.range 5).all (fun k => P (15 + k)) = true) {i : Nat} (hi : i < 20) : P i = true := by
  by_cases c1 : i < 5
  · have h := List.all_eq_true.mp h0 i (List.mem_range.mpr c1)
    rw [Nat.zero_add] at h
    exact h
  by_cases c2 : i < 10
  · have h := List.all_eq_true.mp h1 (i - 5) (List.mem_range.mpr (by omega))
    rw [show 5 + (i - 5) = i by omega] at h
    exact h
  by_cases c3 : i < 15
  · have h := List.all_eq_true.mp h2 (i - 10) (List.mem_range.mpr (by omega))
    rw [show 10 + (i - 10) = i by omega] at h
    exact h
  · have h := List.all_eq_true.mp h3 (i - 15) (List.mem_range.mpr (by omega))
    rw [show 15 + (i - 15) = i by omega] at h
    exact h
theorem and2 {a b : Bool} (h : (a && b) = true) : a = true ∧ b = true := (Bool.and_eq_true _ _).mp h
theorem p1_step {I : Nat → Int32} {A : Nat → Nat → Int32} {S : ZS} (ha : G_a I A S = true) (hb : G_b I A S = true) (hc : G_c I A S = true) (hd : G_d I A S = true) (he : G_e I A S = true) (hm : G_m I A S = true) (hr : G_r I A S = true) (hs : ∀ i, i < 20 → ckX S (f_signs (A 32 i) I A) (d_X11_signs 1 (A 32 i) S) tV tb_signs = true) (ht : ∀ i, i < 20 → ckX S (f_add (A 32 i) I A) (d_X11_add 1 (A 32 i) S) tV tb_add = true)
    (RR : (Nat → Int32) → (Nat → Nat → Int32) → ZS → Prop) (op v1 v2 v3 : Int32) (hR : ∀ I A S, RR I A S) : PStep RR op v1 v2 v3 I A S := by
  unfold G_a at ha
  unfold G_c at hc
  unfold G_d at hd
  obtain ⟨a1, ha⟩ := and2 ha
  obtain ⟨a2, ha⟩ := and2 ha
  obtain ⟨a3, ha⟩ := and2 ha
  obtain ⟨a4, ha⟩ := and2 ha
  obtain ⟨a5, ha⟩ := and2 ha
  obtain ⟨a6, ha⟩ := and2 ha
  obtain ⟨a7, ha⟩ := and2 ha
  obtain ⟨a8, ha⟩ := and2 ha
  obtain ⟨a9, ha⟩ := and2 ha
  obtain ⟨a10, a11⟩ := and2 ha
  have hF : FR I A := of_decide_eq_true a1
  have hC : FC S := of_decide_eq_true a2
  have hD : zP S 0 2 = some 0 ∧ 3 ≤ zt S ∧ zt S ≤ 2000 ∧ zu S ≤ 50000 := of_decide_eq_true a3
  obtain ⟨c1, c2⟩ := and2 hc
  obtain ⟨d1, d2⟩ := and2 hd
  have hmv : (∀ i, i < 20 → A 32 i ≠ v1) ∨ ∃ i, i < 20 ∧ A 32 i = v1 := by
    by_cases h : ∃ i, i < 20 ∧ A 32 i = v1
    · exact Or.inr h
    · exact Or.inl (fun i hi e => h ⟨i, hi, e⟩)
  refine ⟨fun _ => ps_type hR (sy_type hF hC ⟨hD.1, hD.2.1⟩), fun _ => ps_cut hR ?_, fun _ => ps_read hR hb, fun _ => ps_find hR c1, fun _ => ps_write hR c2, fun _ => ps_signs hR ?_, fun _ => ps_out hR (sy_out hF hC), fun _ => ps_nodes hR a4, fun _ => ps_node hR ?_, fun _ => ps_mark hR (sy_mark hF hC), fun _ => ps_remark hR (sy_remark hF hC), fun _ => ps_here hR a5, fun _ => ps_go hR ?_, fun _ => ps_man hR ?_, fun _ => ps_move hR (sy_move hF hC hm), fun _ => ps_add hR ?_, fun _ => ps_addMark hR (sy_addMark hF hC), fun _ => ps_say hR d1, fun _ => ps_lead hR d2, fun _ => ps_end hR ?_, fun _ => ps_result hR a6, fun _ => ps_tags hR a7, fun _ => ps_tag hR (sy_tag hF hC), fun _ => hR _ _ _⟩
  · by_cases h : v1 = 0
    · rw [h]; exact a8
    · exact sy_cut hF hC h
  · rcases hmv with h | ⟨i, hi, e⟩
    · exact sy_signs hF hC hr h
    · rw [← e]; exact hs i hi
  · by_cases h : v1 ≠ 0 ∨ v2 < 0 ∨ ¬ v2 ≤ 5
    · exact sy_node hF hC h
    · have h1 : v1 = 0 := Classical.byContradiction (fun h9 => h (Or.inl h9))
      have h2 : ¬ v2 < 0 := fun h9 => h (Or.inr (Or.inl h9))
      have h3 : v2 ≤ 5 := Classical.byContradiction (fun h9 => h (Or.inr (Or.inr h9)))
      have h4 := List.all_eq_true.mp a9 _ (i_in (N := 5) h2 h3 (by decide))
      rw [h1, i_of h2]
      exact h4
  · by_cases h : v1 = 0
    · rw [h]; exact he
    · exact sy_go hF hC h
  · by_cases h : v1 < 0 ∨ ¬ v1 ≤ 63
    · exact sy_man h
    · have h2 : ¬ v1 < 0 := fun h9 => h (Or.inl h9)
      have h3 : v1 ≤ 63 := Classical.byContradiction (fun h9 => h (Or.inr h9))
      have h4 := List.all_eq_true.mp a10 _ (i_in (N := 63) h2 h3 (by decide))
      rw [i_of h2]
      exact h4
  · rcases hmv with h | ⟨i, hi, e⟩
    · exact sy_add hF hC hr h
    · rw [← e]; exact ht i hi
  · by_cases h : v1 < 0 ∨ ¬ v1 ≤ 3
    · exact sy_end hF h
    · have h2 : ¬ v1 < 0 := fun h9 => h (Or.inl h9)
      have h3 : v1 ≤ 3 := Classical.byContradiction (fun h9 => h (Or.inr h9))
      have h4 := List.all_eq_true.mp a11 _ (i_in (N := 3) h2 h3 (by decide))
      rw [i_of h2]
      exact h4
theorem evE {G : (Nat → Int32) → (Nat → Nat → Int32) → ZS → Bool} (h : evQ G = true) : ∃ (r : Int32 × ZS) (o1 o2 o3 : Int32 × MS), d_X11_init 1 (zsNewO zSs 1 11 10) = some r ∧ f_clearGame 0 mI0 mA0 = some o1 ∧ fU o1 = some o2 ∧ fP o2 = some o3 ∧ G o3.2.1 o3.2.2 (zsJ r.2 27) = true := @any4_E _ _ (d_X11_init 1 (zsNewO zSs 1 11 10)) (f_clearGame 0 mI0 mA0) fU fP (fun r o3 => G o3.2.1 o3.2.2 (zsJ r.2 27)) h
theorem evS {G : (Nat → Int32) → (Nat → Nat → Int32) → ZS → Bool} {r : Int32 × ZS} {o1 o2 o3 : Int32 × MS} (h : evQ G = true) (e0 : d_X11_init 1 (zsNewO zSs 1 11 10) = some r) (e1 : f_clearGame 0 mI0 mA0 = some o1) (e2 : fU o1 = some o2) (e3 : fP o2 = some o3) : G o3.2.1 o3.2.2 (zsJ r.2 27) = true := @any4_S _ _ (d_X11_init 1 (zsNewO zSs 1 11 10)) (f_clearGame 0 mI0 mA0) fU fP (fun r o3 => G o3.2.1 o3.2.2 (zsJ r.2 27)) r o1 o2 o3 h e0 e1 e2 e3
theorem fU_e {o1 : Int32 × MS} {w : Option (Int32 × MS)} (h : fU o1 = w) : f_usual 0 o1.2.1 o1.2.2 = w := h
theorem fP_e {o1 : Int32 × MS} {w : Option (Int32 × MS)} (h : fP o1 = w) : f_place 0 0 o1.2.1 o1.2.2 = w := h
theorem p1_all : ∃ Z : ZS, g_X11_init 1 (zsNewO zSs 1 11 10) 2000 50000 (fun _ S1 => S1 = Z) ∧ zK (zsJ Z 27) 1 = 11 ∧ ∃ o1 o2 o3 : Int32 × MS, f_clearGame 0 mI0 mA0 = some o1 ∧ f_usual 0 o1.2.1 o1.2.2 = some o2 ∧ f_place 0 0 o2.2.1 o2.2.2 = some o3 ∧ ∀ (RR : (Nat → Int32) → (Nat → Nat → Int32) → ZS → Prop) (op v1 v2 v3 : Int32), (∀ I A S, RR I A S) → PStep RR op v1 v2 v3 o3.2.1 o3.2.2 (zsJ Z 27) := by
  obtain ⟨r, o1, o2, o3, e0, e1, e2, e3, ha⟩ := evE ev_a
  have hA := ha
  unfold G_a at hA
  have ha' := and2 hA
  have ha2 := and2 ha'.2
  have hC : FC (zsJ r.2 27) := of_decide_eq_true ha2.1
  have hD : zP (zsJ r.2 27) 0 2 = some 0 ∧ 3 ≤ zt (zsJ r.2 27) ∧ zt (zsJ r.2 27) ≤ 2000 ∧ zu (zsJ r.2 27) ≤ 50000 := of_decide_eq_true (and2 ha2.2).1
  have hz1 : zt r.2 + 27 ≤ 2000 := hD.2.2.1
  have hz2 : zu r.2 ≤ 50000 := hD.2.2.2
  refine ⟨r.2, ?_, hC.1, o1, o2, o3, e1, fU_e e2, fP_e e3, fun RR op v1 v2 v3 hR => ?_⟩
  · exact (tt_X11_init (Pw := fun _ S1 => S1 = r.2) r e0).2 2000 50000 (by omega) (by omega) rfl
  · exact p1_step ha (evS ev_b e0 e1 e2 e3) (evS ev_c e0 e1 e2 e3) (evS ev_d e0 e1 e2 e3) (evS ev_e e0 e1 e2 e3) (evS ev_m e0 e1 e2 e3) (evS ev_r e0 e1 e2 e3) (fun i hi => G_of (P := fun i => ckX (zsJ r.2 27) (f_signs (o3.2.2 32 i) o3.2.1 o3.2.2) (d_X11_signs 1 (o3.2.2 32 i) (zsJ r.2 27)) tV tb_signs) (evS ev_s0 e0 e1 e2 e3) (evS ev_s1 e0 e1 e2 e3) (evS ev_s2 e0 e1 e2 e3) (evS ev_s3 e0 e1 e2 e3) hi) (fun i hi => G_of (P := fun i => ckX (zsJ r.2 27) (f_add (o3.2.2 32 i) o3.2.1 o3.2.2) (d_X11_add 1 (o3.2.2 32 i) (zsJ r.2 27)) tV tb_add) (evS ev_t0 e0 e1 e2 e3) (evS ev_t1 e0 e1 e2 e3) (evS ev_t2 e0 e1 e2 e3) (evS ev_t3 e0 e1 e2 e3) hi) RR op v1 v2 v3 hR
