section WRL
variable {I0 I I' : Nat → Int32} {A0 A A' : Nat → Nat → Int32} {w : List Int} {o : Int32 × MS} {x1 x2 x3 x4 x6 : Int32} {g k nd F : Nat} {L : List (List Int × List Int)} {st P : PO} {T : TRa} {r v : Int}
theorem ap_cons {w : List Int} {c : Int} {l : List Int} : w ++ [c] ++ l = w ++ (c :: l) := by simp
theorem hd_neg (h : hdC T k < 0) : tL T k = [] := by
  unfold hdC at h
  cases e : tL T k with
  | nil => rfl
  | cons a l =>
    rw [e] at h
    have h : (a : Int) < 0 := h
    omega
theorem hd_cons {a : Nat} {l : List Nat} (h : tL T k = a :: l) : hdC T k = (a : Int) := by
  unfold hdC
  rw [h]
/-- the loop over the lines that a node opens -/
theorem wl_66 {m : Nat} (hg : g ≤ 1) (h5 : (I0 5).toInt = (g : Int)) (gr : GMr A0 g L st T r) (hF : F ≤ tn T) (h6 : x6.toInt = ((301 * g + F : Nat) : Int)) {rec : Int32 → Int32 → (Nat → Int32) → (Nat → Nat → Int32) → Option (Int32 × MS)} {self8 : Int32 → Int32 → Int32 → (Nat → Int32) → (Nat → Nat → Int32) → Option (Int32 × MS)}
    (hself : ∀ (v y : Int32) (I : Nat → Int32) (A : Nat → Nat → Int32) (w : List Int) (fr : Bool), v.toInt = hdC T F → y.toInt = (if fr = true then 1 else 0) → WRi I0 A0 I A w → self8 v y 1 I A = some o → WRi I0 A0 o.2.1 o.2.2 (w ++ lnP st T m fr F)) : ∀ (l : List Nat) (n : Nat) (x4 x7 : Int32) (I : Nat → Int32) (A : Nat → Nat → Int32) (w : List Int) (fr : Bool), (∀ j ∈ l, ∀ (x : Int32) (I : Nat → Int32) (A : Nat → Nat → Int32) (w : List Int) (o' : Int32 × MS), x.toInt = (j : Int) → WRi I0 A0 I A w → rec x 0 I A = some o' → WRi I0 A0 o'.2.1 o'.2.2 (w ++ vrT st T m j)) → chn (aN A0 g) l x7.toInt → (∀ j ∈ l, 1 ≤ j ∧ j ≤ tn T) → x4.toInt = (if fr = true then 1 else 0) → WRi I0 A0 I A w → f_sayLine_66 rec self8 n x4 x6 x7 I A = some o → WRi I0 A0 o.2.1 o.2.2 (w ++ (vsT st T m l ++ (tlW T F ++ lnP st T m (fr || !l.isEmpty) F))) := by
  have h300 := gr.1.2.1.1
  have z0 : (0 : Int32).toInt = 0 := rfl
  intro l
  induction l with
  | nil =>
    intro n x4 x7 I A w fr hrec hch hl h4 h hf
    cases n with
    | zero => cases hf
    | succ n =>
      have hf : f_sayLine_66s rec self8 (f_sayLine_66 rec self8 n) x4 x6 x7 I A = some o := hf
      have h7 : x7.toInt = -1 := hch
      unfold f_sayLine_66s at hf
      rcases m_ifE hf with ⟨-, hf⟩ | ⟨d, -⟩
      rotate_left
      · replace d := ti_ltN (a := x7) (b := (0 : Int32)) d rfl z0
        omega
      obtain ⟨-, hf⟩ := m_chkE hf
      obtain ⟨v1, e1, hf⟩ := m_bndE hf
      have t1 : v1.toInt = hdC T F := by
        rw [e1, cl_n h6, h.2.2.2 10 (by decide)]
        exact trr_hd gr.1.1 hF
      have ev : vsT st T m [] = [] := rfl
      have eb : (fr || !([] : List Nat).isEmpty) = fr := by cases fr <;> rfl
      rw [ev, List.nil_append, eb]
      unfold f_sayLine_141 at hf
      rcases m_ifE hf with ⟨d, hf⟩ | ⟨d, hf⟩
      · replace d := ti_ltP (a := v1) (b := (0 : Int32)) d rfl z0
        have e0 : tL T F = [] := hd_neg (by omega)
        have et : tlW T F = [] := if_pos e0
        rw [et, List.nil_append]
        exact hself v1 x4 I A w fr t1 h4 h hf
      · replace d := ti_ltN (a := v1) (b := (0 : Int32)) d rfl z0
        have e0 : ¬ tL T F = [] := fun e => by
          have := hdC_n.2 e
          omega
        have et : tlW T F = [32] := if_neg e0
        obtain ⟨⟨r2, Ic2, Ac2⟩, h_2, hf⟩ := m_clE hf
        have W2 := (wr_ink h (by decide) h_2).1
        dsimp only at W2 hf
        have q := hself v1 x4 Ic2 Ac2 _ fr t1 h4 W2 hf
        rw [List.append_assoc] at q
        rw [et]
        exact q
  | cons j l ih =>
    intro n x4 x7 I A w fr hrec hch hl h4 h hf
    cases n with
    | zero => cases hf
    | succ n =>
      have hf : f_sayLine_66s rec self8 (f_sayLine_66 rec self8 n) x4 x6 x7 I A = some o := hf
      obtain ⟨h7, hch2⟩ := hch
      have hj := hl j List.mem_cons_self
      unfold f_sayLine_66s at hf
      rcases m_ifE hf with ⟨d, -⟩ | ⟨-, hf⟩
      · replace d := ti_ltP (a := x7) (b := (0 : Int32)) d rfl z0
        omega
      obtain ⟨⟨r3, Ic3, Ac3⟩, h_3, hf⟩ := m_clE hf
      have W3 := (wr_ink h (by decide) h_3).1
      dsimp only at W3 hf
      obtain ⟨⟨r4, Ic4, Ac4⟩, h_4, hf⟩ := m_clE hf
      have W4 := (wr_ink W3 (by decide) h_4).1
      dsimp only at W4 hf
      obtain ⟨⟨r5, Ic5, Ac5⟩, h_5, hf⟩ := m_clE hf
      have W5 := hrec j List.mem_cons_self x7 Ic4 Ac4 _ _ h7 W4 h_5
      dsimp only at W5 hf
      obtain ⟨⟨r6, Ic6, Ac6⟩, h_6, hf⟩ := m_clE hf
      have W6 := (wr_ink W5 (by decide) h_6).1
      dsimp only at W6 hf
      have e5 : Ic6 5 = I0 5 := W6.2.2.1 5 (by decide)
      obtain ⟨v7, e7, hf⟩ := m_bndE hf
      obtain ⟨v8, e8, hf⟩ := m_bndE hf
      rw [e5] at e7
      have t7 : v7.toInt = 301 * (I0 5).toInt := ti_mul e7 (show (301 : Int32).toInt = 301 from rfl) rfl (by omega) (by omega)
      have t8 : v8.toInt = v7.toInt + x7.toInt := ti_add e8 rfl rfl (by omega) (by omega)
      obtain ⟨-, hf⟩ := m_chkE hf
      obtain ⟨v9, e9, hf⟩ := m_bndE hf
      have t9 : v9.toInt = aN A0 g j := by
        rw [e9, cl_n (n := 301 * g + j) (by omega), W6.2.2.2 11 (by decide)]
        rfl
      have q := ih n 1 v9 Ic6 Ac6 _ true (fun i hi => hrec i (List.mem_cons_of_mem _ hi)) (by rw [t9]; exact hch2) (fun i hi => hl i (List.mem_cons_of_mem _ hi)) rfl W6 hf
      have eb : (fr || !(j :: l).isEmpty) = (true || !l.isEmpty) := by cases fr <;> rfl
      rw [vs_c, eb]
      simp only [List.append_assoc] at q ⊢
      exact q
/-- the lines of the reference -/
theorem wl_main (hg : g ≤ 1) (h5 : (I0 5).toInt = (g : Int)) (gr : GMr A0 g L st T r) : ∀ (m p : Nat), p ≤ tn T → tn T < p + m → ∀ (rd f : Nat) (x3 x4 : Int32) (I : Nat → Int32) (A : Nat → Nat → Int32) (w : List Int) (fr : Bool) (o : Int32 × MS), x3.toInt = hdC T p → x4.toInt = (if fr = true then 1 else 0) → WRi I0 A0 I A w → f_sayLine_8 (fr_sayLine rd) f x3 x4 1 I A = some o → WRi I0 A0 o.2.1 o.2.2 (w ++ lnP st T m fr p) := by
  have hw := gr.1.2.1
  have h300 := hw.1
  have z0 : (0 : Int32).toInt = 0 := rfl
  intro m
  induction m with
  | zero => intro p hp hm; omega
  | succ m ih =>
    intro p hp hm rd f x3 x4 I A w fr o hx h4 h hf
    have hLp := gr.1.1.2.1 p hp
    -- a node with what it opens
    have step : ∀ (rd f : Nat) (F : Nat) (os : List Nat) (x3 x4 x5 : Int32) (I : Nat → Int32) (A : Nat → Nat → Int32) (w : List Int) (fr : Bool) (o : Int32 × MS), 1 ≤ F → F ≤ tn T → p < F → x3.toInt = (F : Int) → x4.toInt = (if fr = true then 1 else 0) → (x5 = 0 → os = []) → (x5 ≠ 0 → chn (aN A0 g) os (aN A0 g F)) → (∀ j ∈ os, 1 ≤ j ∧ j ≤ tn T) → (∀ j ∈ os, ∀ (x : Int32) (I : Nat → Int32) (A : Nat → Nat → Int32) (w : List Int) (o' : Int32 × MS), x.toInt = (j : Int) → WRi I0 A0 I A w → fr_sayLine rd x 0 I A = some o' → WRi I0 A0 o'.2.1 o'.2.2 (w ++ vrT st T m j)) → WRi I0 A0 I A w → f_sayLine_8s (fr_sayLine rd) (f_sayLine_8 (fr_sayLine rd) f) x3 x4 x5 I A = some o → WRi I0 A0 o.2.1 o.2.2 (w ++ (mvT st T F fr ++ (vsT st T m os ++ (tlW T F ++ lnP st T m (rkB T F || !os.isEmpty) F)))) := by
      intro rd f F os x3 x4 x5 I A w fr o F1 F2 F3 hx h4 h50 h51 hl hrec h hf
      unfold f_sayLine_8s at hf
      rcases m_ifE hf with ⟨d, -⟩ | ⟨-, hf⟩
      · replace d := ti_ltP (a := x3) (b := (0 : Int32)) d rfl z0
        omega
      have e5 : I 5 = I0 5 := h.2.2.1 5 (by decide)
      obtain ⟨v1, e1, hf⟩ := m_bndE hf
      obtain ⟨v2, e2, hf⟩ := m_bndE hf
      rw [e5] at e1
      have t1 : v1.toInt = 301 * (I0 5).toInt := ti_mul e1 (show (301 : Int32).toInt = 301 from rfl) rfl (by omega) (by omega)
      have t2 : v2.toInt = ((301 * g + F : Nat) : Int) := by
        have : v2.toInt = v1.toInt + x3.toInt := ti_add e2 rfl rfl (by omega) (by omega)
        omega
      obtain ⟨⟨r3, Ic3, Ac3⟩, h_3, hf⟩ := m_clE hf
      have W3 := wr_move hg h5 gr F1 F2 hx h4 h h_3
      dsimp only at W3 hf
      obtain ⟨-, hf⟩ := m_chkE hf
      obtain ⟨v4, e4, hf⟩ := m_bndE hf
      have t4 : v4.toInt = ((tR T F).length : Int) := by
        rw [e4, cl_n t2, W3.2.2.2 14 (by decide)]
        exact (gr.1.1.2.2 F F2).2.2.1
      have go : ∀ (t0 : Int32), t0.toInt = (if rkB T F = true then 1 else 0) → f_sayLine_46 (fr_sayLine rd) (f_sayLine_8 (fr_sayLine rd) f) x5 v2 t0 Ic3 Ac3 = some o → WRi I0 A0 o.2.1 o.2.2 (w ++ (mvT st T F fr ++ (vsT st T m os ++ (tlW T F ++ lnP st T m (rkB T F || !os.isEmpty) F)))) := fun t0 ht hh => by
        have key : ∀ x7 : Int32, chn (aN A0 g) os x7.toInt → f_sayLine_66 (fr_sayLine rd) (f_sayLine_8 (fr_sayLine rd) f) mFuel t0 v2 x7 Ic3 Ac3 = some o → WRi I0 A0 o.2.1 o.2.2 (w ++ (mvT st T F fr ++ (vsT st T m os ++ (tlW T F ++ lnP st T m (rkB T F || !os.isEmpty) F)))) := fun x7 hc hh => by
          have q := wl_66 (m := m) hg h5 gr F2 t2 (rec := fr_sayLine rd) (self8 := f_sayLine_8 (fr_sayLine rd) f) (fun v y I A w fr hv hy hW hq => ih F F2 (by omega) rd f v y I A w fr o hv hy hW hq) os mFuel t0 x7 Ic3 Ac3 _ (rkB T F) hrec hc hl ht W3 hh
          rw [List.append_assoc] at q
          exact q
        unfold f_sayLine_46 at hh
        rcases m_ifE hh with ⟨d, hh⟩ | ⟨d, hh⟩
        · have eos := h50 d
          refine key (-1) ?_ hh
          rw [eos]
          rfl
        · obtain ⟨-, hh⟩ := m_chkE hh
          obtain ⟨v1', e1', hh⟩ := m_bndE hh
          refine key v1' ?_ hh
          have : v1'.toInt = aN A0 g F := by
            rw [e1', cl_n t2, W3.2.2.2 11 (by decide)]
            rfl
          rw [this]
          exact h51 d
      have lr : rkB T F = true ↔ tR T F ≠ [] := by
        unfold rkB
        cases tR T F with
        | nil => exact ⟨fun e => (by cases e), fun e => absurd rfl e⟩
        | cons a l => exact ⟨fun _ e => (by cases e), fun _ => rfl⟩
      rcases m_ifE hf with ⟨d, hf⟩ | ⟨d, hf⟩
      · replace d := ti_leP (a := v4) (b := (0 : Int32)) d rfl z0
        have e0 : tR T F = [] := List.length_eq_zero_iff.1 (by omega)
        exact go 0 (by rw [if_neg (fun e => lr.1 e e0)]; rfl) hf
      · replace d := ti_leN (a := v4) (b := (0 : Int32)) d rfl z0
        have e0 : tR T F ≠ [] := fun e => by
          rw [e] at t4
          have t4 : v4.toInt = 0 := t4
          omega
        exact go 1 (by rw [if_pos (lr.2 e0)]; rfl) hf
    cases f with
    | zero => cases hf
    | succ f =>
      have hf : f_sayLine_8s (fr_sayLine rd) (f_sayLine_8 (fr_sayLine rd) f) x3 x4 1 I A = some o := hf
      cases hL : tL T p with
      | nil =>
        rw [ln_n hL, List.append_nil]
        have hd : hdC T p = -1 := hdC_n.2 hL
        unfold f_sayLine_8s at hf
        rcases m_ifE hf with ⟨-, hf⟩ | ⟨d, -⟩
        · have eo := (Option.some.inj hf).symm
          rw [eo]; exact h
        · replace d := ti_ltN (a := x3) (b := (0 : Int32)) d rfl z0
          omega
      | cons F os =>
        rw [ln_c hL]
        rw [hL] at hLp
        have hmem : ∀ j ∈ F :: os, 1 ≤ j ∧ j ≤ tn T ∧ p < j := fun j hj => by
          have q := (hLp.2.2 j).1 hj
          have q2 := (gr.1.1.2.2 j q.2.1).1.1
          have q3 := (hw.2.1 j q.1 q.2.1).1
          have q4 : tP T j = (p : Int) := by rw [← q2]; exact q.2.2
          exact ⟨q.1, q.2.1, by omega⟩
        have hF := hmem F List.mem_cons_self
        refine step rd f F os x3 x4 1 I A w fr o hF.1 hF.2.1 hF.2.2 (by rw [hx, hd_cons hL]) h4 (fun e => absurd e (by decide)) (fun _ => hLp.1.2) (fun j hj => ⟨(hmem j (List.mem_cons_of_mem _ hj)).1, (hmem j (List.mem_cons_of_mem _ hj)).2.1⟩) (fun j hj x I A w o' hxj hW hq => ?_) h hf
        have hjm := hmem j (List.mem_cons_of_mem _ hj)
        cases rd with
        | zero => cases hq
        | succ rd =>
          have hq : f_sayLine_8 (fr_sayLine rd) mFuel x 1 0 I A = some o' := hq
          have st8 : ∀ f : Nat, f_sayLine_8 (fr_sayLine rd) f x 1 0 I A = some o' → WRi I0 A0 o'.2.1 o'.2.2 (w ++ (mvT st T j true ++ (vsT st T m [] ++ (tlW T j ++ lnP st T m (rkB T j || !([] : List Nat).isEmpty) j)))) := fun f hq => by
            cases f with
            | zero => cases hq
            | succ f => exact step rd f j [] x 1 0 I A w true o' hjm.1 hjm.2.1 hjm.2.2 hxj rfl (fun _ => rfl) (fun e => absurd rfl e) (fun i hi => by cases hi) (fun i hi => by cases hi) hW hq
          have q := st8 mFuel hq
          have eb : (rkB T j || !([] : List Nat).isEmpty) = rkB T j := by cases rkB T j <;> rfl
          rw [eb] at q
          exact q
theorem wl_line (hg : g ≤ 1) (h5 : (I0 5).toInt = (g : Int)) (gr : GMr A0 g L st T r) (hx : x1.toInt = hdC T 0) (h : WRi I0 A0 I A w) (hf : f_sayLine x1 1 I A = some o) : WRi I0 A0 o.2.1 o.2.2 (w ++ lnP st T 301 true 0) := by
  have h300 := gr.1.2.1.1
  exact wl_main hg h5 gr 301 0 (Nat.zero_le _) (by omega) 7 mFuel x1 1 I A w true o hx rfl h hf
/-- the result -/
theorem wr_280 (hg : g ≤ 1) (h5 : (I0 5).toInt = (g : Int)) (gr : GMr A0 g L st T r) (hr : 0 ≤ r ∧ r ≤ 3) (h6 : (I0 6).toInt = (k : Int)) (hk : k ≤ tn T) : ∀ (n : Nat) (x1 : Int32) (I : Nat → Int32) (A : Nat → Nat → Int32) (w : List Int) (j : Nat), x1.toInt = (j : Int) → j ≤ (rsW r).length → WRi I0 A0 I A (w ++ (rsW r).take j) → f_write_280 n x1 I A = some o → OUr o.2.1 o.2.2 (w ++ rsW r) ∧ o.1.toInt = ((w ++ rsW r).length : Int) ∧ (o.2.1 3).toInt ≤ 80000 := by
  have z0 : (0 : Int32).toInt = 0 := rfl
  obtain ⟨⟨tr, hw, hl⟩, sp, -, h23⟩ := id gr
  intro n
  induction n with
  | zero => intro x1 I A w j _ _ _ hf; cases hf
  | succ n ih =>
    intro x1 I A w j hx hj h hf
    have hf : f_write_280s (f_write_280 n) x1 I A = some o := hf
    unfold f_write_280s at hf
    have e5 : I 5 = I0 5 := h.2.2.1 5 (by decide)
    have i5 : (I 5).toNatClampNeg = g := cl_n (by rw [e5]; exact h5)
    obtain ⟨-, hf⟩ := m_chkE hf
    obtain ⟨v1, e1, hf⟩ := m_bndE hf
    have t1 : v1.toInt = r := by rw [e1, i5, h.2.2.2 23 (by decide)]; exact h23
    obtain ⟨⟨r2, Ic2, Ac2⟩, h_2, hf⟩ := m_clE hf
    have key2 : Ic2 = I ∧ Ac2 = A ∧ r2.toInt = ((rsW r).length : Int) := by
      have h_2 : f_resultSize_0 v1 I A = some (r2, Ic2, Ac2) := h_2
      unfold f_resultSize_0 f_resultSize_19 at h_2
      rcases m_ifE h_2 with ⟨d, h_2⟩ | ⟨d, h_2⟩
      · have d' : r = 0 := by rw [← t1, d]; rfl
        cases h_2
        rw [d']
        exact ⟨rfl, rfl, rfl⟩
      · have d' : r ≠ 0 := fun e => d (i32_of (t1.trans e))
        rcases m_ifE h_2 with ⟨d2, h_2⟩ | ⟨d2, h_2⟩
        · have d2' : r = 3 := by rw [← t1, d2]; rfl
          cases h_2
          rw [d2']
          exact ⟨rfl, rfl, rfl⟩
        · have d2' : r ≠ 3 := fun e => d2 (i32_of (t1.trans e))
          cases h_2
          refine ⟨rfl, rfl, ?_⟩
          have : r = 1 ∨ r = 2 := by omega
          rcases this with e | e <;> rw [e] <;> rfl
    obtain ⟨k1, k2, k3⟩ := key2
    dsimp only at hf
    rw [k1, k2] at hf
    rcases m_ifE hf with ⟨d, hf⟩ | ⟨d, hf⟩
    · replace d := ti_leP (a := r2) (b := x1) d rfl rfl
      have ej : j = (rsW r).length := by omega
      rw [ej, List.take_length] at h
      obtain ⟨⟨r3, Ic3, Ac3⟩, h_3, hf⟩ := m_clE hf
      have e6 : I 6 = I0 6 := h.2.2.1 6 (by decide)
      have gA : GMr A g L st T r := gmr_7 hg gr (fun j j1 j2 => h.2.2.2 j (by simp only [List.mem_cons, List.not_mem_nil, or_false]; omega))
      obtain ⟨a1, -, a3⟩ := v_place hg (by rw [e5]; exact h5) hw hl h.2.1.1 h.2.1.2 gA.1.1 gA.2.1 (by rw [e6]; exact h6) hk h_3
      dsimp only at a1 a3
      have W3 : WRi I0 A0 Ic3 Ac3 (w ++ rsW r) := wr_fr h a1.1.1 a1.1.2 (fun j hj => a3.1 j (fun e => hj (by simp only [List.mem_cons, List.not_mem_nil, or_false] at e ⊢; omega))) (fun j hj => a3.2 j (fun e => hj (by simp only [List.mem_cons, List.not_mem_nil, or_false] at e ⊢; omega)))
      have eo := (Option.some.inj hf).symm
      rw [eo]
      exact ⟨W3.1, W3.1.1, (tI_3 W3.2.1.1).2⟩
    · replace d := ti_leN (a := r2) (b := x1) d rfl rfl
      have jl : j < (rsW r).length := by omega
      obtain ⟨-, hf⟩ := m_chkE hf
      obtain ⟨v4, e4, hf⟩ := m_bndE hf
      have t4 : v4.toInt = r := by rw [e4, i5, h.2.2.2 23 (by decide)]; exact h23
      obtain ⟨⟨r5, Ic5, Ac5⟩, h_5, hf⟩ := m_clE hf
      have key5 : Ic5 = I ∧ Ac5 = A ∧ r5.toInt = wA (rsW r) (j : Int) := by
        have h_5 : f_resultSign_0 v4 x1 I A = some (r5, Ic5, Ac5) := h_5
        have ec : ∀ (a b : Int32), a.toInt = b.toInt → a = b := fun a b e => Int32.toInt_inj.1 e
        have c4 : v4 = Int32.ofInt r := i32_of t4
        have c1 : x1 = Int32.ofInt (j : Int) := i32_of hx
        have fin : ∀ (c : Int32), (∀ (y : Int32 × MS), m_chk (vp_nar .char c = c) (some (c, (I, A))) = some y → y = (c, (I, A))) := fun c y hy => by
          obtain ⟨-, hy⟩ := m_chkE hy
          exact (Option.some.inj hy).symm
        have hr4 : r = 0 ∨ r = 1 ∨ r = 2 ∨ r = 3 := by omega
        rcases hr4 with er | er | er | er
        · subst er
          have jl : j < 1 := jl
          have j0 : j = 0 := by omega
          subst j0
          unfold f_resultSign_0 at h_5
          rcases m_ifE h_5 with ⟨-, h_5⟩ | ⟨d, -⟩
          · cases fin 42 _ h_5
            exact ⟨rfl, rfl, rfl⟩
          · exact absurd c4 d
        · subst er
          have jl : j < 3 := jl
          have h_5 : m_if (x1 = 0) (f_resultSign_52 49 I A) (m_if (x1 = 1) (f_resultSign_52 45 I A) (f_resultSign_52 48 I A)) = some (r5, Ic5, Ac5) := by
            unfold f_resultSign_0 at h_5
            rcases m_ifE h_5 with ⟨d, -⟩ | ⟨-, h_5⟩
            · exact absurd (c4.symm.trans d) (by decide)
            · rcases m_ifE h_5 with ⟨-, h_5⟩ | ⟨d, -⟩
              · exact h_5
              · exact absurd c4 d
          unfold f_resultSign_52 at h_5
          rcases (show j = 0 ∨ j = 1 ∨ j = 2 by omega) with ej | ej | ej <;> subst ej
          · rcases m_ifE h_5 with ⟨-, h_5⟩ | ⟨d, -⟩
            · cases fin 49 _ h_5
              exact ⟨rfl, rfl, rfl⟩
            · exact absurd c1 d
          · rcases m_ifE h_5 with ⟨d, -⟩ | ⟨-, h_5⟩
            · exact absurd (c1.symm.trans d) (by decide)
            · rcases m_ifE h_5 with ⟨-, h_5⟩ | ⟨d, -⟩
              · cases fin 45 _ h_5
                exact ⟨rfl, rfl, rfl⟩
              · exact absurd c1 d
          · rcases m_ifE h_5 with ⟨d, -⟩ | ⟨-, h_5⟩
            · exact absurd (c1.symm.trans d) (by decide)
            · rcases m_ifE h_5 with ⟨d, -⟩ | ⟨-, h_5⟩
              · exact absurd (c1.symm.trans d) (by decide)
              · cases fin 48 _ h_5
                exact ⟨rfl, rfl, rfl⟩
        · subst er
          have jl : j < 3 := jl
          have h_5 : m_if (x1 = 0) (f_resultSign_74 48 I A) (m_if (x1 = 1) (f_resultSign_74 45 I A) (f_resultSign_74 49 I A)) = some (r5, Ic5, Ac5) := by
            unfold f_resultSign_0 at h_5
            rcases m_ifE h_5 with ⟨d, -⟩ | ⟨-, h_5⟩
            · exact absurd (c4.symm.trans d) (by decide)
            · rcases m_ifE h_5 with ⟨d, -⟩ | ⟨-, h_5⟩
              · exact absurd (c4.symm.trans d) (by decide)
              · rcases m_ifE h_5 with ⟨-, h_5⟩ | ⟨d, -⟩
                · exact h_5
                · exact absurd c4 d
          unfold f_resultSign_74 at h_5
          rcases (show j = 0 ∨ j = 1 ∨ j = 2 by omega) with ej | ej | ej <;> subst ej
          · rcases m_ifE h_5 with ⟨-, h_5⟩ | ⟨d, -⟩
            · cases fin 48 _ h_5
              exact ⟨rfl, rfl, rfl⟩
            · exact absurd c1 d
          · rcases m_ifE h_5 with ⟨d, -⟩ | ⟨-, h_5⟩
            · exact absurd (c1.symm.trans d) (by decide)
            · rcases m_ifE h_5 with ⟨-, h_5⟩ | ⟨d, -⟩
              · cases fin 45 _ h_5
                exact ⟨rfl, rfl, rfl⟩
              · exact absurd c1 d
          · rcases m_ifE h_5 with ⟨d, -⟩ | ⟨-, h_5⟩
            · exact absurd (c1.symm.trans d) (by decide)
            · rcases m_ifE h_5 with ⟨d, -⟩ | ⟨-, h_5⟩
              · exact absurd (c1.symm.trans d) (by decide)
              · cases fin 49 _ h_5
                exact ⟨rfl, rfl, rfl⟩
        · subst er
          have jl : j < 7 := jl
          have h_5 : m_if (x1 = 1) (f_resultSign_85 I A) (m_if (x1 = 5) (f_resultSign_85 I A) (m_if (x1 = 3) (f_resultSign_116 45 I A) (m_if (x1 = 0) (f_resultSign_109 I A) (m_if (x1 = 4) (f_resultSign_109 I A) (f_resultSign_116 50 I A))))) = some (r5, Ic5, Ac5) := by
            unfold f_resultSign_0 at h_5
            rcases m_ifE h_5 with ⟨d, -⟩ | ⟨-, h_5⟩
            · exact absurd (c4.symm.trans d) (by decide)
            · rcases m_ifE h_5 with ⟨d, -⟩ | ⟨-, h_5⟩
              · exact absurd (c4.symm.trans d) (by decide)
              · rcases m_ifE h_5 with ⟨d, -⟩ | ⟨-, h_5⟩
                · exact absurd (c4.symm.trans d) (by decide)
                · exact h_5
          unfold f_resultSign_85 f_resultSign_109 f_resultSign_116 at h_5
          rw [c1] at h_5
          rcases (show j = 0 ∨ j = 1 ∨ j = 2 ∨ j = 3 ∨ j = 4 ∨ j = 5 ∨ j = 6 by omega) with ej | ej | ej | ej | ej | ej | ej <;> subst ej
          · rcases m_ifE h_5 with ⟨d, -⟩ | ⟨-, h_5⟩
            · exact absurd d (by decide)
            · rcases m_ifE h_5 with ⟨d, -⟩ | ⟨-, h_5⟩
              · exact absurd d (by decide)
              · rcases m_ifE h_5 with ⟨d, -⟩ | ⟨-, h_5⟩
                · exact absurd d (by decide)
                · rcases m_ifE h_5 with ⟨-, h_5⟩ | ⟨d, -⟩
                  · cases fin 49 _ h_5
                    exact ⟨rfl, rfl, rfl⟩
                  · exact absurd rfl d
          · rcases m_ifE h_5 with ⟨-, h_5⟩ | ⟨d, -⟩
            · cases fin 47 _ h_5
              exact ⟨rfl, rfl, rfl⟩
            · exact absurd rfl d
          · rcases m_ifE h_5 with ⟨d, -⟩ | ⟨-, h_5⟩
            · exact absurd d (by decide)
            · rcases m_ifE h_5 with ⟨d, -⟩ | ⟨-, h_5⟩
              · exact absurd d (by decide)
              · rcases m_ifE h_5 with ⟨d, -⟩ | ⟨-, h_5⟩
                · exact absurd d (by decide)
                · rcases m_ifE h_5 with ⟨d, -⟩ | ⟨-, h_5⟩
                  · exact absurd d (by decide)
                  · rcases m_ifE h_5 with ⟨d, -⟩ | ⟨-, h_5⟩
                    · exact absurd d (by decide)
                    · cases fin 50 _ h_5
                      exact ⟨rfl, rfl, rfl⟩
          · rcases m_ifE h_5 with ⟨d, -⟩ | ⟨-, h_5⟩
            · exact absurd d (by decide)
            · rcases m_ifE h_5 with ⟨d, -⟩ | ⟨-, h_5⟩
              · exact absurd d (by decide)
              · rcases m_ifE h_5 with ⟨-, h_5⟩ | ⟨d, -⟩
                · cases fin 45 _ h_5
                  exact ⟨rfl, rfl, rfl⟩
                · exact absurd rfl d
          · rcases m_ifE h_5 with ⟨d, -⟩ | ⟨-, h_5⟩
            · exact absurd d (by decide)
            · rcases m_ifE h_5 with ⟨d, -⟩ | ⟨-, h_5⟩
              · exact absurd d (by decide)
              · rcases m_ifE h_5 with ⟨d, -⟩ | ⟨-, h_5⟩
                · exact absurd d (by decide)
                · rcases m_ifE h_5 with ⟨d, -⟩ | ⟨-, h_5⟩
                  · exact absurd d (by decide)
                  · rcases m_ifE h_5 with ⟨-, h_5⟩ | ⟨d, -⟩
                    · cases fin 49 _ h_5
                      exact ⟨rfl, rfl, rfl⟩
                    · exact absurd rfl d
          · rcases m_ifE h_5 with ⟨d, -⟩ | ⟨-, h_5⟩
            · exact absurd d (by decide)
            · rcases m_ifE h_5 with ⟨-, h_5⟩ | ⟨d, -⟩
              · cases fin 47 _ h_5
                exact ⟨rfl, rfl, rfl⟩
              · exact absurd rfl d
          · rcases m_ifE h_5 with ⟨d, -⟩ | ⟨-, h_5⟩
            · exact absurd d (by decide)
            · rcases m_ifE h_5 with ⟨d, -⟩ | ⟨-, h_5⟩
              · exact absurd d (by decide)
              · rcases m_ifE h_5 with ⟨d, -⟩ | ⟨-, h_5⟩
                · exact absurd d (by decide)
                · rcases m_ifE h_5 with ⟨d, -⟩ | ⟨-, h_5⟩
                  · exact absurd d (by decide)
                  · rcases m_ifE h_5 with ⟨d, -⟩ | ⟨-, h_5⟩
                    · exact absurd d (by decide)
                    · cases fin 50 _ h_5
                      exact ⟨rfl, rfl, rfl⟩
      obtain ⟨k5, k6, k7⟩ := key5
      dsimp only at hf
      rw [k5, k6] at hf
      have rb : 0 ≤ wA (rsW r) (j : Int) ∧ wA (rsW r) (j : Int) ≤ 65535 := by
        have : ∀ q : Nat, q < 4 → ∀ i : Nat, i < 7 → 0 ≤ wA (rsW (q : Int)) (i : Int) ∧ wA (rsW (q : Int)) (i : Int) ≤ 65535 := by decide
        have q7 : (rsW r).length ≤ 7 := by
          have : ∀ q : Nat, q < 4 → (rsW (q : Int)).length ≤ 7 := by decide
          have := this r.toNat (by omega)
          rw [show ((r.toNat : Nat) : Int) = r by omega] at this
          exact this
        have := this r.toNat (by omega) j (by omega)
        rw [show ((r.toNat : Nat) : Int) = r by omega] at this
        exact this
      obtain ⟨⟨r6, Ic6, Ac6⟩, h_6, hf⟩ := m_clE hf
      have W6 := (wr_ink h (by rw [k7]; exact rb) h_6).1
      dsimp only at W6 hf
      rw [k7, List.append_assoc, take_s jl] at W6
      obtain ⟨v7, e7, hf⟩ := m_bndE hf
      have q8 : (rsW r).length ≤ 7 := by
        have : ∀ q : Nat, q < 4 → (rsW (q : Int)).length ≤ 7 := by decide
        have := this r.toNat (by omega)
        rw [show ((r.toNat : Nat) : Int) = r by omega] at this
        exact this
      have t7 : v7.toInt = x1.toInt + 1 := ti_add e7 rfl (show (1 : Int32).toInt = 1 from rfl) (by omega) (by omega)
      exact ih v7 Ic6 Ac6 w (j + 1) (by omega) (by omega) W6 hf
end WRL
