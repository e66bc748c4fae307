section RDS
variable {I I' I0 : Nat → Int32} {A A1 A2 A' A0 : Nat → Nat → Int32} {g k n : Nat} {o : Int32 × MS} {x1 x2 x3 x4 x5 x6 : Int32} {ch : Int → Int} {N p : Int} {st : PO} {L : List (List Int × List Int)}
theorem rdf_u {j i : Nat} {v : Int32} (h : RDf A A1 g) (e : A2 = va_up A1 j (upd (A1 j) i v)) (hj : 7 ≤ j) (hi : j ≤ 23 → i / sz j = g) : RDf A A2 g := by
  refine ⟨fun q hq => ?_, fun q h1 h2 k hk => ?_⟩
  · rw [e, va_up_ne _ _ (by omega)]; exact h.1 q hq
  · rw [e]
    by_cases ej : q = j
    · subst ej
      rw [va_up_self, upd_ne (fun e2 => hk (by rw [e2]; exact hi h2))]
      exact h.2 q h1 h2 k hk
    · rw [va_up_ne _ _ ej]; exact h.2 q h1 h2 k hk
theorem rdf_24 {j i : Nat} {v : Int32} (h : RDf A A1 g) (e : A2 = va_up A1 j (upd (A1 j) i v)) (hj : 24 ≤ j) : RDf A A2 g := rdf_u h e (by omega) (fun h => by omega)
theorem rdf_spx (hg : g ≤ 1) (h : SPx A A' (g : Int)) : RDf A A' g := by
  refine ⟨fun j hj => h.2.2 j (by omega) (by omega), fun j h1 h2 i hi => ?_⟩
  by_cases e16 : j = 16
  · subst e16
    have hi : i / 64 ≠ g := hi
    exact h.1 i (by omega)
  · by_cases e17 : j = 17
    · subst e17
      have hi : i / 5 ≠ g := hi
      exact h.2.1 i (by omega)
    · rw [h.2.2 j e16 e17]
theorem rdt_start (hg : g ≤ 1) (h1 : x1.toInt = (g : Int)) (hf : f_start x1 I A = some o) : RDf A o.2.2 g :=
  rdf_spx hg (v_start (m := mR A) (g := (g : Int)) (by omega) h1 rfl hf).2.2
theorem rdt_clear (hg : g ≤ 1) (h1 : x1.toInt = (g : Int)) (hf : f_clearGame x1 I A = some o) : RDf A o.2.2 g := by
  have hf : f_clearGame_0 x1 I A = some o := hf
  have xn : x1.toNatClampNeg = g := cl_n h1
  unfold f_clearGame_0 at hf
  obtain ⟨-, hf⟩ := m_chkE hf
  obtain ⟨A1, e1, hf⟩ := m_bndE hf
  obtain ⟨-, hf⟩ := m_chkE hf
  obtain ⟨A2, e2, hf⟩ := m_bndE hf
  obtain ⟨-, hf⟩ := m_chkE hf
  obtain ⟨A3, e3, hf⟩ := m_bndE hf
  obtain ⟨v4, e4, hf⟩ := m_bndE hf
  have t4 : v4.toInt = 301 * x1.toInt := ti_mul e4 (show (301 : Int32).toInt = 301 from rfl) rfl (by omega) (by omega)
  have i4 : v4.toNatClampNeg = 301 * g := cl_n (by omega)
  obtain ⟨⟨r5, Ic5, Ac5⟩, h_r5, hf⟩ := m_clE hf
  dsimp only at hf
  have h5 : f_clearNode_0 v4 I A3 = some (r5, Ic5, Ac5) := h_r5
  unfold f_clearNode_0 at h5
  obtain ⟨-, h5⟩ := m_chkE h5
  obtain ⟨B1, n1, h5⟩ := m_bndE h5
  obtain ⟨-, h5⟩ := m_chkE h5
  obtain ⟨B2, n2, h5⟩ := m_bndE h5
  obtain ⟨-, h5⟩ := m_chkE h5
  obtain ⟨B3, n3, h5⟩ := m_bndE h5
  obtain ⟨-, h5⟩ := m_chkE h5
  obtain ⟨B4, n4, h5⟩ := m_bndE h5
  have i5 := Option.some.inj h5
  have j1 : I = Ic5 := congrArg (fun z => z.2.1) i5
  have j2 : B4 = Ac5 := congrArg (fun z => z.2.2) i5
  rw [← j1, ← j2] at hf
  obtain ⟨v6, e6, hf⟩ := m_bndE hf
  have t6 : v6.toInt = 301 * x1.toInt := ti_mul e6 (show (301 : Int32).toInt = 301 from rfl) rfl (by omega) (by omega)
  have i6 : v6.toNatClampNeg = 301 * g := cl_n (by omega)
  obtain ⟨-, hf⟩ := m_chkE hf
  obtain ⟨A7, e7, hf⟩ := m_bndE hf
  obtain ⟨v8, e8, hf⟩ := m_bndE hf
  have t8 : v8.toInt = 301 * x1.toInt := ti_mul e8 (show (301 : Int32).toInt = 301 from rfl) rfl (by omega) (by omega)
  have i8 : v8.toNatClampNeg = 301 * g := cl_n (by omega)
  obtain ⟨-, hf⟩ := m_chkE hf
  obtain ⟨A9, e9, hf⟩ := m_bndE hf
  rw [xn] at e1 e2 e3
  rw [i4] at n1 n2 n3 n4
  rw [i6] at e7
  rw [i8] at e9
  cases hf
  have d1 : g / 1 = g := Nat.div_one g
  have d3 : 301 * g / 301 = g := by omega
  exact rdf_u (rdf_u (rdf_u (rdf_u (rdf_u (rdf_u (rdf_u (rdf_u (rdf_u rdf_0 e1 (by decide) (fun _ => d1)) e2 (by decide) (fun _ => d1)) e3 (by decide) (fun _ => d1)) n1 (by decide) (fun _ => d3)) n2 (by decide) (fun _ => d3)) n3 (by decide) (fun _ => d3)) n4 (by decide) (fun _ => d3)) e7 (by decide) (fun _ => d3)) e9 (by decide) (fun _ => d3)
theorem rdt_us23 (hg : g ≤ 1) (h1 : x1.toInt = (g : Int)) : ∀ (n : Nat) (x2 : Int32) (I : Nat → Int32) (A : Nat → Nat → Int32), f_usual_23 n x1 x2 I A = some o → RDf A o.2.2 g := by
  intro n
  induction n with
  | zero => intro x2 I A hf; cases hf
  | succ n ih =>
    intro x2 I A hf
    have hf : f_usual_23s (f_usual_23 n) x1 x2 I A = some o := hf
    have s83 : ∀ t : Int32, f_usual_83 (f_usual_23 n) x1 x2 t I A = some o → RDf A o.2.2 g := fun t hf => by
      unfold f_usual_83 at hf
      obtain ⟨-, hf⟩ := m_chkE hf
      obtain ⟨A1, e1, hf⟩ := m_bndE hf
      obtain ⟨v2, -, hf⟩ := m_bndE hf
      obtain ⟨-, hf⟩ := m_chkE hf
      obtain ⟨A3, e3, hf⟩ := m_bndE hf
      obtain ⟨v4, -, hf⟩ := m_bndE hf
      obtain ⟨-, hf⟩ := m_chkE hf
      obtain ⟨A5, e5, hf⟩ := m_bndE hf
      obtain ⟨v6, -, hf⟩ := m_bndE hf
      obtain ⟨v7, -, hf⟩ := m_bndE hf
      obtain ⟨-, hf⟩ := m_chkE hf
      obtain ⟨A8, e8, hf⟩ := m_bndE hf
      obtain ⟨v9, -, hf⟩ := m_bndE hf
      exact rdf_t (rdf_24 (rdf_24 (rdf_24 (rdf_24 rdf_0 e1 (by decide)) e3 (by decide)) e5 (by decide)) e8 (by decide)) (ih _ _ _ hf)
    unfold f_usual_23s at hf
    rcases m_ifE hf with ⟨-, hf⟩ | ⟨-, hf⟩
    · obtain ⟨I1, -, hf⟩ := m_bndE hf
      obtain ⟨I2, -, hf⟩ := m_bndE hf
      obtain ⟨I3, -, hf⟩ := m_bndE hf
      obtain ⟨I4, -, hf⟩ := m_bndE hf
      obtain ⟨I5, -, hf⟩ := m_bndE hf
      obtain ⟨⟨r6, Ic6, Ac6⟩, h_r6, hf⟩ := m_clE hf
      have d := rdt_start hg h1 h_r6
      cases hf
      exact d
    · rcases m_ifE hf with ⟨-, hf⟩ | ⟨-, hf⟩
      · exact s83 _ hf
      · rcases m_ifE hf with ⟨-, hf⟩ | ⟨-, hf⟩
        · exact s83 _ hf
        · rcases m_ifE hf with ⟨-, hf⟩ | ⟨-, hf⟩
          · exact s83 _ hf
          · rcases m_ifE hf with ⟨-, hf⟩ | ⟨-, hf⟩
            · exact s83 _ hf
            · rcases m_ifE hf with ⟨-, hf⟩ | ⟨-, hf⟩
              · exact s83 _ hf
              · rcases m_ifE hf with ⟨-, hf⟩ | ⟨-, hf⟩
                · exact s83 _ hf
                · rcases m_ifE hf with ⟨-, hf⟩ | ⟨-, hf⟩
                  · exact s83 _ hf
                  · exact s83 _ hf
theorem rdt_usual (hg : g ≤ 1) (h1 : x1.toInt = (g : Int)) (hf : f_usual x1 I A = some o) : RDf A o.2.2 g := by
  have hf : f_usual_2 mFuel x1 0 I A = some o := hf
  have key : ∀ (n : Nat) (x2 : Int32) (A : Nat → Nat → Int32), f_usual_2 n x1 x2 I A = some o → RDf A o.2.2 g := by
    intro n
    induction n with
    | zero => intro x2 A hf; cases hf
    | succ n ih =>
      intro x2 A hf
      have hf : f_usual_2s (f_usual_2 n) x1 x2 I A = some o := hf
      unfold f_usual_2s at hf
      rcases m_ifE hf with ⟨-, hf⟩ | ⟨-, hf⟩
      · exact rdt_us23 hg h1 _ _ _ _ hf
      · obtain ⟨-, hf⟩ := m_chkE hf
        obtain ⟨A1, e1, hf⟩ := m_bndE hf
        obtain ⟨v2, -, hf⟩ := m_bndE hf
        exact rdf_t (rdf_24 rdf_0 e1 (by decide)) (ih _ _ hf)
  exact key _ _ _ hf
theorem rdt_457 (hg : g ≤ 1) (h1 : x1.toInt = (g : Int)) (hf : f_readTag_457 x1 I A = some o) : RDf A o.2.2 g := by
  have xn : x1.toNatClampNeg = g := cl_n h1
  unfold f_readTag_457 at hf
  obtain ⟨-, hf⟩ := m_chkE hf
  obtain ⟨v1, -, hf⟩ := m_bndE hf
  obtain ⟨v2, -, hf⟩ := m_bndE hf
  obtain ⟨-, hf⟩ := m_chkE hf
  obtain ⟨A3, e3, hf⟩ := m_bndE hf
  cases hf
  rw [xn] at e3
  exact rdf_u rdf_0 e3 (by decide) (fun _ => Nat.div_one g)
theorem rdt_ft {c : Int32} (hf : (m_cl (f_fault c x2 I A) (fun r1 Ic1 Ac1 => some (r1, (Ic1, Ac1)))) = some o) : RDf A o.2.2 g := by
  obtain ⟨r1, -, hf⟩ := m_clR hf (fun _ h => rro_fault h)
  cases hf
  exact rdf_0
theorem bl_A (hf : f_blanks I A = some o) : o.2.2 = A := by
  have f := fw_blanks hf
  funext j
  exact f.2 j (fun h => by cases h)
/-- a tag's value: only game g's tables change -/
theorem rdt_175 (hg : g ≤ 1) (h1 : x1.toInt = (g : Int)) (h3 : x3.toInt = (k : Int)) (hk : k ≤ 8) (h4 : x4 = 0 → k < 8) : ∀ (n : Nat) (x6 : Int32) (I : Nat → Int32) (A : Nat → Nat → Int32), 0 ≤ x6.toInt → x6.toInt + (n : Int) ≤ 200000 → f_readTag_175 n x1 x2 x3 x4 x5 x6 I A = some o → RDf A o.2.2 g := by
  intro n
  induction n with
  | zero => intro x6 I A _ _ hf; cases hf
  | succ n ih =>
    intro x6 I A h6 h6n hf
    have hf : f_readTag_175s (f_readTag_175 n) x1 x2 x3 x4 x5 x6 I A = some o := hf
    have s293 : ∀ {I : Nat → Int32} {A : Nat → Nat → Int32}, f_readTag_293 (f_readTag_175 n) x1 x2 x3 x4 x5 x6 I A = some o → RDf A o.2.2 g := fun {I A} hf => by
      unfold f_readTag_293 at hf
      obtain ⟨v1, e1, hf⟩ := m_bndE hf
      obtain ⟨v2, -, hf⟩ := m_bndE hf
      obtain ⟨I3, -, hf⟩ := m_bndE hf
      have t1 : v1.toInt = x6.toInt + 1 := ti_add e1 rfl (show (1 : Int32).toInt = 1 from rfl) (by omega) (by omega)
      exact ih v1 I3 A (by omega) (by omega) hf
    have s230 : ∀ {I : Nat → Int32} {A : Nat → Nat → Int32}, f_readTag_230 (f_readTag_175 n) x1 x2 x3 x4 x5 x6 I A = some o → RDf A o.2.2 g := fun {I A} hf => by
      unfold f_readTag_230 at hf
      rcases m_ifE hf with ⟨-, hf⟩ | ⟨-, hf⟩
      · unfold f_readTag_250 at hf
        exact rdt_ft hf
      · obtain ⟨r1, -, hf⟩ := m_clR hf (fun _ h => rro_look h)
        rcases m_ifE hf with ⟨-, hf⟩ | ⟨-, hf⟩
        · unfold f_readTag_250 at hf
          exact rdt_ft hf
        · rcases m_ifE hf with ⟨-, hf⟩ | ⟨c1, hf⟩
          · exact s293 hf
          · replace c1 := ti_leN (a := (96 : Int32)) (b := x6) c1 (show (96 : Int32).toInt = 96 from rfl) rfl
            rcases m_ifE hf with ⟨c2, hf⟩ | ⟨-, hf⟩
            · obtain ⟨v2, e2, hf⟩ := m_bndE hf
              obtain ⟨v3, e3, hf⟩ := m_bndE hf
              obtain ⟨v4, e4, hf⟩ := m_bndE hf
              obtain ⟨v5, e5, hf⟩ := m_bndE hf
              obtain ⟨r6, -, hf⟩ := m_clR hf (fun _ h => rro_look h)
              obtain ⟨-, hf⟩ := m_chkE hf
              obtain ⟨A7, e7, hf⟩ := m_bndE hf
              have t2 : v2.toInt = 768 * x1.toInt := ti_mul e2 (show (768 : Int32).toInt = 768 from rfl) rfl (by omega) (by omega)
              have t3 : v3.toInt = 96 * x3.toInt := ti_mul e3 (show (96 : Int32).toInt = 96 from rfl) rfl (by omega) (by omega)
              have t4 : v4.toInt = v2.toInt + v3.toInt := ti_add e4 rfl rfl (by omega) (by omega)
              have t5 : v5.toInt = v4.toInt + x6.toInt := ti_add e5 rfl rfl (by omega) (by omega)
              have k8 := h4 c2
              have i5 : v5.toNatClampNeg = 768 * g + 96 * k + x6.toInt.toNat := cl_n (by omega)
              rw [i5] at e7
              exact rdf_t (rdf_u rdf_0 e7 (by decide) (fun _ => by rw [show sz 22 = 768 from rfl]; omega)) (s293 hf)
            · exact s293 hf
    unfold f_readTag_175s at hf
    obtain ⟨r1, -, hf⟩ := m_clR hf (fun _ h => rro_look h)
    rcases m_ifE hf with ⟨-, hf⟩ | ⟨-, hf⟩
    · obtain ⟨v2, -, hf⟩ := m_bndE hf
      obtain ⟨I3, -, hf⟩ := m_bndE hf
      obtain ⟨⟨r4, Ic4, Ac4⟩, h_r4, hf⟩ := m_clE hf
      dsimp only at hf
      have b4 : Ac4 = A := bl_A h_r4
      rw [b4] at hf
      obtain ⟨r5, -, hf⟩ := m_clR hf (fun _ h => rro_look h)
      rcases m_ifE hf with ⟨-, hf⟩ | ⟨-, hf⟩
      · obtain ⟨v6, -, hf⟩ := m_bndE hf
        obtain ⟨I7, -, hf⟩ := m_bndE hf
        have s370 : ∀ {I : Nat → Int32} {A : Nat → Nat → Int32}, f_readTag_370 x2 I A = some o → RDf A o.2.2 g := fun {I A} hf => by
          unfold f_readTag_370 at hf
          exact rdt_ft hf
        rcases m_ifE hf with ⟨c4, hf⟩ | ⟨-, hf⟩
        · have k8 := h4 c4
          rcases m_ifE hf with ⟨-, hf⟩ | ⟨-, hf⟩
          · exact s370 hf
          · rcases m_ifE hf with ⟨-, hf⟩ | ⟨-, hf⟩
            · obtain ⟨v8, e8, hf⟩ := m_bndE hf
              obtain ⟨v9, e9, hf⟩ := m_bndE hf
              obtain ⟨-, hf⟩ := m_chkE hf
              obtain ⟨A10, e10, hf⟩ := m_bndE hf
              obtain ⟨v11, e11, hf⟩ := m_bndE hf
              obtain ⟨v12, e12, hf⟩ := m_bndE hf
              obtain ⟨-, hf⟩ := m_chkE hf
              obtain ⟨A13, e13, hf⟩ := m_bndE hf
              have t8 : v8.toInt = 8 * x1.toInt := ti_mul e8 (show (8 : Int32).toInt = 8 from rfl) rfl (by omega) (by omega)
              have t9 : v9.toInt = v8.toInt + x3.toInt := ti_add e9 rfl rfl (by omega) (by omega)
              have t11 : v11.toInt = 8 * x1.toInt := ti_mul e11 (show (8 : Int32).toInt = 8 from rfl) rfl (by omega) (by omega)
              have t12 : v12.toInt = v11.toInt + x3.toInt := ti_add e12 rfl rfl (by omega) (by omega)
              have i9 : v9.toNatClampNeg = 8 * g + k := cl_n (by omega)
              have i12 : v12.toNatClampNeg = 8 * g + k := cl_n (by omega)
              rw [i9] at e10
              rw [i12] at e13
              have d8 : (8 * g + k) / 8 = g := by omega
              have R : RDf A A13 g := rdf_u (rdf_u rdf_0 e10 (by decide) (fun _ => d8)) e13 (by decide) (fun _ => d8)
              obtain ⟨r14, -, hf⟩ := m_clR hf (fun _ h => rro_isNameThere h)
              rcases m_ifE hf with ⟨-, hf⟩ | ⟨-, hf⟩
              · obtain ⟨r15, -, hf⟩ := m_clR hf (fun _ h => rro_isTag h)
                rcases m_ifE hf with ⟨-, hf⟩ | ⟨-, hf⟩
                · exact rdf_t R (rdt_457 hg h1 hf)
                · obtain ⟨v16, -, hf⟩ := m_bndE hf
                  obtain ⟨v17, -, hf⟩ := m_bndE hf
                  obtain ⟨v18, -, hf⟩ := m_bndE hf
                  obtain ⟨⟨r19, Ic19, Ac19⟩, h_r19, hf⟩ := m_clE hf
                  dsimp only at hf
                  have fp := fw_readPosition h_r19
                  dsimp only at fp
                  have R2 : RDf A Ac19 g := rdf_t R (rdf_hi (fun j hj => fp.2 j (by simp only [List.mem_cons, List.not_mem_nil, or_false]; omega)))
                  rcases m_ifE hf with ⟨-, hf⟩ | ⟨-, hf⟩
                  · exact rdf_t R2 (rdt_ft hf)
                  · obtain ⟨⟨r20, Ic20, Ac20⟩, h_r20, hf⟩ := m_clE hf
                    dsimp only at hf
                    exact rdf_t (rdf_t R2 (rdt_start hg h1 h_r20)) (rdt_457 hg h1 hf)
              · exact rdf_t R (rdt_ft hf)
            · exact s370 hf
        · exact s370 hf
      · exact rdt_ft hf
    · obtain ⟨r24, -, hf⟩ := m_clR hf (fun _ h => rro_look h)
      rcases m_ifE hf with ⟨-, hf⟩ | ⟨-, hf⟩
      · obtain ⟨v25, -, hf⟩ := m_bndE hf
        obtain ⟨I26, -, hf⟩ := m_bndE hf
        obtain ⟨r27, -, hf⟩ := m_clR hf (fun _ h => rro_look h)
        rcases m_ifE hf with ⟨-, hf⟩ | ⟨-, hf⟩
        · exact s230 hf
        · obtain ⟨r28, -, hf⟩ := m_clR hf (fun _ h => rro_look h)
          rcases m_ifE hf with ⟨-, hf⟩ | ⟨-, hf⟩
          · exact s230 hf
          · exact rdt_ft hf
      · exact s230 hf
/-- a tag's name -/
theorem rdt_71 (hg : g ≤ 1) (h1 : x1.toInt = (g : Int)) (h3 : x3.toInt = (k : Int)) (hk : k ≤ 8) (h4 : x4 = 0 → k < 8) : ∀ (n : Nat) (x5 : Int32) (I : Nat → Int32) (A : Nat → Nat → Int32), 0 ≤ x5.toInt → x5.toInt + (n : Int) ≤ 200000 → f_readTag_71 n x1 x2 x3 x4 x5 I A = some o → RDf A o.2.2 g := by
  intro n
  induction n with
  | zero => intro x5 I A _ _ hf; cases hf
  | succ n ih =>
    intro x5 I A h5 h5n hf
    have hf : f_readTag_71s (f_readTag_71 n) x1 x2 x3 x4 x5 I A = some o := hf
    have s124 : ∀ {I : Nat → Int32} {A : Nat → Nat → Int32}, f_readTag_124 (f_readTag_71 n) x1 x2 x3 x4 x5 I A = some o → RDf A o.2.2 g := fun {I A} hf => by
      unfold f_readTag_124 at hf
      obtain ⟨v1, e1, hf⟩ := m_bndE hf
      obtain ⟨v2, -, hf⟩ := m_bndE hf
      obtain ⟨I3, -, hf⟩ := m_bndE hf
      have t1 : v1.toInt = x5.toInt + 1 := ti_add e1 rfl (show (1 : Int32).toInt = 1 from rfl) (by omega) (by omega)
      exact ih v1 I3 A (by omega) (by omega) hf
    have s91 : ∀ {I : Nat → Int32} {A : Nat → Nat → Int32}, f_readTag_91 (f_readTag_71 n) x1 x2 x3 x4 x5 I A = some o → RDf A o.2.2 g := fun {I A} hf => by
      unfold f_readTag_91 at hf
      rcases m_ifE hf with ⟨-, hf⟩ | ⟨c1, hf⟩
      · exact s124 hf
      · replace c1 := ti_leN (a := (12 : Int32)) (b := x5) c1 (show (12 : Int32).toInt = 12 from rfl) rfl
        rcases m_ifE hf with ⟨c2, hf⟩ | ⟨-, hf⟩
        · obtain ⟨v1, e1, hf⟩ := m_bndE hf
          obtain ⟨v2, e2, hf⟩ := m_bndE hf
          obtain ⟨v3, e3, hf⟩ := m_bndE hf
          obtain ⟨v4, e4, hf⟩ := m_bndE hf
          obtain ⟨r5, -, hf⟩ := m_clR hf (fun _ h => rro_look h)
          obtain ⟨-, hf⟩ := m_chkE hf
          obtain ⟨A6, e6, hf⟩ := m_bndE hf
          have t1 : v1.toInt = 96 * x1.toInt := ti_mul e1 (show (96 : Int32).toInt = 96 from rfl) rfl (by omega) (by omega)
          have t2 : v2.toInt = 12 * x3.toInt := ti_mul e2 (show (12 : Int32).toInt = 12 from rfl) rfl (by omega) (by omega)
          have t3 : v3.toInt = v1.toInt + v2.toInt := ti_add e3 rfl rfl (by omega) (by omega)
          have t4 : v4.toInt = v3.toInt + x5.toInt := ti_add e4 rfl rfl (by omega) (by omega)
          have k8 := h4 c2
          have i4 : v4.toNatClampNeg = 96 * g + 12 * k + x5.toInt.toNat := cl_n (by omega)
          rw [i4] at e6
          exact rdf_t (rdf_u rdf_0 e6 (by decide) (fun _ => by rw [show sz 20 = 96 from rfl]; omega)) (s124 hf)
        · exact s124 hf
    unfold f_readTag_71s at hf
    obtain ⟨r1, -, hf⟩ := m_clR hf (fun _ h => rro_look h)
    obtain ⟨r2, -, hf⟩ := m_clR hf (fun _ h => rro_isLetter h)
    rcases m_ifE hf with ⟨-, hf⟩ | ⟨-, hf⟩
    · obtain ⟨r3, -, hf⟩ := m_clR hf (fun _ h => rro_look h)
      obtain ⟨r4, -, hf⟩ := m_clR hf (fun _ h => rro_isDigit h)
      rcases m_ifE hf with ⟨-, hf⟩ | ⟨-, hf⟩
      · obtain ⟨⟨r5, Ic5, Ac5⟩, h_r5, hf⟩ := m_clE hf
        dsimp only at hf
        have b5 : Ac5 = A := bl_A h_r5
        rw [b5] at hf
        obtain ⟨r6, -, hf⟩ := m_clR hf (fun _ h => rro_look h)
        rcases m_ifE hf with ⟨-, hf⟩ | ⟨-, hf⟩
        · obtain ⟨v7, -, hf⟩ := m_bndE hf
          obtain ⟨I8, -, hf⟩ := m_bndE hf
          exact rdt_175 hg h1 h3 hk h4 mFuel 0 _ _ (by decide) (by decide) hf
        · exact rdt_ft hf
      · exact s91 hf
    · exact s91 hf
theorem rdt_tag (hg : g ≤ 1) (hA : TK A) (h1 : x1.toInt = (g : Int)) (hf : f_readTag x1 I A = some o) : RDf A o.2.2 g := by
  have hf : f_readTag_0 x1 I A = some o := hf
  have s23 : ∀ {x2 x3 t0 : Int32} {k : Nat}, x3.toInt = (k : Int) → k ≤ 8 → (t0 = 0 → k < 8) → f_readTag_23 x1 x2 x3 t0 I A = some o → RDf A o.2.2 g := fun {x2 x3 t0 k} h3 hk h4 hf => by
    unfold f_readTag_23 at hf
    obtain ⟨v1, -, hf⟩ := m_bndE hf
    obtain ⟨I2, -, hf⟩ := m_bndE hf
    obtain ⟨⟨r3, Ic3, Ac3⟩, h_r3, hf⟩ := m_clE hf
    dsimp only at hf
    have b3 : Ac3 = A := bl_A h_r3
    rw [b3] at hf
    obtain ⟨r4, -, hf⟩ := m_clR hf (fun _ h => rro_look h)
    obtain ⟨r5, -, hf⟩ := m_clR hf (fun _ h => rro_isLetter h)
    rcases m_ifE hf with ⟨-, hf⟩ | ⟨-, hf⟩
    · obtain ⟨r6, -, hf⟩ := m_clR hf (fun _ h => rro_look h)
      obtain ⟨r7, -, hf⟩ := m_clR hf (fun _ h => rro_isDigit h)
      rcases m_ifE hf with ⟨-, hf⟩ | ⟨-, hf⟩
      · exact rdt_ft hf
      · exact rdt_71 hg h1 h3 hk h4 mFuel 0 _ _ (by decide) (by decide) hf
    · exact rdt_71 hg h1 h3 hk h4 mFuel 0 _ _ (by decide) (by decide) hf
  unfold f_readTag_0 at hf
  obtain ⟨-, hf⟩ := m_chkE hf
  obtain ⟨v1, e1, hf⟩ := m_bndE hf
  have b : 0 ≤ v1.toInt ∧ v1.toInt ≤ 8 := by rw [e1]; exact hA 18 x1.toNatClampNeg
  have h3 : v1.toInt = ((v1.toInt.toNat : Nat) : Int) := by omega
  rcases m_ifE hf with ⟨-, hf⟩ | ⟨c, hf⟩
  · exact s23 h3 (by omega) (fun e => by cases e) hf
  · replace c := ti_eqN (a := v1) (b := (8 : Int32)) c rfl (show (8 : Int32).toInt = 8 from rfl)
    exact s23 h3 (by omega) (fun _ => by omega) hf
theorem rdt_74 (hg : g ≤ 1) (h1 : x1.toInt = (g : Int)) : ∀ (n : Nat) (x4 : Int32) (I : Nat → Int32) (A : Nat → Nat → Int32), f_readGame_74 n x1 x3 x4 I A = some o → RDf A o.2.2 g := by
  have xn : x1.toNatClampNeg = g := cl_n h1
  intro n
  induction n with
  | zero => intro x4 I A hf; cases hf
  | succ n ih =>
    intro x4 I A hf
    have hf : f_readGame_74s (f_readGame_74 n) x1 x3 x4 I A = some o := hf
    have s117 : ∀ {I : Nat → Int32} {A : Nat → Nat → Int32}, f_readGame_117 (f_readGame_74 n) x1 x3 x4 I A = some o → RDf A o.2.2 g := fun {I A} hf => by
      unfold f_readGame_117 at hf
      obtain ⟨v1, -, hf⟩ := m_bndE hf
      exact ih _ _ _ hf
    have s154 : ∀ {t0 t1 : Int32} {I : Nat → Int32} {A : Nat → Nat → Int32}, f_readGame_154 t0 t1 I A = some o → RDf A o.2.2 g := fun {t0 t1 I A} hf => by
      unfold f_readGame_154 at hf
      obtain ⟨v1, -, hf⟩ := m_bndE hf
      obtain ⟨I2, -, hf⟩ := m_bndE hf
      obtain ⟨⟨r3, Ic3, Ac3⟩, h_r3, hf⟩ := m_clE hf
      dsimp only at hf
      have b3 : Ac3 = A := bl_A h_r3
      rw [b3] at hf
      rcases m_ifE hf with ⟨-, hf⟩ | ⟨-, hf⟩
      · unfold f_readGame_185 at hf
        cases hf
        exact rdf_0
      · obtain ⟨r4, -, hf⟩ := m_clR hf (fun _ h => rro_fault h)
        unfold f_readGame_185 at hf
        cases hf
        exact rdf_0
    unfold f_readGame_74s at hf
    obtain ⟨-, hf⟩ := m_chkE hf
    obtain ⟨v1, -, hf⟩ := m_bndE hf
    rcases m_ifE hf with ⟨-, hf⟩ | ⟨-, hf⟩
    · obtain ⟨-, hf⟩ := m_chkE hf
      obtain ⟨A2, e2, hf⟩ := m_bndE hf
      rw [xn] at e2
      have R : RDf A A2 g := rdf_u rdf_0 e2 (by decide) (fun _ => Nat.div_one g)
      rcases m_ifE hf with ⟨-, hf⟩ | ⟨-, hf⟩
      · exact rdf_t R (s154 hf)
      · rcases m_ifE hf with ⟨-, hf⟩ | ⟨-, hf⟩
        · exact rdf_t R (s154 hf)
        · exact rdf_t R (s154 hf)
    · obtain ⟨r3, -, hf⟩ := m_clR hf (fun _ h => rro_isTag h)
      rcases m_ifE hf with ⟨-, hf⟩ | ⟨-, hf⟩
      · exact s117 hf
      · obtain ⟨r4, -, hf⟩ := m_clR hf (fun _ h => rro_isResultValue h)
        rcases m_ifE hf with ⟨-, hf⟩ | ⟨-, hf⟩
        · exact rdt_ft hf
        · exact s117 hf
theorem rdt_59 (hg : g ≤ 1) (h1 : x1.toInt = (g : Int)) (hf : f_readGame_59 x1 x2 I A = some o) : RDf A o.2.2 g := by
  unfold f_readGame_59 at hf
  rcases m_ifE hf with ⟨-, hf⟩ | ⟨-, hf⟩
  · obtain ⟨⟨r1, Ic1, Ac1⟩, h_r1, hf⟩ := m_clE hf
    dsimp only at hf
    have f := fw_resultHere h_r1
    dsimp only at f
    exact rdf_t (rdf_hi (fun j _ => f.2 j (fun h => by cases h))) (rdt_74 hg h1 _ _ _ _ hf)
  · cases hf
    exact rdf_0
theorem rs_d (h : RSt I0 I A0 A g ch N p st T00) : RDf A0 A g := h.2.2.2.2.2.2.1
/-- the moves of a game -/
theorem rdt_RGT (h : HRt I A g ch N p st L T00) (h1 : x1.toInt = (g : Int)) (hf : RGT x1 I A = some o) : RDf A o.2.2 g := by
  have hg := h.1.2.2.1
  unfold RGT at hf
  obtain ⟨⟨r4, Ic4, Ac4⟩, h_r4, hf⟩ := m_clE hf
  dsimp only at hf
  rcases rs_rk (rs_hr h) h1 (x2 := 0) (k := 0) rfl (Nat.zero_le _) h_r4 with ⟨e, w, c1, c2, c3⟩ | ⟨c1, c2, c3⟩
  · dsimp only at c2 c3
    have D4 : RDf A Ac4 g := c3.2.2.2.2.2.2.1
    rcases m_ifE hf with ⟨-, hf⟩ | ⟨-, hf⟩
    · obtain ⟨⟨r5, Ic5, Ac5⟩, h_r5, hf⟩ := m_clE hf
      dsimp only at hf
      have h5 : fr_readLine 8 x1 0 0 Ic4 Ac4 = some (r5, Ic5, Ac5) := h_r5
      have hl := rl_all h1 8 0 0 Ic4 Ac4 0 [] e (rkT T00 0 w) _ rfl (Nat.zero_le _) rfl (by decide) c3 h5
      have D5 : RDf A Ac5 g := by
        rcases hl with ⟨d1, d2, d3⟩ | ⟨d1, e2, T', d2, d3, d4⟩
        · exact d2.1
        · exact d2.2.2.2.2.2.2.1
      exact rdf_t D5 (rdt_59 hg h1 hf)
    · exact rdf_t D4 (rdt_59 hg h1 hf)
  · dsimp only at c2 c3
    have D4 : RDf A Ac4 g := c3.1
    rcases m_ifE hf with ⟨k1, hf⟩ | ⟨-, hf⟩
    · replace k1 := ti_leP (a := r4) (b := (0 : Int32)) k1 rfl (show (0 : Int32).toInt = 0 from rfl)
      omega
    · exact rdf_t D4 (rdt_59 hg h1 hf)
theorem rdt_9 (h1 : x1.toInt = (g : Int)) : ∀ (n : Nat) (I : Nat → Int32) (A : Nat → Nat → Int32) (p : Int) (L : List (List Int × List Int)) (st : PO), HRt I A g ch N p st L T00 → f_readGame_9 n x1 I A = some o → RDf A o.2.2 g := by
  intro n
  induction n with
  | zero => intro I A p L st _ hf; cases hf
  | succ n ih =>
    intro I A p L st h hf
    have hf : f_readGame_9s (f_readGame_9 n) x1 I A = some o := hf
    have hg := h.1.2.2.1
    unfold f_readGame_9s at hf
    obtain ⟨r1, h_r1, hf⟩ := m_clR hf (fun _ h => rro_look h)
    have q1 := rv_lk h.1.1 h_r1
    dsimp only at q1
    rcases m_ifE hf with ⟨c1, hf⟩ | ⟨c1, hf⟩
    · replace c1 := ti_eqP (a := r1) (b := (91 : Int32)) c1 rfl (show (91 : Int32).toInt = 91 from rfl)
      obtain ⟨⟨r4, Ic4, Ac4⟩, h_r4, hf⟩ := m_clE hf
      dsimp only at hf
      have D4 : RDf A Ac4 g := rdt_tag hg h.1.1.1.2 h1 h_r4
      rcases v_tag1 h (by omega) h1 h_r4 with ⟨r, a1, a2, a3⟩ | ⟨a1, a2⟩
      · dsimp only at a2 a3
        rcases m_ifE hf with ⟨-, hf⟩ | ⟨c2, hf⟩
        · obtain ⟨⟨r5, Ic5, Ac5⟩, h_r5, hf⟩ := m_clE hf
          dsimp only at hf
          obtain ⟨⟨rv, hp, -, h29⟩, tg, sp, tr, pg⟩ := a3
          obtain ⟨b1, b2, b3, b4, b5⟩ := rv_bl rv h_r5
          dsimp only at b2 b3 b4
          rw [b3] at hf b2
          exact rdf_t D4 (ih Ic5 Ac4 _ _ _ ⟨⟨b2, by omega, hg, by rw [b4 29 (by decide)]; exact h29⟩, tg, sp, tr, pg⟩ hf)
        · cases hf
          exact D4
      · dsimp only at a2
        rcases m_ifE hf with ⟨c2, hf⟩ | ⟨c2, hf⟩
        · replace c2 := ti_leP (a := r4) (b := (0 : Int32)) c2 rfl (show (0 : Int32).toInt = 0 from rfl)
          omega
        · cases hf
          exact D4
    · exact rdt_RGT h h1 hf
/-- whatever read answers, the other game's tables stay -/
theorem rdt_read (hI : TJ I) (hA : TK A) (hc : txR I A = ch) (hn : (I 1).toInt = N) (hN : 0 ≤ N ∧ N ≤ 2000) (hcb : ∀ i, 0 ≤ ch i ∧ ch i ≤ 127) (h5 : (I 5).toInt = 1 - (g : Int)) (hg : g ≤ 1) (hf : f_read I A = some o) : RDf A o.2.2 g := by
  have hf : f_read_0 I A = some o := hf
  unfold f_read_0 at hf
  obtain ⟨I1, e1, hf⟩ := m_bndE hf
  have hI1 : TJ I1 := by rw [e1]; exact tj_u hI (show (0 : Int) ≤ (0 : Int32).toInt by decide) (show (0 : Int32).toInt ≤ (2 : Int) by decide)
  have j5 : I1 5 = I 5 := by rw [e1, upd_ne (by decide)]
  obtain ⟨v2, e2, hf⟩ := m_bndE hf
  have t2 : v2.toInt = 1 - (I1 5).toInt := ti_sub e2 (show (1 : Int32).toInt = 1 from rfl) rfl (by rw [j5]; omega) (by rw [j5]; omega)
  have q2 : v2.toInt = (g : Int) := by rw [t2, j5]; omega
  obtain ⟨⟨r3, Ic3, Ac3⟩, h_r3, hf⟩ := m_clE hf
  dsimp only at hf
  obtain ⟨hI3, hA3, -⟩ := ok_of (t_clearGame2 (gg := g) (x1 := v2) hI1 hA (by omega) q2) h_r3
  obtain ⟨a1, a2, a3⟩ := v_clearGame hg q2 h_r3
  have fc := fw_clearGame h_r3
  have D3 := rdt_clear hg q2 h_r3
  dsimp only at a1 a2 a3 hI3 hA3 fc D3
  obtain ⟨⟨r4, Ic4, Ac4⟩, h_r4, hf⟩ := m_clE hf
  dsimp only at hf
  obtain ⟨hI4, hA4, h29⟩ := ok_of (t_usual (x1 := v2) hI3 hA3 (by omega)) h_r4
  have sp4 := v_usual hg q2 h_r4
  have fu := fw_usual h_r4
  have D4 := rdf_t D3 (rdt_usual hg q2 h_r4)
  dsimp only at hI4 hA4 h29 sp4 fu D4
  have tr4 : TRr Ac4 g T00 := trr_e hg (Nat.zero_le _) a2 (by rw [fu.2 7 (by decide)]) (fun j hj => fu.2 j (by simp only [List.mem_cons, List.not_mem_nil, or_false]; omega))
  have tg4 : TGr Ac4 (g : Int) [] := tgr_e a3 (fun j j1 j2 => fu.2 j (by simp only [List.mem_cons, List.not_mem_nil, or_false]; omega))
  have k1 : ∀ j, j ≠ 0 → j ∉ [25, 26, 27, 28, 29] → Ic4 j = I j := fun j h0 hj => by
    rw [fu.1 j hj, a1, e1, upd_ne h0]
  have k2 : Ac4 2 = A 2 := by rw [fu.2 2 (by decide), fc.2 2 (by decide)]
  have c4 : txR Ic4 Ac4 = ch := by
    rw [← hc]
    funext i
    unfold txR
    rw [k1 1 (by decide) (by decide), k2]
  obtain ⟨⟨r5, Ic5, Ac5⟩, h_r5, hf⟩ := m_clE hf
  dsimp only at hf
  have D5 : RDf A Ac5 g := by
    have hg5 : f_readGame_0 v2 Ic4 Ac4 = some (r5, Ic5, Ac5) := h_r5
    unfold f_readGame_0 at hg5
    obtain ⟨I7, e7, hg5⟩ := m_bndE hg5
    have j1 : I7 1 = Ic4 1 := by rw [e7, upd_ne (by decide)]
    have R1 : RV I7 Ac4 ch N 0 := ⟨⟨by rw [e7]; exact tj_u hI4 (show (0 : Int) ≤ (0 : Int32).toInt by decide) (show (0 : Int32).toInt ≤ (2100 : Int) by decide), hA4⟩, ⟨by rw [← c4]; funext i; unfold txR; rw [j1], by rw [j1, k1 1 (by decide) (by decide)]; exact hn, hN⟩, hcb, by rw [e7, upd_self]; rfl, by decide, by decide⟩
    obtain ⟨⟨r2, Ic2, Ac2⟩, h_r2, hg5⟩ := m_clE hg5
    dsimp only at hg5
    obtain ⟨b1, b2, b3, b4, b5⟩ := rv_bl R1 h_r2
    dsimp only at b2 b3 b4
    rw [b3] at hg5 b2
    have i29 : Ic2 29 = Ic4 29 := by rw [b4 29 (by decide), e7, upd_ne (by decide)]
    exact rdf_t D4 (rdt_9 q2 mFuel Ic2 Ac4 (blk ch 0) [] st00 ⟨⟨b2, by omega, hg, by rw [i29]; omega⟩, tg4, sp4, ⟨tr4, wt_00, rfl⟩, pgd_00, by decide, by decide⟩ hg5)
  have fin : ∀ {x2 : Int32} {I' : Nat → Int32}, f_read_47 x2 I' Ac5 = some o → RDf A o.2.2 g := fun {x2 I'} hf => by
    obtain ⟨d1, d2, d3⟩ := rd_47 hf
    exact rdf_t D5 (rdf_hi (fun j hj => d3 j (by simp only [List.mem_cons, List.not_mem_nil, or_false]; omega)))
  rcases m_ifE hf with ⟨-, hf⟩ | ⟨-, hf⟩
  · obtain ⟨I6, e6, hf⟩ := m_bndE hf
    obtain ⟨I7, e7, hf⟩ := m_bndE hf
    obtain ⟨I8, e8, hf⟩ := m_bndE hf
    exact fin hf
  · exact fin hf
end RDS
