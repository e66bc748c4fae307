theorem chL_n {M : Nat → Int} {m : Int} : ∀ l : List Nat, chL M m l = -1 ∨ 0 ≤ chL M m l
  | [] => Or.inl rfl
  | k :: l => by
    show (if M k = m then (k : Int) else chL M m l) = -1 ∨ 0 ≤ (if M k = m then (k : Int) else chL M m l)
    split
    · right; omega
    · exact chL_n l
section RVM
variable {I I0 : Nat → Int32} {A A0 : Nat → Nat → Int32} {g la : Nat} {ch : Int → Int} {N p a : Int} {st : PO} {T : TRa} {o : Int32 × MS} {x1 x2 x3 : Int32}
/-- how the reference's move ends, behind its number -/
noncomputable def MRo (I0 : Nat → Int32) (A0 : Nat → Nat → Int32) (g : Nat) (ch : Int → Int) (N : Int) (st : PO) (T : TRa) (la : Nat) (a : Int) (o : Int32 × MS) : Prop := (isL (ch a) ∧ 0 ≤ sgV (posT st T la) ch a (sgk ch a) ∧ chL (tM T) (sgV (posT st T la) ch a (sgk ch a)) (tL T la) = -1 ∧ tn T < 300 ∧ o.1.toInt = ((tn T + 1 : Nat) : Int) ∧ RSt I0 o.2.1 A0 o.2.2 g ch N (sgk ch a) st (grT T la (sgV (posT st T la) ch a (sgk ch a)))) ∨ (o.1.toInt < 0 ∧ -200000 ≤ o.1.toInt ∧ RSn I0 o.2.1 A0 o.2.2 g ∧ (¬ isL (ch a) ∨ sgV (posT st T la) ch a (sgk ch a) < 0 ∨ chL (tM T) (sgV (posT st T la) ch a (sgk ch a)) (tL T la) ≠ -1 ∨ 300 ≤ tn T))
theorem rvm_25 (hL : isL (ch a)) (ha : 0 ≤ a) (h1 : x1.toInt = (g : Int)) (h2 : x2.toInt = (la : Int)) (h3 : x3.toInt = a) (hla : la ≤ tn T) : ∀ (n : Nat) (I : Nat → Int32) (i : Int), a ≤ i → (∀ j, a ≤ j → j < i → isSg (ch j)) → RSt I0 I A0 A g ch N i st T → RPp I A (posT st T la) → MVs I A (posT st T la) → f_readMove_25 n x1 x2 x3 I A = some o → MRo I0 A0 g ch N st T la a o := by
  intro n
  induction n with
  | zero => intro I i _ _ _ _ _ hf; cases hf
  | succ n ih =>
    intro I i hai hs h hR hV hf
    have hf : f_readMove_25s (f_readMove_25 n) x1 x2 x3 I A = some o := hf
    obtain ⟨rv, hiN, hg, tr, sp, ⟨hw, hl⟩, -⟩ := id h
    obtain ⟨⟨hI, hA⟩, ⟨hc, hN, hn⟩, hcb, h37, hp0⟩ := id rv
    have h300 := hw.1
    obtain ⟨pg, nb1, nb2⟩ := lt_pg hw hl la hla
    have more : isSg (ch i) → f_readMove_81 (f_readMove_25 n) x1 x2 x3 I A = some o → MRo I0 A0 g ch N st T la a o := by
      intro hsg hf
      have iN : i < N := by
        by_cases e : i < N
        · exact e
        · have := rv_out rv (show N ≤ i by omega)
          rw [this] at hsg
          unfold isSg isL isD at hsg
          omega
      unfold f_readMove_81 at hf
      obtain ⟨v1, e_v1, hf⟩ := m_bndE hf
      have t_v1 : v1.toInt = (I 37).toInt + 1 := ti_add e_v1 rfl (show (1 : Int32).toInt = 1 from rfl) (by omega) (by omega)
      obtain ⟨I2, e_I2, hf⟩ := m_bndE hf
      have R2 : RV I2 A ch N (i + 1) := rv_at rv e_I2 (by omega) (by omega)
      have o2 : ∀ j, j ≠ 37 → I2 j = I j := fun j hj => by rw [e_I2, upd_ne hj]
      refine ih I2 (i + 1) (by omega) (fun j j0 j1 => ?_) (rs_hi h R2 (by omega) (fun _ _ => rfl) (fun j hj => o2 j (n37 hj))) ⟨R2.1, hR.2.1, by rw [o2 25 (by decide)]; exact hR.2.2.1, by rw [o2 26 (by decide)]; exact hR.2.2.2.1, by rw [o2 27 (by decide)]; exact hR.2.2.2.2.1, by rw [o2 29 (by decide)]; exact hR.2.2.2.2.2⟩ ⟨by rw [o2 33 (by decide)]; exact hV.1, hV.2⟩ hf
      by_cases e : j = i
      · rw [e]; exact hsg
      · exact hs j j0 (by omega)
    have bad : ∀ (t0 : Int32) (I9 : Nat → Int32) (A9 : Nat → Nat → Int32) (r v : Int32), RSn I0 I9 A0 A9 g → (0 ≤ t0.toInt ∧ t0.toInt ≤ 10) → 1 ≤ t0.toInt → f_fault t0 x3 I9 A9 = some (r, (I9, A9)) → v = -r → (¬ isL (ch a) ∨ sgV (posT st T la) ch a (sgk ch a) < 0 ∨ chL (tM T) (sgV (posT st T la) ch a (sgk ch a)) (tL T la) ≠ -1 ∨ 300 ≤ tn T) → MRo I0 A0 g ch N st T la a (v, (I9, A9)) := by
      intro t0 I9 A9 r v hn9 ht ht1 hfl hv hb
      have q := v_fault ht (show 0 ≤ x3.toInt ∧ x3.toInt ≤ 100000 by omega) hfl
      dsimp only at q
      have tv : v.toInt = -r.toInt := ti_neg hv rfl (by omega)
      exact Or.inr ⟨by show v.toInt < 0; omega, by show -200000 ≤ v.toInt; omega, hn9, hb⟩
    unfold f_readMove_25s at hf
    obtain ⟨r1, h_r1, hf⟩ := m_clR hf (fun _ h => rro_look h)
    have p_r1 := pc_look h_r1
    dsimp only at p_r1
    have q1 := rv_lk rv h_r1
    dsimp only at q1
    clear p_r1
    obtain ⟨r2, h_r2, hf⟩ := m_clR hf (fun _ h => rro_isLetter h)
    have p_r2 := pc_isLetter h_r2
    dsimp only at p_r2
    rw [q1] at p_r2
    rcases m_ifE hf with ⟨c1, hf⟩ | ⟨c1, hf⟩
    · skip
      replace c1 := ti_eqP (a := r2) (b := (0 : Int32)) c1 rfl (show (0 : Int32).toInt = 0 from rfl)
      obtain ⟨r3, h_r3, hf⟩ := m_clR hf (fun _ h => rro_look h)
      have p_r3 := pc_look h_r3
      dsimp only at p_r3
      have q3 := rv_lk rv h_r3
      dsimp only at q3
      clear p_r3
      obtain ⟨r4, h_r4, hf⟩ := m_clR hf (fun _ h => rro_isDigit h)
      have p_r4 := pc_isDigit h_r4
      dsimp only at p_r4
      rw [q3] at p_r4
      rcases m_ifE hf with ⟨c2, hf⟩ | ⟨c2, hf⟩
      · skip
        replace c2 := ti_eqP (a := r4) (b := (0 : Int32)) c2 rfl (show (0 : Int32).toInt = 0 from rfl)
        obtain ⟨r5, h_r5, hf⟩ := m_clR hf (fun _ h => rro_look h)
        have p_r5 := pc_look h_r5
        dsimp only at p_r5
        have q5 := rv_lk rv h_r5
        dsimp only at q5
        clear p_r5
        rcases m_ifE hf with ⟨c3, hf⟩ | ⟨c3, hf⟩
        · skip
          replace c3 := ti_eqP (a := r5) (b := (61 : Int32)) c3 rfl (show (61 : Int32).toInt = 61 from rfl)
          exact more (Or.inr (Or.inr (Or.inl (by omega)))) hf
        · skip
          replace c3 := ti_eqN (a := r5) (b := (61 : Int32)) c3 rfl (show (61 : Int32).toInt = 61 from rfl)
          obtain ⟨r6, h_r6, hf⟩ := m_clR hf (fun _ h => rro_look h)
          have p_r6 := pc_look h_r6
          dsimp only at p_r6
          have q6 := rv_lk rv h_r6
          dsimp only at q6
          clear p_r6
          rcases m_ifE hf with ⟨c4, hf⟩ | ⟨c4, hf⟩
          · skip
            replace c4 := ti_eqP (a := r6) (b := (45 : Int32)) c4 rfl (show (45 : Int32).toInt = 45 from rfl)
            exact more (Or.inr (Or.inr (Or.inr (Or.inl (by omega))))) hf
          · skip
            replace c4 := ti_eqN (a := r6) (b := (45 : Int32)) c4 rfl (show (45 : Int32).toInt = 45 from rfl)
            obtain ⟨r7, h_r7, hf⟩ := m_clR hf (fun _ h => rro_look h)
            have p_r7 := pc_look h_r7
            dsimp only at p_r7
            have q7 := rv_lk rv h_r7
            dsimp only at q7
            clear p_r7
            rcases m_ifE hf with ⟨c5, hf⟩ | ⟨c5, hf⟩
            · skip
              replace c5 := ti_eqP (a := r7) (b := (43 : Int32)) c5 rfl (show (43 : Int32).toInt = 43 from rfl)
              exact more (Or.inr (Or.inr (Or.inr (Or.inr (Or.inl (by omega)))))) hf
            · skip
              replace c5 := ti_eqN (a := r7) (b := (43 : Int32)) c5 rfl (show (43 : Int32).toInt = 43 from rfl)
              obtain ⟨r8, h_r8, hf⟩ := m_clR hf (fun _ h => rro_look h)
              have p_r8 := pc_look h_r8
              dsimp only at p_r8
              have q8 := rv_lk rv h_r8
              dsimp only at q8
              clear p_r8
              rcases m_ifE hf with ⟨c6, hf⟩ | ⟨c6, hf⟩
              · skip
                replace c6 := ti_eqP (a := r8) (b := (35 : Int32)) c6 rfl (show (35 : Int32).toInt = 35 from rfl)
                exact more (Or.inr (Or.inr (Or.inr (Or.inr (Or.inr (by omega)))))) hf
              · skip
                replace c6 := ti_eqN (a := r8) (b := (35 : Int32)) c6 rfl (show (35 : Int32).toInt = 35 from rfl)
                obtain ⟨⟨r9, Ic9, Ac9⟩, h_r9, hf⟩ := m_clE hf
                dsimp only at hf
                have ns : ¬ isSg (ch i) := by
                  rintro (e | e | e | e | e | e)
                  · have := p_r2.2.2 e; omega
                  · have := p_r4.2.2 e; omega
                  · omega
                  · omega
                  · omega
                  · omega
                have ei : sgk ch a = i := sgk_e ⟨hai, hs, ns⟩
                have U : UJ (om (posT st T la)) (osd (posT st T la)) (ort (posT st T la)) (ops (posT st T la)) (oko (posT st T la)) ch N I A := ⟨⟨hI, hA, hR.2.1, hR.2.2.1, hR.2.2.2.1, hR.2.2.2.2.1, by rw [hR.2.2.2.2.2]; omega, hc, hN⟩, hV.1, hV.2⟩
                obtain ⟨f1, f2⟩ := p_understood U pg rfl (show 0 ≤ x3.toInt ∧ x3.toInt ≤ 2000 by omega) (show 0 ≤ (I 37).toInt ∧ (I 37).toInt ≤ N by omega) (by omega) h_r9
                have fw := fw_understood h_r9
                dsimp only at f1 f2 fw
                rw [h3, h37] at f2
                have t9 : r9.toInt = sgV (posT st T la) ch a (sgk ch a) := by rw [ei]; exact sgV_r f2
                have R9 : RV Ic9 Ac9 ch N i := ⟨⟨f1.1, f1.2.1⟩, ⟨f1.2.2.2.2.2.2.2.1, f1.2.2.2.2.2.2.2.2, hn⟩, hcb, by rw [fw.1 37 (by decide)]; exact h37, hp0⟩
                have S9 := rs_hi h R9 hiN (fun j hj => fw.2 j (by simp; omega)) (fun j hj => fw.1 j (by simp at hj ⊢; omega))
                have tr9 := S9.2.2.2.1
                rcases m_ifE hf with ⟨c7, hf⟩ | ⟨c7, hf⟩
                · skip
                  replace c7 := ti_leP (a := (0 : Int32)) (b := r9) c7 (show (0 : Int32).toInt = 0 from rfl) rfl
                  obtain ⟨r10, h_r10, hf⟩ := m_clR hf (fun _ h => rro_childWith h)
                  obtain ⟨-, t10⟩ := v_childWith hg h300 tr9 h1 h2 hla h_r10
                  dsimp only at t10
                  rw [t9] at t10
                  have cn := chL_n (M := tM T) (m := sgV (posT st T la) ch a (sgk ch a)) (tL T la)
                  rcases m_ifE hf with ⟨c8, hf⟩ | ⟨c8, hf⟩
                  · skip
                    replace c8 := ti_ltP (a := r10) (b := (0 : Int32)) c8 rfl (show (0 : Int32).toInt = 0 from rfl)
                    obtain ⟨-, hf⟩ := m_chkE hf
                    obtain ⟨v11, e_v11, hf⟩ := m_bndE hf
                    have t11 : v11.toInt = (tn T : Int) := by
                      have e := tr9.1.1
                      have b7 := tA_7 R9.1.2 g
                      unfold aK at e
                      rw [e_v11, cl_n h1]
                      omega
                    rcases m_ifE hf with ⟨c9, hf⟩ | ⟨c9, hf⟩
                    · skip
                      replace c9 := ti_eqP (a := v11) (b := (300 : Int32)) c9 rfl (show (300 : Int32).toInt = 300 from rfl)
                      obtain ⟨r13, h_r13, hf⟩ := m_clR hf (fun _ h => rro_fault h)
                      obtain ⟨v14, e_v14, hf⟩ := m_bndE hf
                      cases hf
                      try dsimp only
                      exact bad 8 Ic9 Ac9 r13 v14 (rs_n S9) (by decide) (by decide) h_r13 e_v14 (Or.inr (Or.inr (Or.inr (by omega))))
                    · skip
                      replace c9 := ti_eqN (a := v11) (b := (300 : Int32)) c9 rfl (show (300 : Int32).toInt = 300 from rfl)
                      obtain ⟨⟨r12, Ic12, Ac12⟩, h_r12, hf⟩ := m_clE hf
                      dsimp only at hf
                      have mb := (sgV_l pg (show 0 ≤ sgV (posT st T la) ch a (sgk ch a) by omega))
                      obtain ⟨a1, a2, a3, a4, a5, a6⟩ := v_append hg R9.1.2 hw tr9 h1 h2 hla (by rw [t9]; exact mb.1) (by omega) h_r12
                      dsimp only at a1 a2 a3 a4 a5 a6
                      rw [t9] at a4
                      rw [a2] at hf
                      have R12 : RV Ic9 Ac12 ch N i := rv_A R9 a3 (a5.1 2 (by decide))
                      cases hf
                      try dsimp only
                      refine Or.inl ⟨hL, by omega, by omega, by omega, a1, ?_⟩
                      rw [← ei] at R12 S9
                      exact rs_g S9 R12 (by omega) a5 (fun j j1 j2 => a6 j (by omega)) (fun _ _ => rfl) a4 (wt_gr hw hla (by omega) mb.1) (lt_gr hw hl hla mb)
                  · skip
                    replace c8 := ti_ltN (a := r10) (b := (0 : Int32)) c8 rfl (show (0 : Int32).toInt = 0 from rfl)
                    obtain ⟨r15, h_r15, hf⟩ := m_clR hf (fun _ h => rro_fault h)
                    obtain ⟨v16, e_v16, hf⟩ := m_bndE hf
                    cases hf
                    try dsimp only
                    exact bad 6 Ic9 Ac9 r15 v16 (rs_n S9) (by decide) (by decide) h_r15 e_v16 (Or.inr (Or.inr (Or.inl (by omega))))
                · skip
                  replace c7 := ti_leN (a := (0 : Int32)) (b := r9) c7 (show (0 : Int32).toInt = 0 from rfl) rfl
                  rcases m_ifE hf with ⟨c10, hf⟩ | ⟨c10, hf⟩
                  · skip
                    replace c10 := ti_eqP (a := r9) (b := (-2 : Int32)) c10 rfl (show (-2 : Int32).toInt = -2 from rfl)
                    unfold f_readMove_122 at hf
                    obtain ⟨r5', h_r5', hf⟩ := m_clR hf (fun _ h => rro_fault h)
                    obtain ⟨v2, e2, hf⟩ := m_bndE hf
                    cases hf
                    exact bad 5 Ic9 Ac9 r5' v2 (rs_n S9) (by decide) (by decide) h_r5' e2 (Or.inr (Or.inl (by omega)))
                  · skip
                    replace c10 := ti_eqN (a := r9) (b := (-2 : Int32)) c10 rfl (show (-2 : Int32).toInt = -2 from rfl)
                    unfold f_readMove_122 at hf
                    obtain ⟨r5', h_r5', hf⟩ := m_clR hf (fun _ h => rro_fault h)
                    obtain ⟨v2, e2, hf⟩ := m_bndE hf
                    cases hf
                    exact bad 4 Ic9 Ac9 r5' v2 (rs_n S9) (by decide) (by decide) h_r5' e2 (Or.inr (Or.inl (by omega)))
      · skip
        replace c2 := ti_eqN (a := r4) (b := (0 : Int32)) c2 rfl (show (0 : Int32).toInt = 0 from rfl)
        exact more (Or.inr (Or.inl (p_r4.2.1 (by omega)))) hf
    · skip
      replace c1 := ti_eqN (a := r2) (b := (0 : Int32)) c1 rfl (show (0 : Int32).toInt = 0 from rfl)
      exact more (Or.inl (p_r2.2.1 (by omega))) hf
theorem v_readMove (h : RSt I0 I A0 A g ch N a st T) (h1 : x1.toInt = (g : Int)) (h2 : x2.toInt = (la : Int)) (hla : la ≤ tn T) (hR : RPp I A (posT st T la)) (hV : MVs I A (posT st T la)) (hf : f_readMove x1 x2 I A = some o) : MRo I0 A0 g ch N st T la a o := by
  have hf : f_readMove_0 x1 x2 I A = some o := hf
  obtain ⟨rv, hiN, hg, tr, sp, ⟨hw, hl⟩, -⟩ := id h
  obtain ⟨⟨hI, hA⟩, ⟨hc, hN, hn⟩, hcb, h37, hp0⟩ := id rv
  unfold f_readMove_0 at hf
  obtain ⟨r1, h_r1, hf⟩ := m_clR hf (fun _ h => rro_look h)
  have p_r1 := pc_look h_r1
  dsimp only at p_r1
  have q1 := rv_lk rv h_r1
  dsimp only at q1
  clear p_r1
  obtain ⟨r2, h_r2, hf⟩ := m_clR hf (fun _ h => rro_isLetter h)
  have p_r2 := pc_isLetter h_r2
  dsimp only at p_r2
  rw [q1] at p_r2
  rcases m_ifE hf with ⟨c1, hf⟩ | ⟨c1, hf⟩
  · skip
    replace c1 := ti_eqP (a := r2) (b := (0 : Int32)) c1 rfl (show (0 : Int32).toInt = 0 from rfl)
    obtain ⟨r3, h_r3, hf⟩ := m_clR hf (fun _ h => rro_fault h)
    have q3 := v_fault (x1 := 1) (x2 := I 37) (by decide) (by omega) h_r3
    dsimp only at q3
    have z1 : (1 : Int32).toInt = 1 := rfl
    obtain ⟨v4, e_v4, hf⟩ := m_bndE hf
    have t_v4 : v4.toInt = -r3.toInt := ti_neg e_v4 rfl (by omega)
    cases hf
    try dsimp only
    exact Or.inr ⟨by show v4.toInt < 0; omega, by show -200000 ≤ v4.toInt; omega, rs_n h, Or.inl (fun g => by have := p_r2.2.2 g; omega)⟩
  · skip
    replace c1 := ti_eqN (a := r2) (b := (0 : Int32)) c1 rfl (show (0 : Int32).toInt = 0 from rfl)
    exact rvm_25 (p_r2.2.1 (by omega)) (by omega) h1 h2 h37 hla mFuel I a (Int.le_refl _) (fun j j0 j1 => by omega) h hR hV hf
end RVM
