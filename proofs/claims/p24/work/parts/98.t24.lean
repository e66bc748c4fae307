theorem rb_ref : ∀ r : Nat, r < 16 → ∀ g : Nat, g < 16 → ∀ h : Nat, h < 16 → (nI r &&& (nI g ^^^ (-1 : Int32))) &&& (nI h ^^^ (-1 : Int32)) = nI r &&& ((nI g ||| nI h) ^^^ (-1 : Int32)) := by decide +kernel
theorem rt_ref {r : Int32} {a t : Int} (hr : 0 ≤ r.toInt ∧ r.toInt ≤ 15) : (r &&& (gn a ^^^ (-1 : Int32))) &&& (gn t ^^^ (-1 : Int32)) = r &&& ((gn a ||| gn t) ^^^ (-1 : Int32)) := by
  obtain ⟨g, g1, g2, -⟩ := gn_n16 a
  obtain ⟨h, h1, h2, -⟩ := gn_n16 t
  have hx : r = nI r.toInt.toNat := by
    apply Int32.toInt_inj.1
    rw [nI_toInt (by omega)]
    omega
  rw [hx, g2, h2]
  exact rb_ref _ (by omega) g g1 h h1
section RBH
variable {m : Int → Int} {sd rt ps kw kb ko : Int} {I : Nat → Int32} {A : Nat → Nat → Int32} {o : Int32 × MS} {x1 : Int32}
/-- a legal move, as a number -/
noncomputable def LGx (m : Int → Int) (sd rt ps ko x : Int) : Prop := (0 ≤ x ∧ x ≤ 24575) ∧ rch m sd rt ps (x % 64) (x / 64 % 64) ∧ PRo m (x % 64) (x / 64 % 64) (x / 4096) ∧ safC m sd ps ko (x % 64) (x / 64 % 64) (x / 4096)
/-- the position behind a legal move can stand -/
theorem pos_af {x : Int} (hP : POS m sd rt ps kw kb) (hko : ko = if sd = 0 then kw else kb) (hL : LGx m sd rt ps ko x) : POS (afM m sd ps x) (1 - sd) (afR rt x) (afP m sd ps x) (afK m sd ps x 0 kw) (afK m sd ps x 1 kb) := by
  obtain ⟨hx, hr, hp, hs⟩ := hL
  have h15 := hP.2.2.2.2.2.2.1
  have key := rt_pl (r := Int32.ofInt rt) (a := x % 64) (t := x / 64 % 64) (by rw [Int32.toInt_ofInt_of_le (by omega) (by omega)]; exact h15)
  rw [Int32.toInt_ofInt_of_le (by omega) (by omega)] at key
  exact pos_pl hP (by omega) (by omega) hr hp (by rw [← hko]; exact hs.2) key rfl
theorem nB_back {I2 : Nat → Int32} {A2 : Nat → Nat → Int32} (h1 : ∀ j, j ∉ [25, 26, 27, 28, 29] → I2 j = I j) (h2 : ∀ j, j ≠ 24 → A2 j = nA I A j) : (nB I2 A2, va_up A2 24 (A2 30)) = (I, nA I A) := by
  have e1 : nB I2 A2 = I := by
    funext k
    by_cases h : k ∉ [25, 26, 27, 28, 29]
    · rw [nB_o h, h1 k h]
    · have h3 : k = 25 ∨ k = 26 ∨ k = 27 ∨ k = 28 ∨ k = 29 := by
        have := Classical.not_not.1 h
        simpa using this
      have e31 : A2 31 = nA I A 31 := h2 31 (by decide)
      unfold nB
      rcases h3 with e | e | e | e | e <;> subst e
      · rw [upd_ne (by decide), upd_ne (by decide), upd_ne (by decide), upd_ne (by decide), upd_self, e31]; rfl
      · rw [upd_ne (by decide), upd_ne (by decide), upd_ne (by decide), upd_self, e31]; rfl
      · rw [upd_ne (by decide), upd_ne (by decide), upd_self, e31]; rfl
      · rw [upd_ne (by decide), upd_self, e31]; rfl
      · rw [upd_self, e31]; rfl
  have e2 : va_up A2 24 (A2 30) = nA I A := by
    funext j
    by_cases h : j = 24
    · rw [h, va_up_self, h2 30 (by decide), nA_30, nA_o (by decide) (by decide)]
    · rw [va_up_ne _ _ h, h2 j h]
  rw [e1, e2]
theorem p_behind (hI : TJ I) (hA : TK A) (hm : mR A = m) (h25 : (I 25).toInt = sd) (h26 : (I 26).toInt = rt) (h27 : (I 27).toInt = ps) (h29 : (I 29).toInt ≤ 1999) (hP : POS m sd rt ps kw kb) (hko : ko = if sd = 0 then kw else kb) (hL : LGx m sd rt ps ko x1.toInt) (hf : f_behind x1 I A = some o) : o.2 = (I, nA I A) ∧ csF m sd rt ps kw kb x1.toInt o.1.toInt := by
  have hf : f_behind_0 x1 I A = some o := hf
  have PA := pos_af hP hko hL
  obtain ⟨hx, hr, hp, hsf⟩ := hL
  have hs := hP.1
  have hM := hP.2.1
  have z0 : (0 : Int32).toInt = 0 := rfl
  have hat : (x1.toInt % 64) ≠ (x1.toInt / 64 % 64) := fun e => by rw [e] at hr; exact hr.2.1 hr.1
  have hp0 : 0 ≤ x1.toInt / 4096 := by omega
  have e1 : mkR m sd (x1.toInt % 64) (x1.toInt / 64 % 64) (x1.toInt / 4096) = afM m sd ps x1.toInt := mk_pl hs (by omega) (by omega) hp0 hP.2.2.2.2.1 hr
  unfold f_behind_0 at hf
  obtain ⟨o1, h1, hf⟩ := m_clE hf
  have ek : o1 = (0, (I, nA I A)) := by
    have : f_keep I A = some (0, (I, nA I A)) := rfl
    rw [this] at h1
    exact (Option.some.inj h1).symm
  subst ek
  dsimp only at hf
  obtain ⟨⟨r2, I2, A2⟩, h2, hf⟩ := m_clE hf
  dsimp only at hf
  have hA1 : TK (nA I A) := tk_nA hI hA
  have hmn : mR (nA I A) = m := by rw [mR_nA]; exact hm
  have fw := fw_make h2
  dsimp only at fw
  obtain ⟨I2t, A2t, m2, r26, q27, -, q25⟩ := ok_of (x_make (nn := (I 29).toInt) (sd := sd) (TM := afM m sd ps x1.toInt) (TP := psF (afM m sd ps x1.toInt) sd (pwb m (x1.toInt % 64)) (x1.toInt % 64) (x1.toInt / 64 % 64)) (r0 := I 26) hI hA1 hx (by rw [hmn]; exact hM) rfl rfl (by rw [hmn]) (by rw [hmn, e1]) ⟨rfl, h29, h25⟩) h2
  dsimp only at I2t A2t m2 r26 q27 q25
  have eP : (I2 27).toInt = afP m sd ps x1.toInt := by
    rw [q27]
    refine ps_pl hs (by omega) (by omega) (fun h1 h2 => ?_)
    have hw1 : m (x1.toInt % 64) % 8 = 1 := by
      unfold pwb at h1
      by_cases e : m (x1.toInt % 64) % 8 = 1
      · exact e
      · rw [if_neg e] at h1; omega
    have hw : pwn m sd ps (x1.toInt % 64) (x1.toInt / 64 % 64) := hr.2.2.elim (fun z => z.2) (fun z => absurd hw1 z.1)
    rcases pwn_3 hw with w | w | w
    · exfalso; rcases hs with h | h <;> subst h <;> omega
    · exact w.1
    · exfalso; rcases hs with h | h <;> subst h <;> omega
  have eR : (I2 26).toInt = afR rt x1.toInt := by
    rw [r26, rt_ref (by rw [h26]; exact hP.2.2.2.2.2.2.1)]
    unfold afR
    rw [i32_of h26]
  have fI : ∀ j, j ∉ [25, 26, 27, 28, 29] → I2 j = I j := fun j hj => (fw_make h2).1 j hj
  have fA : ∀ j, j ≠ 24 → A2 j = nA I A j := fun j hj => (fw_make h2).2 j (by simpa using hj)
  have hRJ : RJ (afM m sd ps x1.toInt) (1 - sd) (afR rt x1.toInt) (afP m sd ps x1.toInt) I2 A2 := ⟨I2t, A2t, m2, q25, eR, eP⟩
  have hs1 : 1 - sd = 0 ∨ 1 - sd = 1 := by omega
  have hk : KU (mR A2) (I2 25).toInt (if 1 - sd = 0 then afK m sd ps x1.toInt 0 kw else afK m sd ps x1.toInt 1 kb) := by
    rw [m2, q25]
    rcases hs1 with e | e
    · rw [e, if_pos rfl]; exact PA.2.2.1
    · rw [e, if_neg (by decide)]; exact PA.2.2.2.1
  obtain ⟨r3, h3, hf⟩ := m_clR hf (fun _ h => rro_isInCheck h)
  obtain ⟨-, b3', q3⟩ := ok_of (x_isInCheck (x1 := I2 25) I2t A2t (by omega) hk (by rw [m2]; exact PA.2.1)) h3
  dsimp only at b3' q3
  rw [m2, q25] at q3
  rcases m_ifE hf with ⟨c, hf⟩ | ⟨c, hf⟩
  · have e9 := bh_98 hf
    subst e9
    refine ⟨nB_back fI fA, Or.inl ⟨fun g => ?_, rfl⟩⟩
    have := q3.2 g
    rw [c] at this
    omega
  · have c1 : r3.toInt ≠ 0 := fun h => c (Int32.toInt_inj.1 h)
    have hc := q3.1 (by omega)
    obtain ⟨I9, A9, ⟨-, eI, eA⟩, e9, r9⟩ := bh_27c (I0 := I2) (A0 := A2) PA hc mFuel 0 I2 A2 (by decide) ⟨hRJ, rfl, fun _ _ => rfl⟩ (by rw [show (0 : Int32).toInt * 64 = 0 from rfl]; exact nb_0) hf
    refine ⟨?_, ?_⟩
    · rw [e9]
      exact nB_back (fun j hj => by rw [eI]; exact fI j hj) (fun j hj => (eA j hj).trans (fA j hj))
    · rcases r9 with ⟨g1, g2⟩ | ⟨g1, g2⟩
      · exact Or.inr (Or.inl ⟨hc, g1, g2⟩)
      · exact Or.inr (Or.inr ⟨hc, g1, g2⟩)
end RBH
/-- the reference's word -/
noncomputable def SPL (I : Nat → Int32) (A : Nat → Nat → Int32) (w : List Int) : Prop := (I 36).toInt = (w.length : Int) ∧ ∀ i : Int, 0 ≤ i → i < (w.length : Int) → (A 35 i.toNat).toInt = wA w i
section SPE
variable {m : Int → Int} {I : Nat → Int32} {A : Nat → Nat → Int32} {o : Int32 × MS} {x1 x2 x3 x4 x5 x6 : Int32} {w : List Int}
theorem p_spell (h : SPL I A w) (hl : w.length < 16) (hx : 0 ≤ x1.toInt ∧ x1.toInt ≤ 65535) (hf : f_spell x1 I A = some o) : SPL o.2.1 o.2.2 (w ++ [x1.toInt]) := by
  have hf : f_spell_0 x1 I A = some o := hf
  obtain ⟨h1, h2⟩ := h
  unfold f_spell_0 at hf
  obtain ⟨-, hf⟩ := m_chkE hf
  obtain ⟨A1, e1, hf⟩ := m_bndE hf
  obtain ⟨v2, e2, hf⟩ := m_bndE hf
  obtain ⟨I3, e3, hf⟩ := m_bndE hf
  cases hf
  have t2 : v2.toInt = (w.length : Int) + 1 := by
    have := ti_add (c := v2) (a := I 36) (b := 1) e2 rfl (show (1 : Int32).toInt = 1 from rfl) (by omega) (by omega)
    omega
  have nr : vp_nar .char x1 = x1 := nar_c hx.1 hx.2
  have nn : (I 36).toNatClampNeg = w.length := by
    show (I 36).toInt.toNat = w.length
    rw [h1]
    exact Int.toNat_natCast _
  rw [nr, nn] at e1
  have a1 : A1 35 = upd (A 35) w.length x1 := by rw [e1]; exact va_up_self _ _ _
  refine ⟨?_, fun i i1 i2 => ?_⟩
  · show (I3 36).toInt = _
    rw [e3, upd_self, t2, List.length_append]
    show _ = (((w.length + 1 : Nat)) : Int)
    omega
  · show (A1 35 i.toNat).toInt = _
    rw [a1, wA_app]
    have i3 : i < (w.length : Int) + 1 := by
      rw [List.length_append] at i2
      have : (((w.length + [x1.toInt].length : Nat)) : Int) = (w.length : Int) + 1 := by
        show (((w.length + 1 : Nat)) : Int) = _
        omega
      omega
    by_cases e : i = (w.length : Int)
    · rw [if_pos e, e, Int.toNat_natCast, upd_self]
    · rw [if_neg e, upd_ne (by omega)]
      exact h2 i i1 (by omega)
theorem pc_letter {x0 : Int32} (hf : f_letter x0 I A = some o) : (2 ≤ x0.toInt ∧ x0.toInt ≤ 6) → o.1.toInt = ltK x0.toInt := by
  intro h
  have hf : f_letter_0 x0 I A = some o := hf
  have z1 : (78 : Int32).toInt = 78 := rfl
  have z2 : (66 : Int32).toInt = 66 := rfl
  have z3 : (82 : Int32).toInt = 82 := rfl
  have z4 : (81 : Int32).toInt = 81 := rfl
  have z5 : (75 : Int32).toInt = 75 := rfl
  unfold ltK
  unfold f_letter_0 at hf
  rcases m_ifE hf with ⟨c1, hf⟩ | ⟨c1, hf⟩
  · skip
    replace c1 := ti_eqP (a := x0) (b := (2 : Int32)) c1 rfl (show (2 : Int32).toInt = 2 from rfl)
    unfold f_letter_42 at hf
    obtain ⟨-, hf⟩ := m_chkE hf
    cases hf
    try dsimp only
    omega
  · skip
    replace c1 := ti_eqN (a := x0) (b := (2 : Int32)) c1 rfl (show (2 : Int32).toInt = 2 from rfl)
    rcases m_ifE hf with ⟨c2, hf⟩ | ⟨c2, hf⟩
    · skip
      replace c2 := ti_eqP (a := x0) (b := (3 : Int32)) c2 rfl (show (3 : Int32).toInt = 3 from rfl)
      unfold f_letter_42 at hf
      obtain ⟨-, hf⟩ := m_chkE hf
      cases hf
      try dsimp only
      omega
    · skip
      replace c2 := ti_eqN (a := x0) (b := (3 : Int32)) c2 rfl (show (3 : Int32).toInt = 3 from rfl)
      rcases m_ifE hf with ⟨c3, hf⟩ | ⟨c3, hf⟩
      · skip
        replace c3 := ti_eqP (a := x0) (b := (4 : Int32)) c3 rfl (show (4 : Int32).toInt = 4 from rfl)
        unfold f_letter_42 at hf
        obtain ⟨-, hf⟩ := m_chkE hf
        cases hf
        try dsimp only
        omega
      · skip
        replace c3 := ti_eqN (a := x0) (b := (4 : Int32)) c3 rfl (show (4 : Int32).toInt = 4 from rfl)
        rcases m_ifE hf with ⟨c4, hf⟩ | ⟨c4, hf⟩
        · skip
          replace c4 := ti_eqP (a := x0) (b := (5 : Int32)) c4 rfl (show (5 : Int32).toInt = 5 from rfl)
          unfold f_letter_42 at hf
          obtain ⟨-, hf⟩ := m_chkE hf
          cases hf
          try dsimp only
          omega
        · skip
          replace c4 := ti_eqN (a := x0) (b := (5 : Int32)) c4 rfl (show (5 : Int32).toInt = 5 from rfl)
          unfold f_letter_42 at hf
          obtain ⟨-, hf⟩ := m_chkE hf
          cases hf
          try dsimp only
          omega
theorem ltK_b (k : Int) : 0 ≤ ltK k ∧ ltK k ≤ 127 := by
  unfold ltK
  omega
theorem sp_158 (h : SPL I A w) (hl : w.length ≤ 8) (h5 : 0 ≤ x5.toInt ∧ x5.toInt ≤ 63) (h6 : x6.toInt = 0 ∨ (2 ≤ x6.toInt ∧ x6.toInt ≤ 5)) (hf : f_spellMove_158 x5 x6 I A = some o) : SPL o.2.1 o.2.2 (w ++ ([97 + x5.toInt % 8, 49 + x5.toInt / 8] ++ (if 2 ≤ x6.toInt then [61, ltK x6.toInt] else []))) := by
  have lb := ltK_b x6.toInt
  unfold f_spellMove_158 at hf
  obtain ⟨⟨r1, Ic1, Ac1⟩, h_r1, hf⟩ := m_clE hf
  dsimp only at hf
  have s1 : SPL Ic1 Ac1 (w ++ [97 + x5.toInt % 8, 49 + x5.toInt / 8]) := by
    have h_r1 : f_spellSquare_0 x5 I A = some (r1, Ic1, Ac1) := h_r1
    unfold f_spellSquare_0 at h_r1
    obtain ⟨v1, e1, h_r1⟩ := m_bndE h_r1
    obtain ⟨v2, e2, h_r1⟩ := m_bndE h_r1
    obtain ⟨v3, e3, h_r1⟩ := m_bndE h_r1
    obtain ⟨⟨r4, I4, A4⟩, h4, h_r1⟩ := m_clE h_r1
    obtain ⟨v5, e5, h_r1⟩ := m_bndE h_r1
    obtain ⟨v6, e6, h_r1⟩ := m_bndE h_r1
    obtain ⟨v7, e7, h_r1⟩ := m_bndE h_r1
    obtain ⟨⟨r8, I8, A8⟩, h8, h_r1⟩ := m_clE h_r1
    dsimp only at h8 h_r1
    have eo := Option.some.inj h_r1
    have eI : I8 = Ic1 := congrArg (fun z => z.2.1) eo
    have eA : A8 = Ac1 := congrArg (fun z => z.2.2) eo
    have t1 : v1.toInt = x5.toInt % 8 := ti_rem e1 rfl (show (8 : Int32).toInt = 8 from rfl) (by omega) (by decide)
    have t2 : v2.toInt = 97 + x5.toInt % 8 := by
      have := ti_add (c := v2) (a := 97) (b := v1) e2 (show (97 : Int32).toInt = 97 from rfl) rfl (by omega) (by omega)
      omega
    have t3 : v3.toInt = 97 + x5.toInt % 8 := by rw [e3]; exact nar_ci t2 (by omega) (by omega)
    have t5 : v5.toInt = x5.toInt / 8 := ti_div e5 rfl (show (8 : Int32).toInt = 8 from rfl) (by omega) (by decide)
    have t6 : v6.toInt = 49 + x5.toInt / 8 := by
      have := ti_add (c := v6) (a := 49) (b := v5) e6 (show (49 : Int32).toInt = 49 from rfl) rfl (by omega) (by omega)
      omega
    have t7 : v7.toInt = 49 + x5.toInt / 8 := by rw [e7]; exact nar_ci t6 (by omega) (by omega)
    have s4 := p_spell h (by omega) (by omega) h4
    dsimp only at s4
    have s8 := p_spell s4 (by rw [List.length_append]; show w.length + 1 < 16; omega) (by omega) h8
    dsimp only at s8
    rw [eI, eA, t3, t7, List.append_assoc] at s8
    exact s8
  rcases m_ifE hf with ⟨c1, hf⟩ | ⟨c1, hf⟩
  · skip
    replace c1 := ti_leP (a := x6) (b := (0 : Int32)) c1 rfl (show (0 : Int32).toInt = 0 from rfl)
    unfold f_spellMove_184 at hf
    cases hf
    try dsimp only
    rw [if_neg (by omega), List.append_nil]
    exact s1
  · skip
    replace c1 := ti_leN (a := x6) (b := (0 : Int32)) c1 rfl (show (0 : Int32).toInt = 0 from rfl)
    obtain ⟨⟨r2, Ic2, Ac2⟩, h_r2, hf⟩ := m_clE hf
    dsimp only at hf
    have s2 := p_spell s1 (by rw [List.length_append]; show w.length + 2 < 16; omega) (by decide) h_r2
    dsimp only at s2
    obtain ⟨r3, h_r3, hf⟩ := m_clR hf (fun _ h => rro_letter h)
    have p_r3 := pc_letter h_r3
    dsimp only at p_r3
    have q3 := p_r3 (by omega)
    obtain ⟨⟨r4, Ic4, Ac4⟩, h_r4, hf⟩ := m_clE hf
    dsimp only at hf
    have s4 := p_spell s2 (by rw [List.length_append, List.length_append]; show w.length + 2 + 1 < 16; omega) (by omega) h_r4
    dsimp only at s4
    unfold f_spellMove_184 at hf
    cases hf
    try dsimp only
    rw [if_pos (by omega)]
    rw [q3, List.append_assoc, List.append_assoc] at s4
    exact s4
theorem sp_148 (h : SPL I A w) (hl : w.length ≤ 7) (h3 : x3.toInt = 0 ∨ x3.toInt = 1) (h5 : 0 ≤ x5.toInt ∧ x5.toInt ≤ 63) (h6 : x6.toInt = 0 ∨ (2 ≤ x6.toInt ∧ x6.toInt ≤ 5)) (hf : f_spellMove_148 x3 x5 x6 I A = some o) : SPL o.2.1 o.2.2 (w ++ ((if x3.toInt = 1 then [120] else []) ++ ([97 + x5.toInt % 8, 49 + x5.toInt / 8] ++ (if 2 ≤ x6.toInt then [61, ltK x6.toInt] else [])))) := by
  unfold f_spellMove_148 at hf
  rcases m_ifE hf with ⟨c1, hf⟩ | ⟨c1, hf⟩
  · skip
    replace c1 := ti_eqP (a := x3) (b := (0 : Int32)) c1 rfl (show (0 : Int32).toInt = 0 from rfl)
    rw [if_neg (by omega), List.nil_append]
    exact sp_158 h (by omega) h5 h6 hf
  · skip
    replace c1 := ti_eqN (a := x3) (b := (0 : Int32)) c1 rfl (show (0 : Int32).toInt = 0 from rfl)
    obtain ⟨⟨r1, Ic1, Ac1⟩, h_r1, hf⟩ := m_clE hf
    dsimp only at hf
    have s1 := p_spell h (by omega) (by decide) h_r1
    dsimp only at s1
    rw [if_pos (by omega), ← List.append_assoc]
    exact sp_158 s1 (by rw [List.length_append]; show w.length + 1 ≤ 8; omega) h5 h6 hf
theorem sp_130 (h : SPL I A w) (hl : w.length ≤ 6) (h2 : 0 ≤ x2.toInt ∧ x2.toInt ≤ 3) (h4 : 0 ≤ x4.toInt ∧ x4.toInt ≤ 63) (h3 : x3.toInt = 0 ∨ x3.toInt = 1) (h5 : 0 ≤ x5.toInt ∧ x5.toInt ≤ 63) (h6 : x6.toInt = 0 ∨ (2 ≤ x6.toInt ∧ x6.toInt ≤ 5)) (hf : f_spellMove_130 x2 x3 x4 x5 x6 I A = some o) : SPL o.2.1 o.2.2 (w ++ ((if 0 ≤ (if 1 < x2.toInt then x4.toInt / 8 else -1) then [49 + (if 1 < x2.toInt then x4.toInt / 8 else -1)] else []) ++ ((if x3.toInt = 1 then [120] else []) ++ ([97 + x5.toInt % 8, 49 + x5.toInt / 8] ++ (if 2 ≤ x6.toInt then [61, ltK x6.toInt] else []))))) := by
  unfold f_spellMove_130 at hf
  rcases m_ifE hf with ⟨c1, hf⟩ | ⟨c1, hf⟩
  · skip
    replace c1 := ti_leP (a := x2) (b := (1 : Int32)) c1 rfl (show (1 : Int32).toInt = 1 from rfl)
    rw [if_neg (show ¬ (1 < x2.toInt) by omega), if_neg (by decide), List.nil_append]
    exact sp_148 h (by omega) h3 h5 h6 hf
  · skip
    replace c1 := ti_leN (a := x2) (b := (1 : Int32)) c1 rfl (show (1 : Int32).toInt = 1 from rfl)
    obtain ⟨v1, e_v1, hf⟩ := m_bndE hf
    have t_v1 : v1.toInt = x4.toInt / 8 := ti_div e_v1 rfl (show (8 : Int32).toInt = 8 from rfl) (by omega) (by decide)
    obtain ⟨v2, e_v2, hf⟩ := m_bndE hf
    have t_v2 : v2.toInt = 49 + v1.toInt := ti_add e_v2 (show (49 : Int32).toInt = 49 from rfl) rfl (by omega) (by omega)
    obtain ⟨v3, e_v3, hf⟩ := m_bndE hf
    have t_v3 : v3.toInt = v2.toInt := by rw [e_v3]; exact nar_ci rfl (by omega) (by omega)
    obtain ⟨⟨r4, Ic4, Ac4⟩, h_r4, hf⟩ := m_clE hf
    dsimp only at hf
    have s4 := p_spell h (by omega) (by omega) h_r4
    dsimp only at s4
    rw [t_v3, t_v2, t_v1] at s4
    rw [if_pos (show 1 < x2.toInt by omega), if_pos (by omega), ← List.append_assoc]
    exact sp_148 s4 (by rw [List.length_append]; show w.length + 1 ≤ 7; omega) h3 h5 h6 hf
theorem sp_110 (h : SPL I A w) (hl : w.length ≤ 5) (h2 : 0 ≤ x2.toInt ∧ x2.toInt ≤ 3) (h4 : 0 ≤ x4.toInt ∧ x4.toInt ≤ 63) (h3 : x3.toInt = 0 ∨ x3.toInt = 1) (h5 : 0 ≤ x5.toInt ∧ x5.toInt ≤ 63) (h6 : x6.toInt = 0 ∨ (2 ≤ x6.toInt ∧ x6.toInt ≤ 5)) (hf : f_spellMove_110 x2 x3 x4 x5 x6 I A = some o) : SPL o.2.1 o.2.2 (w ++ ((if 0 ≤ (if x2.toInt % 2 = 1 then x4.toInt % 8 else -1) then [97 + (if x2.toInt % 2 = 1 then x4.toInt % 8 else -1)] else []) ++ ((if 0 ≤ (if 1 < x2.toInt then x4.toInt / 8 else -1) then [49 + (if 1 < x2.toInt then x4.toInt / 8 else -1)] else []) ++ ((if x3.toInt = 1 then [120] else []) ++ ([97 + x5.toInt % 8, 49 + x5.toInt / 8] ++ (if 2 ≤ x6.toInt then [61, ltK x6.toInt] else [])))))) := by
  unfold f_spellMove_110 at hf
  obtain ⟨v1, e_v1, hf⟩ := m_bndE hf
  have t_v1 : v1.toInt = x2.toInt % 2 := ti_rem e_v1 rfl (show (2 : Int32).toInt = 2 from rfl) (by omega) (by decide)
  rcases m_ifE hf with ⟨c1, hf⟩ | ⟨c1, hf⟩
  · skip
    replace c1 := ti_eqP (a := v1) (b := (1 : Int32)) c1 rfl (show (1 : Int32).toInt = 1 from rfl)
    obtain ⟨v2, e_v2, hf⟩ := m_bndE hf
    have t_v2 : v2.toInt = x4.toInt % 8 := ti_rem e_v2 rfl (show (8 : Int32).toInt = 8 from rfl) (by omega) (by decide)
    obtain ⟨v3, e_v3, hf⟩ := m_bndE hf
    have t_v3 : v3.toInt = 97 + v2.toInt := ti_add e_v3 (show (97 : Int32).toInt = 97 from rfl) rfl (by omega) (by omega)
    obtain ⟨v4, e_v4, hf⟩ := m_bndE hf
    have t_v4 : v4.toInt = v3.toInt := by rw [e_v4]; exact nar_ci rfl (by omega) (by omega)
    obtain ⟨⟨r5, Ic5, Ac5⟩, h_r5, hf⟩ := m_clE hf
    dsimp only at hf
    have s4 := p_spell h (by omega) (by omega) h_r5
    dsimp only at s4
    rw [t_v4, t_v3, t_v2] at s4
    rw [if_pos (show x2.toInt % 2 = 1 by omega), if_pos (by omega), ← List.append_assoc]
    exact sp_130 s4 (by rw [List.length_append]; show w.length + 1 ≤ 6; omega) h2 h4 h3 h5 h6 hf
  · skip
    replace c1 := ti_eqN (a := v1) (b := (1 : Int32)) c1 rfl (show (1 : Int32).toInt = 1 from rfl)
    rw [if_neg (show ¬ (x2.toInt % 2 = 1) by omega), if_neg (by decide), List.nil_append]
    exact sp_130 h (by omega) h2 h4 h3 h5 h6 hf
/-- O-O and O-O-O, letter by letter -/
noncomputable def cwL : Nat → List Int
  | 0 => []
  | k + 1 => (cwL k ++ (if k = 0 then [] else [45])) ++ [79]
theorem cwL_2 : cwL 2 = strL 7 := by decide
theorem cwL_3 : cwL 3 = strL 8 := by decide
theorem cwL_l : ∀ k, k ≤ 3 → (cwL k).length ≤ 5 := by decide
theorem sp_38 {L : Int} (hL : L = if x4.toInt < x5.toInt then 2 else 3) : ∀ (n : Nat) (x7 : Int32) (I : Nat → Int32) (A : Nat → Nat → Int32), (0 ≤ x7.toInt ∧ x7.toInt ≤ L) → SPL I A (cwL x7.toInt.toNat) → f_spellMove_38 n x4 x5 x7 I A = some o → SPL o.2.1 o.2.2 (cwL L.toNat) := by
  intro n
  have hL3 : L ≤ 3 := by rw [hL]; split <;> omega
  induction n with
  | zero => intro x7 I A _ _ hf; cases hf
  | succ n ih =>
    intro x7 I A h7 hS hf
    have hf : f_spellMove_38s (f_spellMove_38 n) x4 x5 x7 I A = some o := hf
    have stp : ∀ t0 : Int32, t0.toInt = L → f_spellMove_52 (f_spellMove_38 n) x4 x5 x7 t0 x7 I A = some o → SPL o.2.1 o.2.2 (cwL L.toNat) := by
      intro t0 ht hf
      have fin : ∀ I A, SPL I A (cwL x7.toInt.toNat ++ (if x7.toInt.toNat = 0 then [] else [45])) → x7.toInt < L → f_spellMove_66 (f_spellMove_38 n) x4 x5 x7 I A = some o → SPL o.2.1 o.2.2 (cwL L.toNat) := by
        intro I A hS2 hlt hf
        unfold f_spellMove_66 at hf
        obtain ⟨⟨r1, Ic1, Ac1⟩, h_r1, hf⟩ := m_clE hf
        dsimp only at hf
        have l1 := cwL_l x7.toInt.toNat (by omega)
        have s1 := p_spell hS2 (by rw [List.length_append]; split <;> (show _ + _ < 16; simp only [List.length_nil, List.length_cons]; omega)) (by decide) h_r1
        dsimp only at s1
        obtain ⟨v2, e_v2, hf⟩ := m_bndE hf
        have t_v2 : v2.toInt = x7.toInt + 1 := ti_add e_v2 rfl (show (1 : Int32).toInt = 1 from rfl) (by omega) (by omega)
        refine ih v2 Ic1 Ac1 (by omega) ?_ hf
        rw [show v2.toInt.toNat = x7.toInt.toNat + 1 by omega]
        exact s1
      unfold f_spellMove_52 at hf
      rcases m_ifE hf with ⟨c1, hf⟩ | ⟨c1, hf⟩
      · skip
        replace c1 := ti_leP (a := t0) (b := x7) c1 rfl rfl
        cases hf
        try dsimp only
        have e : x7.toInt = L := by omega
        rw [← e]
        exact hS
      · skip
        replace c1 := ti_leN (a := t0) (b := x7) c1 rfl rfl
        rcases m_ifE hf with ⟨c2, hf⟩ | ⟨c2, hf⟩
        · skip
          replace c2 := ti_leP (a := x7) (b := (0 : Int32)) c2 rfl (show (0 : Int32).toInt = 0 from rfl)
          refine fin I A ?_ (by omega) hf
          rw [if_pos (by omega), List.append_nil]
          exact hS
        · skip
          replace c2 := ti_leN (a := x7) (b := (0 : Int32)) c2 rfl (show (0 : Int32).toInt = 0 from rfl)
          obtain ⟨⟨r1, Ic1, Ac1⟩, h_r1, hf⟩ := m_clE hf
          dsimp only at hf
          have l1 := cwL_l x7.toInt.toNat (by omega)
          have s1 := p_spell hS (by omega) (by decide) h_r1
          dsimp only at s1
          refine fin Ic1 Ac1 ?_ (by omega) hf
          rw [if_neg (by omega)]
          exact s1
    unfold f_spellMove_38s at hf
    rcases m_ifE hf with ⟨c1, hf⟩ | ⟨c1, hf⟩
    · skip
      replace c1 := ti_leP (a := x5) (b := x4) c1 rfl rfl
      exact stp 3 (by rw [hL, if_neg (by omega)]; rfl) hf
    · skip
      replace c1 := ti_leN (a := x5) (b := x4) c1 rfl rfl
      exact stp 2 (by rw [hL, if_pos (by omega)]; rfl) hf
theorem p_isCastling (hI : TJ I) (hA : TK A) (hm : mR A = m) (hM : MBd m) (hx : 0 ≤ x1.toInt ∧ x1.toInt ≤ 24575) (hf : f_isCastling x1 I A = some o) : (o.1.toInt = 0 ∨ o.1.toInt = 1) ∧ (o.1.toInt = 1 ↔ m (x1.toInt % 64) % 8 = 6 ∧ (x1.toInt / 64 % 64 = x1.toInt % 64 + 2 ∨ x1.toInt / 64 % 64 = x1.toInt % 64 - 2)) := by
  have hf : f_isCastling_0 x1 I A = some o := hf
  have z0 : (0 : Int32).toInt = 0 := rfl
  have z1 : (1 : Int32).toInt = 1 := rfl
  unfold f_isCastling_0 at hf
  obtain ⟨v1, e_v1, hf⟩ := m_bndE hf
  have t_v1 : v1.toInt = x1.toInt % 64 := ti_rem e_v1 rfl (show (64 : Int32).toInt = 64 from rfl) (by omega) (by decide)
  obtain ⟨v2, e_v2, hf⟩ := m_bndE hf
  have t_v2 : v2.toInt = x1.toInt / 64 := ti_div e_v2 rfl (show (64 : Int32).toInt = 64 from rfl) (by omega) (by decide)
  obtain ⟨v3, e_v3, hf⟩ := m_bndE hf
  have t_v3 : v3.toInt = v2.toInt % 64 := ti_rem e_v3 rfl (show (64 : Int32).toInt = 64 from rfl) (by omega) (by decide)
  obtain ⟨-, hf⟩ := m_chkE hf
  obtain ⟨v4, e_v4, hf⟩ := m_bndE hf
  have q4 := mR_at e_v4 (by omega) (by omega)
  rw [hm, t_v1] at q4
  have b4 := hM (x1.toInt % 64)
  obtain ⟨r5, h_r5, hf⟩ := m_clR hf (fun _ h => rro_kind h)
  have p_r5 := pc_kind h_r5
  dsimp only at p_r5
  have q5 := p_r5 hI hA (by omega)
  rcases m_ifE hf with ⟨c1, hf⟩ | ⟨c1, hf⟩
  · skip
    replace c1 := ti_eqP (a := r5) (b := (6 : Int32)) c1 rfl (show (6 : Int32).toInt = 6 from rfl)
    obtain ⟨v6, e_v6, hf⟩ := m_bndE hf
    have t_v6 : v6.toInt = v1.toInt + 2 := ti_add e_v6 rfl (show (2 : Int32).toInt = 2 from rfl) (by omega) (by omega)
    rcases m_ifE hf with ⟨c2, hf⟩ | ⟨c2, hf⟩
    · skip
      replace c2 := ti_eqP (a := v3) (b := v6) c2 rfl rfl
      unfold f_isCastling_41 at hf
      unfold f_isCastling_46 at hf
      obtain ⟨-, hf⟩ := m_chkE hf
      cases hf
      try dsimp only
      omega
    · skip
      replace c2 := ti_eqN (a := v3) (b := v6) c2 rfl rfl
      obtain ⟨v7, e_v7, hf⟩ := m_bndE hf
      have t_v7 : v7.toInt = v1.toInt - 2 := ti_sub e_v7 rfl (show (2 : Int32).toInt = 2 from rfl) (by omega) (by omega)
      rcases m_ifE hf with ⟨c3, hf⟩ | ⟨c3, hf⟩
      · skip
        replace c3 := ti_eqP (a := v3) (b := v7) c3 rfl rfl
        unfold f_isCastling_41 at hf
        unfold f_isCastling_46 at hf
        obtain ⟨-, hf⟩ := m_chkE hf
        cases hf
        try dsimp only
        omega
      · skip
        replace c3 := ti_eqN (a := v3) (b := v7) c3 rfl rfl
        unfold f_isCastling_45 at hf
        unfold f_isCastling_46 at hf
        obtain ⟨-, hf⟩ := m_chkE hf
        cases hf
        try dsimp only
        omega
  · skip
    replace c1 := ti_eqN (a := r5) (b := (6 : Int32)) c1 rfl (show (6 : Int32).toInt = 6 from rfl)
    unfold f_isCastling_45 at hf
    unfold f_isCastling_46 at hf
    obtain ⟨-, hf⟩ := m_chkE hf
    cases hf
    try dsimp only
    omega
/-- the word that the reference spells of a move -/
noncomputable def spW (m : Int → Int) (x ap tk : Int) : List Int := if m (x % 64) % 8 = 6 ∧ (x / 64 % 64 = x % 64 + 2 ∨ x / 64 % 64 = x % 64 - 2) then (if x % 64 < x / 64 % 64 then strL 7 else strL 8) else rend (m (x % 64) % 8) (if ap % 2 = 1 then x % 64 % 8 else -1) (if 1 < ap then x % 64 / 8 else -1) tk (x / 64 % 64) (x / 4096)
theorem p_spellMove (hI : TJ I) (hA : TK A) (hm : mR A = m) (hM : MBd m) (hx : 0 ≤ x1.toInt ∧ x1.toInt ≤ 24575) (hn : m (x1.toInt % 64) ≠ 0) (hp : x1.toInt / 4096 = 0 ∨ (2 ≤ x1.toInt / 4096 ∧ x1.toInt / 4096 ≤ 5)) (h2 : 0 ≤ x2.toInt ∧ x2.toInt ≤ 3) (h3 : x3.toInt = 0 ∨ x3.toInt = 1) (hf : f_spellMove x1 x2 x3 I A = some o) : SPL o.2.1 o.2.2 (spW m x1.toInt x2.toInt x3.toInt) := by
  have hf : f_spellMove_0 x1 x2 x3 I A = some o := hf
  have z0 : (0 : Int32).toInt = 0 := rfl
  have hMa := hM (x1.toInt % 64)
  unfold f_spellMove_0 at hf
  obtain ⟨v1, e_v1, hf⟩ := m_bndE hf
  have t_v1 : v1.toInt = x1.toInt % 64 := ti_rem e_v1 rfl (show (64 : Int32).toInt = 64 from rfl) (by omega) (by decide)
  obtain ⟨v2, e_v2, hf⟩ := m_bndE hf
  have t_v2 : v2.toInt = x1.toInt / 64 := ti_div e_v2 rfl (show (64 : Int32).toInt = 64 from rfl) (by omega) (by decide)
  obtain ⟨v3, e_v3, hf⟩ := m_bndE hf
  have t_v3 : v3.toInt = v2.toInt % 64 := ti_rem e_v3 rfl (show (64 : Int32).toInt = 64 from rfl) (by omega) (by decide)
  obtain ⟨v4, e_v4, hf⟩ := m_bndE hf
  have t_v4 : v4.toInt = x1.toInt / 4096 := ti_div e_v4 rfl (show (4096 : Int32).toInt = 4096 from rfl) (by omega) (by decide)
  obtain ⟨I5, e_I5, hf⟩ := m_bndE hf
  have hI5 : TJ I5 := e_I5.symm ▸ tj_u hI (k := 36) (by decide) (by decide)
  have s0 : SPL I5 A [] := ⟨by rw [e_I5, upd_self]; rfl, fun i i1 i2 => by have : (([] : List Int).length : Int) = 0 := rfl; omega⟩
  have bv1 : 0 ≤ v1.toInt ∧ v1.toInt ≤ 63 := by omega
  have bv3 : 0 ≤ v3.toInt ∧ v3.toInt ≤ 63 := by omega
  have bv4 : v4.toInt = 0 ∨ (2 ≤ v4.toInt ∧ v4.toInt ≤ 5) := by omega
  obtain ⟨r6, h_r6, hf⟩ := m_clR hf (fun _ h => rro_isCastling h)
  obtain ⟨b6, q6⟩ := p_isCastling hI5 hA hm hM hx h_r6
  dsimp only at b6 q6
  have q6t : True → (r6.toInt = 1 ↔ m (x1.toInt % 64) % 8 = 6 ∧ (x1.toInt / 64 % 64 = x1.toInt % 64 + 2 ∨ x1.toInt / 64 % 64 = x1.toInt % 64 - 2)) := fun _ => q6
  clear q6
  rcases m_ifE hf with ⟨c1, hf⟩ | ⟨c1, hf⟩
  · skip
    replace c1 := ti_eqP (a := r6) (b := (0 : Int32)) c1 rfl (show (0 : Int32).toInt = 0 from rfl)
    obtain ⟨-, hf⟩ := m_chkE hf
    obtain ⟨v7, e_v7, hf⟩ := m_bndE hf
    have q7 := mR_at e_v7 (by omega) (by omega)
    rw [hm, t_v1] at q7
    obtain ⟨r8, h_r8, hf⟩ := m_clR hf (fun _ h => rro_kind h)
    have p_r8 := pc_kind h_r8
    dsimp only at p_r8
    have q8 := p_r8 hI5 hA (by omega)
    rcases m_ifE hf with ⟨c2, hf⟩ | ⟨c2, hf⟩
    · skip
      replace c2 := ti_eqP (a := r8) (b := (1 : Int32)) c2 rfl (show (1 : Int32).toInt = 1 from rfl)
      have e := sp_110 s0 (by decide) h2 bv1 h3 bv3 bv4 hf
      unfold spW
      rw [if_neg (fun h => by have := (q6t trivial).2 h; omega)]
      unfold rend
      rw [if_neg (by omega)]
      rw [t_v1, t_v3, t_v2, t_v4] at e
      exact e
    · skip
      replace c2 := ti_eqN (a := r8) (b := (1 : Int32)) c2 rfl (show (1 : Int32).toInt = 1 from rfl)
      obtain ⟨-, hf⟩ := m_chkE hf
      obtain ⟨v9, e_v9, hf⟩ := m_bndE hf
      have q9 := mR_at e_v9 (by omega) (by omega)
      rw [hm, t_v1] at q9
      obtain ⟨r10, h_r10, hf⟩ := m_clR hf (fun _ h => rro_kind h)
      have p_r10 := pc_kind h_r10
      dsimp only at p_r10
      have q10 := p_r10 hI5 hA (by omega)
      obtain ⟨r11, h_r11, hf⟩ := m_clR hf (fun _ h => rro_letter h)
      have p_r11 := pc_letter h_r11
      dsimp only at p_r11
      have q11 := p_r11 (by omega)
      have lb := ltK_b r10.toInt
      obtain ⟨⟨r12, Ic12, Ac12⟩, h_r12, hf⟩ := m_clE hf
      dsimp only at hf
      have s1 := p_spell s0 (by decide) (by omega) h_r12
      dsimp only at s1
      rw [List.nil_append, q11, q10, q9] at s1
      have e := sp_110 s1 (by show 1 ≤ 5; decide) h2 bv1 h3 bv3 bv4 hf
      unfold spW
      rw [if_neg (fun h => by have := (q6t trivial).2 h; omega)]
      unfold rend
      rw [if_pos (by omega)]
      rw [t_v1, t_v3, t_v2, t_v4] at e
      exact e
  · skip
    replace c1 := ti_eqN (a := r6) (b := (0 : Int32)) c1 rfl (show (0 : Int32).toInt = 0 from rfl)
    have hc := (q6t trivial).1 (by omega)
    have e := sp_38 (L := if v1.toInt < v3.toInt then 2 else 3) rfl mFuel 0 I5 A (by split <;> omega) s0 hf
    unfold spW
    rw [if_pos hc]
    rw [t_v1, t_v3, t_v2] at e
    by_cases c : x1.toInt % 64 < x1.toInt / 64 % 64
    · rw [if_pos c]
      rw [if_pos c] at e
      rw [← cwL_2]; exact e
    · rw [if_neg c]
      rw [if_neg c] at e
      rw [← cwL_3]; exact e
/-- whether a piece of text is the word -/
theorem is_6 {ch : Int → Int} {lo : Bool} (hS : SPL I A w) (hw : w.length ≤ 16) (hch : txR I A = ch) (h2 : 0 ≤ x2.toInt ∧ x2.toInt ≤ (I 1).toInt) (hI1 : (I 1).toInt ≤ 2000) (h3 : x3.toInt = if lo = true then 1 else 0) : ∀ (n : Nat) (x4 x5 : Int32), (0 ≤ x4.toInt ∧ x4.toInt ≤ (w.length : Int)) → 0 ≤ x5.toInt → x5.toInt ≤ 2000 → f_isSpelled_6 n x2 x3 x4 x5 I A = some o → (o.1.toInt = 0 ∨ o.1.toInt = 1) ∧ (o.1.toInt = 1 ↔ txF lo ch x5.toInt (x2.toInt - x5.toInt).toNat = w.drop x4.toInt.toNat) := by
  intro n
  induction n with
  | zero => intro x4 x5 _ _ _ hf; cases hf
  | succ n ih =>
    intro x4 x5 h4 h5 h5b hf
    have hf : f_isSpelled_6s (f_isSpelled_6 n) x2 x3 x4 x5 I A = some o := hf
    obtain ⟨s1, s2⟩ := id hS
    have skp : (lo = true ∧ (ch x5.toInt = 120 ∨ ch x5.toInt = 43 ∨ ch x5.toInt = 35)) → x5.toInt < x2.toInt → f_isSpelled_72 (f_isSpelled_6 n) x2 x3 x4 x5 I A = some o → (o.1.toInt = 0 ∨ o.1.toInt = 1) ∧ (o.1.toInt = 1 ↔ txF lo ch x5.toInt (x2.toInt - x5.toInt).toNat = w.drop x4.toInt.toNat) := by
      intro hc hlt hf
      unfold f_isSpelled_72 at hf
      obtain ⟨v1, e_v1, hf⟩ := m_bndE hf
      have t_v1 : v1.toInt = x5.toInt + 1 := ti_add e_v1 rfl (show (1 : Int32).toInt = 1 from rfl) (by omega) (by omega)
      have e : (x2.toInt - x5.toInt).toNat = (x2.toInt - v1.toInt).toNat + 1 := by omega
      have g := ih x4 v1 h4 (by omega) (by omega) hf
      rw [e, txF_y hc, ← t_v1]
      exact g
    have tak : ∀ x6 : Int32, x6.toInt = ch x5.toInt → ¬ (lo = true ∧ (ch x5.toInt = 120 ∨ ch x5.toInt = 43 ∨ ch x5.toInt = 35)) → x5.toInt < x2.toInt → f_isSpelled_46 (f_isSpelled_6 n) x2 x3 x4 x5 x6 I A = some o → (o.1.toInt = 0 ∨ o.1.toInt = 1) ∧ (o.1.toInt = 1 ↔ txF lo ch x5.toInt (x2.toInt - x5.toInt).toNat = w.drop x4.toInt.toNat) := by
      intro x6 hx6 hc hlt hf
      unfold f_isSpelled_46 at hf
      rcases m_ifE hf with ⟨c1, hf⟩ | ⟨c1, hf⟩
      · skip
        replace c1 := ti_eqP (a := x4) (b := (I 36)) c1 rfl rfl
        have e : (x2.toInt - x5.toInt).toNat = (x2.toInt - x5.toInt - 1).toNat + 1 := by omega
        unfold f_isSpelled_67 at hf
        obtain ⟨-, hf⟩ := m_chkE hf
        cases hf
        try dsimp only
        refine ⟨Or.inl rfl, fun h => absurd h (by decide), fun h => ?_⟩
        rw [e, txF_n hc, List.drop_of_length_le (by omega)] at h
        cases h
      · skip
        replace c1 := ti_eqN (a := x4) (b := (I 36)) c1 rfl rfl
        obtain ⟨-, hf⟩ := m_chkE hf
        obtain ⟨v1, e_v1, hf⟩ := m_bndE hf
        have q1 : v1.toInt = wA w x4.toInt := by
          rw [e_v1]
          exact s2 x4.toInt h4.1 (by omega)
        have hd : w.drop x4.toInt.toNat = wA w x4.toInt :: w.drop (x4.toInt.toNat + 1) := by
          have hlt2 : x4.toInt.toNat < w.length := by omega
          rw [List.drop_eq_getElem_cons hlt2, ← wA_in hlt2, show ((x4.toInt.toNat : Nat) : Int) = x4.toInt by omega]
        have e : (x2.toInt - x5.toInt).toNat = (x2.toInt - x5.toInt - 1).toNat + 1 := by omega
        rcases m_ifE hf with ⟨c2, hf⟩ | ⟨c2, hf⟩
        · skip
          replace c2 := ti_eqP (a := v1) (b := x6) c2 rfl rfl
          obtain ⟨v2, e_v2, hf⟩ := m_bndE hf
          have t_v2 : v2.toInt = x4.toInt + 1 := ti_add e_v2 rfl (show (1 : Int32).toInt = 1 from rfl) (by omega) (by omega)
          unfold f_isSpelled_72 at hf
          obtain ⟨v9, e9, hf⟩ := m_bndE hf
          have t9 : v9.toInt = x5.toInt + 1 := ti_add e9 rfl (show (1 : Int32).toInt = 1 from rfl) (by omega) (by omega)
          obtain ⟨g1, g2⟩ := ih v2 v9 (by omega) (by omega) (by omega) hf
          refine ⟨g1, g2.trans ?_⟩
          rw [e, txF_n hc, hd, t9, show (x2.toInt - (x5.toInt + 1)).toNat = (x2.toInt - x5.toInt - 1).toNat by omega, show v2.toInt.toNat = x4.toInt.toNat + 1 by omega]
          constructor
          · intro h
            rw [h, ← hx6, ← q1, c2]
          · intro h
            exact (List.cons.inj h).2
        · skip
          replace c2 := ti_eqN (a := v1) (b := x6) c2 rfl rfl
          unfold f_isSpelled_67 at hf
          obtain ⟨-, hf⟩ := m_chkE hf
          cases hf
          try dsimp only
          refine ⟨Or.inl rfl, fun h => absurd h (by decide), fun h => ?_⟩
          rw [e, txF_n hc, hd] at h
          have := (List.cons.inj h).1
          omega
    unfold f_isSpelled_6s at hf
    rcases m_ifE hf with ⟨c1, hf⟩ | ⟨c1, hf⟩
    · skip
      replace c1 := ti_leP (a := x2) (b := x5) c1 rfl rfl
      have e : (x2.toInt - x5.toInt).toNat = 0 := by omega
      rcases m_ifE hf with ⟨c2, hf⟩ | ⟨c2, hf⟩
      · skip
        replace c2 := ti_eqP (a := x4) (b := (I 36)) c2 rfl rfl
        unfold f_isSpelled_92 at hf
        obtain ⟨-, hf⟩ := m_chkE hf
        cases hf
        try dsimp only
        refine ⟨Or.inr rfl, fun _ => ?_, fun _ => rfl⟩
        rw [e, List.drop_of_length_le (by omega)]
        rfl
      · skip
        replace c2 := ti_eqN (a := x4) (b := (I 36)) c2 rfl rfl
        unfold f_isSpelled_92 at hf
        obtain ⟨-, hf⟩ := m_chkE hf
        cases hf
        try dsimp only
        refine ⟨Or.inl rfl, fun h => absurd h (by decide), fun h => ?_⟩
        rw [e] at h
        have h9 : w.drop x4.toInt.toNat = [] := h.symm
        have := List.drop_eq_nil_iff.1 h9
        omega
    · skip
      replace c1 := ti_leN (a := x2) (b := x5) c1 rfl rfl
      obtain ⟨-, hf⟩ := m_chkE hf
      obtain ⟨v1, e_v1, hf⟩ := m_bndE hf
      have q1 : v1.toInt = ch x5.toInt := by rw [← hch]; exact tx_at e_v1 h5 (by omega)
      rcases m_ifE hf with ⟨c3, hf⟩ | ⟨c3, hf⟩
      · skip
        replace c3 := ti_eqP (a := x3) (b := (0 : Int32)) c3 rfl (show (0 : Int32).toInt = 0 from rfl)
        refine tak v1 q1 (fun h => ?_) (by omega) hf
        rw [h.1, if_pos rfl] at h3
        omega
      · skip
        replace c3 := ti_eqN (a := x3) (b := (0 : Int32)) c3 rfl (show (0 : Int32).toInt = 0 from rfl)
        have hlo : lo = true := by
          cases lo
          · rw [if_neg (by decide)] at h3
            exact absurd h3 c3
          · rfl
        rcases m_ifE hf with ⟨c4, hf⟩ | ⟨c4, hf⟩
        · skip
          replace c4 := ti_eqP (a := v1) (b := (120 : Int32)) c4 rfl (show (120 : Int32).toInt = 120 from rfl)
          exact skp ⟨hlo, Or.inl (by omega)⟩ (by omega) hf
        · skip
          replace c4 := ti_eqN (a := v1) (b := (120 : Int32)) c4 rfl (show (120 : Int32).toInt = 120 from rfl)
          rcases m_ifE hf with ⟨c5, hf⟩ | ⟨c5, hf⟩
          · skip
            replace c5 := ti_eqP (a := v1) (b := (43 : Int32)) c5 rfl (show (43 : Int32).toInt = 43 from rfl)
            exact skp ⟨hlo, Or.inr (Or.inl (by omega))⟩ (by omega) hf
          · skip
            replace c5 := ti_eqN (a := v1) (b := (43 : Int32)) c5 rfl (show (43 : Int32).toInt = 43 from rfl)
            rcases m_ifE hf with ⟨c6, hf⟩ | ⟨c6, hf⟩
            · skip
              replace c6 := ti_eqP (a := v1) (b := (35 : Int32)) c6 rfl (show (35 : Int32).toInt = 35 from rfl)
              exact skp ⟨hlo, Or.inr (Or.inr (by omega))⟩ (by omega) hf
            · skip
              replace c6 := ti_eqN (a := v1) (b := (35 : Int32)) c6 rfl (show (35 : Int32).toInt = 35 from rfl)
              exact tak v1 q1 (fun h => by have := h.2; omega) (by omega) hf
theorem p_isSpelled {ch : Int → Int} {lo : Bool} (hS : SPL I A w) (hw : w.length ≤ 16) (hch : txR I A = ch) (h1 : 0 ≤ x1.toInt ∧ x1.toInt ≤ 2000) (h2 : 0 ≤ x2.toInt ∧ x2.toInt ≤ (I 1).toInt) (hI1 : (I 1).toInt ≤ 2000) (h3 : x3.toInt = if lo = true then 1 else 0) (hf : f_isSpelled x1 x2 x3 I A = some o) : (o.1.toInt = 0 ∨ o.1.toInt = 1) ∧ (o.1.toInt = 1 ↔ txF lo ch x1.toInt (x2.toInt - x1.toInt).toNat = w) := by
  obtain ⟨g1, g2⟩ := is_6 hS hw hch h2 hI1 h3 mFuel 0 x1 (by have z : (0 : Int32).toInt = 0 := rfl; omega) h1.1 h1.2 hf
  exact ⟨g1, g2⟩
end SPE
