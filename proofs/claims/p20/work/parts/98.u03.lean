section
section SDA
variable {S S' : ZS} {g g' c : Nat} {I I' : Nat → Int32} {A A' : Nat → Nat → Int32} {L : List (List Int × List Int)} {st P : PO} {T : TRa} {r : Int} {x1 x2 x3 : Int32} {o : Int32 × ZS}
theorem posL_g (hw : WT T) (hL : LTr st T) : ∀ l, AN T l → PGd (posL st (tM T) l) ∧ 0 ≤ onb (posL st (tM T) l) ∧ onb (posL st (tM T) l) ≤ 1299 := by
  intro l' h'
  cases l' with
  | nil => exact ⟨hL.1, by have := hL.2.1.1; show 0 ≤ onb st; omega, by have := hL.2.1.2; show onb st ≤ 1299; omega⟩
  | cons k l' =>
    have e : posL st (tM T) (k :: l') = posT st T k := by
      unfold posT
      rw [anc_s hw h'.1.1 h'.1.2, ← h'.2.1]
    rw [e]
    have q := lt_pg hw hL k h'.1.2
    have h3 := hw.1
    have h4 := h'.1.2
    exact ⟨q.1, by omega, by omega⟩
/-- the class plays the moves down to a node -/
theorem sd_68 (hg : g = 35 ∨ g = 99) (hw : WT T) (hL : LTr st T) {l : List Nat} (hl : AN T l) (hll : l.length ≤ 300) : ∀ (n : Nat) (x5 : Int32) (S : ZS) (i : Nat), x5.toInt = (i : Int) - 1 → i ≤ l.length → ZT S → zK S (g + 7) = 14 → BO S 107 (posL st (tM T) (l.drop i)) → (∀ (i : Nat) (h : i < l.length), (zA S (g + 7) i).toInt = tM T l[i]) → f_X1_standAt_68 n 107 (g + 7) x5 S = some o → ZT o.2 ∧ FR (fun a => a = 107 ∨ a = 108) S o.2 ∧ BO o.2 107 (posL st (tM T) l) := by
  intro n
  induction n with
  | zero => intro x5 S i _ _ _ _ _ _ hf; cases hf
  | succ n ih =>
    intro x5 S i hx hi hT kg bo hp hf
    have hf : f_X1_standAt_68s (f_X1_standAt_68 n) 107 (g + 7) x5 S = some o := hf
    unfold f_X1_standAt_68s at hf
    have z0 : (0 : Int32).toInt = 0 := rfl
    rcases m_ifE hf with ⟨c, hf⟩ | ⟨c, hf⟩
    · replace c := ti_ltP (a := x5) (b := (0 : Int32)) c rfl z0
      have i0 : i = 0 := by omega
      rw [i0, List.drop_zero] at bo
      cases hf
      exact ⟨hT, fr_0, bo⟩
    · replace c := ti_ltN (a := x5) (b := (0 : Int32)) c rfl z0
      obtain ⟨j, rfl⟩ : ∃ j, i = j + 1 := ⟨i - 1, by omega⟩
      have jl : j < l.length := by omega
      have dj : l.drop j = l[j] :: l.drop (j + 1) := List.drop_eq_getElem_cons jl
      have aj := an_drop (T := T) j l hl
      rw [dj] at aj
      obtain ⟨aj1, aj2, aj3⟩ := aj
      obtain ⟨-, hf⟩ := m_chkE hf
      obtain ⟨-, hf⟩ := m_chkE hf
      obtain ⟨v1, e1, hf⟩ := m_bndE hf
      have t1 : v1.toInt = tM T l[j] := by rw [e1, cl_n (n := j) (by omega)]; exact hp j jl
      obtain ⟨-, hf⟩ := m_chkE hf
      obtain ⟨⟨r2, S2⟩, h2, hf⟩ := m_calE hf
      dsimp only at hf
      obtain ⟨v3, e3, hf⟩ := m_bndE hf
      have t3 : v3.toInt = x5.toInt + (-1) := ti_add e3 rfl (show (-1 : Int32).toInt = -1 from rfl) (by omega) (by omega)
      obtain ⟨g1, g2, g3⟩ := posL_g hw hL _ aj3
      have LG : LGo (posL st (tM T) (l.drop (j + 1))) v1.toInt := by
        rw [t1, aj2]
        exact hL.2.2 _ aj1.1 aj1.2
      obtain ⟨b1, b2, b3⟩ := bo_play hT bo g1 LG ⟨g2, by omega⟩ h2
      dsimp only at b1 b2 b3
      rw [t1] at b3
      have e7 := fr_e b2 (a := g + 7) (by rw [kg]; decide) (by omega)
      have k7 : zK S2 (g + 7) = 14 := e7.1.trans kg
      have a7 : zA S2 (g + 7) = zA S (g + 7) := e7.2.2.2.2.2.1 (by rw [kg]; decide)
      obtain ⟨d1, d2, d3⟩ := ih v3 S2 j (by omega) (by omega) b1 k7 (by rw [dj]; exact b3) (fun i hi => by rw [a7]; exact hp i hi) hf
      exact ⟨d1, fr_t b2 d2, d3⟩
/-- the class gathers the moves up from a node -/
theorem sd_11 (hg : g = 35 ∨ g = 99) (hw : WT T) (hL : LTr st T) {nd : Nat} (hnd : nd ≤ tn T) : ∀ (n : Nat) (x4 x5 : Int32) (S : ZS) (pre : List Nat) (k : Nat), x4.toInt = (pre.length : Int) → x5.toInt = (k : Int) → k ≤ tn T → pre.length + k ≤ 300 → ancL (tP T) nd nd = pre ++ ancL (tP T) k k → CG S → TRc S g T → BO S (g + 1) st → (∀ (i : Nat) (h : i < pre.length), (zA S (g + 7) i).toInt = tM T pre[i]) → f_X1_standAt_11 n g 107 (g + 7) x4 x5 S = some o → ZT o.2 ∧ FR (fun a => a = g + 7 ∨ a = 107 ∨ a = 108) S o.2 ∧ BO o.2 107 (posT st T nd) := by
  intro n
  induction n with
  | zero => intro x4 x5 S pre k _ _ _ _ _ _ _ _ _ hf; cases hf
  | succ n ih =>
    intro x4 x5 S pre k h4 h5 hk hpk hanc hC tr bo hp hf
    have hf : f_X1_standAt_11s (f_X1_standAt_11 n) g 107 (g + 7) x4 x5 S = some o := hf
    have z0 : (0 : Int32).toInt = 0 := rfl
    have h300 := hw.1
    obtain ⟨⟨kg, p0, -⟩, ⟨-, -, -, -, -, -, k7⟩, -⟩ := fx_g hC.2.2.1 hg
    have k107 : zK S 107 = 0 := fx_k hC.2.2.1 (by decide) (by decide)
    have k108 : zK S 108 = 14 := fx_k hC.2.2.1 (by decide) (by decide)
    have p107 : zP S 0 107 = some 108 := fx_p hC.2.2.1 (by decide)
    have fin : k = 0 → f_X1_standAt_54 g 107 (g + 7) x4 S = some o → ZT o.2 ∧ FR (fun a => a = g + 7 ∨ a = 107 ∨ a = 108) S o.2 ∧ BO o.2 107 (posT st T nd) := fun k0 hf => by
      rw [k0] at hanc
      have e : ancL (tP T) nd nd = pre := by rw [hanc]; exact List.append_nil _
      have hl : AN T pre := by rw [← e]; exact an_anc hw nd hnd
      unfold f_X1_standAt_54 at hf
      obtain ⟨-, hf⟩ := m_chkE hf
      replace hf := m_calY hf p0
      obtain ⟨-, hf⟩ := m_chkE hf
      obtain ⟨⟨r2, S2⟩, h2, hf⟩ := m_calE hf
      dsimp only at hf
      obtain ⟨b1, b2, b3⟩ := bo_copy hC.1 k107 p107 k108 bo h2
      dsimp only at b1 b2 b3
      obtain ⟨v3, e3, hf⟩ := m_bndE hf
      have t3 : v3.toInt = x4.toInt - 1 := ti_sub e3 rfl (show (1 : Int32).toInt = 1 from rfl) (by omega) (by omega)
      have e7 := fr_e b2 (a := g + 7) (by rw [k7]; decide) (by omega)
      have a7 : zA S2 (g + 7) = zA S (g + 7) := e7.2.2.2.2.2.1 (by rw [k7]; decide)
      obtain ⟨d1, d2, d3⟩ := sd_68 hg hw hL hl (by omega) mFuel v3 S2 pre.length (by omega) (Nat.le_refl _) b1 (e7.1.trans k7) (by rw [List.drop_length]; exact b3) (fun i hi => by rw [a7]; exact hp i hi) hf
      refine ⟨d1, fr_t (fr_m b2 (fun a _ e => Or.inr e)) (fr_m d2 (fun a _ e => Or.inr e)), ?_⟩
      unfold posT
      rw [e]
      exact d3
    unfold f_X1_standAt_11s at hf
    rcases m_ifE hf with ⟨c, hf⟩ | ⟨c, hf⟩
    · replace c := ti_leP (a := x5) (b := (0 : Int32)) c rfl z0
      exact fin (by omega) hf
    · replace c := ti_leN (a := x5) (b := (0 : Int32)) c rfl z0
      rcases m_ifE hf with ⟨d, hf⟩ | ⟨d, hf⟩
      · replace d := ti_leP (a := (300 : Int32)) (b := x4) d (show (300 : Int32).toInt = 300 from rfl) rfl
        omega
      · have k1 : 1 ≤ k := by omega
        have hb := (hw.2.1 k k1 hk).1
        have k5 : x5.toInt.toNat = k := by omega
        obtain ⟨-, hf⟩ := m_chkE hf
        obtain ⟨⟨c1, S1⟩, h1, hf⟩ := m_calE hf
        obtain ⟨e1, q1⟩ := p_at hC hg tr (by omega) (by omega) h1
        rw [k5] at q1
        dsimp only at hf
        rw [e1, q1] at hf
        obtain ⟨-, hf⟩ := m_chkE hf
        obtain ⟨-, hf⟩ := m_chkE hf
        obtain ⟨-, hf⟩ := m_chkE hf
        obtain ⟨S2, e2, hf⟩ := m_bndE hf
        rw [cl_n (n := pre.length) h4] at e2
        obtain ⟨v3, e3, hf⟩ := m_bndE hf
        have t3 : v3.toInt = x4.toInt + 1 := ti_add e3 rfl (show (1 : Int32).toInt = 1 from rfl) (by omega) (by omega)
        have F2 : FR (fun a => a = g + 7) S S2 := fr_A hC.1 k7 e2
        have T2 : ZT S2 := by rw [e2]; exact zt_A hC.1 k7
        have Z2 : TZ S2 := tz_k hC.1 hC.2.1 F2 (fun a _ e => by
          rw [e, k7]
          exact ⟨by decide, by decide, fun h => absurd h (by decide)⟩)
        have C2 : CG S2 := cg_w hC T2 Z2 F2 (by omega) (by omega) (by omega) (by omega)
        have tr2 : TRc S2 g T := trc_e hC hg tr (fun a ha => fr_e F2 (tc_lt hC hg ha) (fun e => by
          rw [e] at ha
          exact tc_no hC hg (by omega) (by omega) (by omega) (by omega) (by omega) ha))
        have bo2 : BO S2 (g + 1) st := bo_fr bo F2 (by omega) (by omega)
        obtain ⟨-, hf⟩ := m_chkE hf
        obtain ⟨⟨c4, S4⟩, h4', hf⟩ := m_calE hf
        obtain ⟨e4, q4⟩ := p_at C2 hg tr2 (by omega) (by omega) h4'
        rw [k5] at q4
        dsimp only at hf
        rw [e4, q4] at hf
        obtain ⟨-, hf⟩ := m_chkE hf
        have tp : (zI S2 0 (nk S2 (g + 3) (g + 5) k)).toInt = tP T k := (tr2.2.2.2 k hk).1.1
        have tm : (zI S 1 (nk S (g + 3) (g + 5) k)).toInt = tM T k := (tr.2.2.2 k hk).1.2
        have a2 : zA S2 (g + 7) = upd (zA S (g + 7)) pre.length (zI S 1 (nk S (g + 3) (g + 5) k)) := by
          rw [e2]
          exact va_up_self _ _ _
        have ll : (pre ++ [k]).length = pre.length + 1 := by rw [List.length_append]; rfl
        obtain ⟨d1, d2, d3⟩ := ih v3 _ S2 (pre ++ [k]) (tP T k).toNat (by omega) (by omega) (by omega) (by omega) (by rw [hanc, anc_s hw k1 hk, List.append_assoc]; rfl) C2 tr2 bo2 (fun i hi => by
          rw [a2]
          by_cases e : i = pre.length
          · subst e
            rw [upd_self, List.getElem_append_right (Nat.le_refl _)]
            simp
            exact tm
          · rw [upd_ne e, List.getElem_append_left (show i < pre.length by omega)]
            exact hp i (by omega)) hf
        exact ⟨d1, fr_t (fr_m F2 (fun a _ e => Or.inl e)) d2, d3⟩
/-- the class goes to a node -/
theorem p_stand {nd : Nat} (hC : CG S) (hg : g = 35 ∨ g = 99) (hw : WT T) (hL : LTr st T) (tr : TRc S g T) (bo : BO S (g + 1) st) (h1 : x1.toInt = (nd : Int)) (hnd : nd ≤ tn T) (hf : f_X1_standAt g x1 107 S = some o) : ZT o.2 ∧ FR (fun a => a = g + 7 ∨ a = 107 ∨ a = 108) S o.2 ∧ BO o.2 107 (posT st T nd) := by
  have hf : f_X1_standAt_0 g x1 107 S = some o := hf
  obtain ⟨⟨kg, p0, -, -, -, p7⟩, -, -⟩ := fx_g hC.2.2.1 hg
  have h300 := hw.1
  unfold f_X1_standAt_0 at hf
  obtain ⟨-, hf⟩ := m_chkE hf
  replace hf := m_calY hf p7
  exact sd_11 hg hw hL hnd mFuel 0 x1 S [] nd rfl h1 hnd (by show 0 + nd ≤ 300; omega) rfl hC tr bo (fun i hi => absurd hi (Nat.not_lt_zero _)) hf
/-- go on both sides -/
theorem fm_go {o2 : Int32 × MS} {o : (Nat × Int32) × ZS} (hC : CG S) (hI : TJ I) (hA : TK A) (h5b : 0 ≤ (I 5).toInt ∧ (I 5).toInt ≤ 1) (h : FM I A S) (hs : SM o2.2.1 o2.2.2 o.2) (h2 : f_go x1 I A = some o2) (ho : d_X11_go 1 x1 S = some o) : FM o2.2.1 o2.2.2 o.2 ∧ ((o.1.1 = 0 ∧ o2.2.1 0 = 0) ∨ (o.1.1 = 2 ∧ o2.2.1 0 = 1)) := by
  obtain ⟨hm, g, L, st, T, r, c, w⟩ := h
  obtain ⟨⟨p7, gc⟩, gr, ⟨c1, c2, c3⟩, bo, qs⟩ := id w
  obtain ⟨hw, hl, -, h3⟩ := fw_w w
  have hgg := (sc_7 hm.1 p7).1
  have hf : d_X11_go_0 1 x1 S = some o := ho
  have hr : f_go_0 x1 I A = some o2 := h2
  have z0 : (0 : Int32).toInt = 0 := rfl
  have k1 : zK S 1 = 11 := fx_k hC.2.2.1 (by decide) (by decide)
  unfold d_X11_go_0 at hf
  obtain ⟨-, hf⟩ := m_chkE hf
  replace hf := m_calY hf p7
  obtain ⟨-, hf⟩ := m_chkE hf
  obtain ⟨⟨y2, S2⟩, h_2, hf⟩ := m_calE hf
  obtain ⟨-, hf⟩ := m_chkE hf
  obtain ⟨e2, q2⟩ := fm_has hC hgg gc.1.1 h_2
  dsimp only at e2 q2 hf
  rw [e2] at hf
  unfold f_go_0 at hr
  obtain ⟨⟨r1, Ic1, Ac1⟩, h_r1, hr⟩ := m_clE hr
  dsimp only at hr
  obtain ⟨e1, q1⟩ := fm_isNode h5b hA gr.1.1 h_r1
  have i1 : Ic1 = I := congrArg Prod.fst e1
  have a1 : Ac1 = A := congrArg Prod.snd e1
  rw [i1, a1] at hr
  dsimp only at q1
  rcases m_ifE hf with ⟨d, hf⟩ | ⟨d, hf⟩
  · rw [d] at q2
    have hn : ¬ (0 ≤ x1.toInt ∧ x1.toInt ≤ (tn T : Int)) := by
      rcases q2 with ⟨q, -⟩ | ⟨-, q⟩
      · exact absurd q (by decide)
      · exact q
    rcases m_ifE hr with ⟨d2, hr⟩ | ⟨d2, hr⟩
    · unfold f_go_14 at hr
      obtain ⟨I1, f1, hr⟩ := m_bndE hr
      have j0 : I1 0 = 1 := by rw [f1, upd_self]
      have jj : ∀ j, j ≠ 0 → I1 j = I j := fun j hj => by rw [f1, upd_ne hj]
      rcases m_ifE hr with ⟨d3, hr⟩ | ⟨d3, hr⟩
      · rw [j0] at d3
        exact absurd d3 (by decide)
      · unfold f_go_41 at hr
        cases hr
        cases hf
        refine ⟨fm_ke hC h5b ⟨hm, g, L, st, T, r, c, w⟩ hs (ke_q ke_0) (jj 5 (by decide)) (jj 6 (by decide)) (fun _ _ _ => rfl) (fun _ _ _ _ _ _ w => qs_e w.2.2.2.2 rfl rfl (fun j hj => jj j (by omega))), Or.inr ⟨rfl, j0⟩⟩
    · rcases q1 with ⟨-, q⟩ | ⟨q, -⟩
      · exact absurd q hn
      · exact absurd (i32_of q) d2
  · have hn : 0 ≤ x1.toInt ∧ x1.toInt ≤ (tn T : Int) := by
      rcases q2 with ⟨-, q⟩ | ⟨q, -⟩
      · exact q
      · exact absurd (i32_of q) d
    obtain ⟨nd, hx⟩ : ∃ nd : Nat, x1.toInt = (nd : Int) := ⟨x1.toInt.toNat, by omega⟩
    have hnd : nd ≤ tn T := by omega
    rcases m_ifE hr with ⟨d2, hr⟩ | ⟨d2, hr⟩
    · rw [d2] at q1
      rcases q1 with ⟨q, -⟩ | ⟨-, q⟩
      · exact absurd q (by decide)
      · exact absurd hn q
    · unfold f_go_14 at hr
      obtain ⟨I1, f1, hr⟩ := m_bndE hr
      have j0 : I1 0 = 0 := by rw [f1, upd_self]
      have jj : ∀ j, j ≠ 0 → I1 j = I j := fun j hj => by rw [f1, upd_ne hj]
      have t1 : TJ I1 := by rw [f1]; exact tj_u hI (show (0 : Int) ≤ (0 : Int32).toInt by decide) (show (0 : Int32).toInt ≤ (2 : Int) by decide)
      rcases m_ifE hr with ⟨-, hr⟩ | ⟨d3, hr⟩
      · obtain ⟨I2, f2, hr⟩ := m_bndE hr
        have t2 : TJ I2 := by rw [f2]; exact tj_u t1 (show (0 : Int) ≤ x1.toInt by omega) (show x1.toInt ≤ (300 : Int) by omega)
        have j6 : I2 6 = x1 := by rw [f2, upd_self]
        have j5 : I2 5 = I 5 := by rw [f2, upd_ne (by decide)]; exact jj 5 (by decide)
        have j20 : I2 0 = 0 := by rw [f2, upd_ne (by decide)]; exact j0
        obtain ⟨⟨r3, Ic3, Ac3⟩, h_r3, hr⟩ := m_clE hr
        unfold f_go_41 at hr
        cases hr
        obtain ⟨qn, pl⟩ := qs_place (k := nd) t2 hA (by rw [j5]; exact h5b) (by rw [j5]; exact gr) (by rw [j6]; exact hx) hnd h_r3
        dsimp only at qn pl
        obtain ⟨pA, pl5, pl6, pl0⟩ := plf_g pl
        -- the class
        obtain ⟨-, hf⟩ := m_chkE hf
        obtain ⟨S3, e3, hf⟩ := m_bndE hf
        have F3 : FR (fun a => a = 1) S S3 := fr_I e3
        have T3 : ZT S3 := by rw [e3]; exact zt_I hC.1 k1 (by decide) (show (0 : Int) ≤ x1.toInt ∧ x1.toInt ≤ (300 : Int) by omega)
        have Z3 : TZ S3 := tz_k hC.1 hC.2.1 F3 (fun a _ e => by
          rw [e, k1]
          exact ⟨by decide, by decide, fun h => absurd h (by decide)⟩)
        have C3 : CG S3 := cg_w hC T3 Z3 F3 (by decide) (by decide) (by decide) (by decide)
        have G3 : GMc S3 g L st T r := gmc_fr hC hgg gc F3 (by omega)
        have p73 : zP S3 7 1 = some g := by rw [e3]; exact p7
        obtain ⟨-, hf⟩ := m_chkE hf
        replace hf := m_calY hf p73
        obtain ⟨-, hf⟩ := m_chkE hf
        replace hf := m_calY hf (show zP S3 9 1 = some 107 from fx_p C3.2.2.1 (by decide))
        obtain ⟨-, hf⟩ := m_chkE hf
        obtain ⟨⟨r6, S6⟩, h_6, hf⟩ := m_calE hf
        obtain ⟨-, hf⟩ := m_chkE hf
        cases hf
        obtain ⟨T6, F6, B6⟩ := p_stand C3 hgg hw hl G3.1.1 G3.2.1 hx hnd h_6
        dsimp only at T6 F6 B6
        have k13 : zK S3 1 = 11 := fx_k C3.2.2.1 (by decide) (by decide)
        have e1 := fr_e F6 (a := 1) (by rw [k13]; decide) (by omega)
        refine ⟨⟨hs, g, L, st, T, r, nd, ⟨(e1.2.2.2.1 7).trans p73, gmc_fr C3 hgg G3 F6 (by omega)⟩, ?_, ⟨?_, ?_, hnd⟩, B6, qn⟩, Or.inl ⟨rfl, pl0.trans j20⟩⟩
        · show GMr Ac3 (Ic3 5).toInt.toNat L st T r
          rw [pl5, j5]
          exact gmr_7 (by omega) gr pA
        · show (zI S6 8 1).toInt = (nd : Int)
          rw [e1.2.2.1 8, e3, zI_self]
          exact hx
        · show (Ic3 6).toInt = (nd : Int)
          rw [pl6, j6]
          exact hx
      · exact absurd (show I1 0 = 0 from j0) d3
end SDA
end
section
section FM4
variable {S S' : ZS} {g g' c : Nat} {I I' : Nat → Int32} {A A' : Nat → Nat → Int32} {W : Nat → Prop} {L : List (List Int × List Int)} {st P : PO} {T T' : TRa} {r : Int} {x1 x2 x3 : Int32} {o2 : Int32 × MS}
theorem fm_q (hC : CG S) (h5b : 0 ≤ (I 5).toInt ∧ (I 5).toInt ≤ 1) (h : FM I A S) (hs : SM I' A (zsQ S)) (e : ∀ j, j ≠ 0 → I' j = I j) : FM I' A (zsQ S) := fm_ke hC h5b h hs (ke_q ke_0) (e 5 (by decide)) (e 6 (by decide)) (fun _ _ _ => rfl) (fun _ _ _ _ _ _ w => qs_e w.2.2.2.2 rfl rfl (fun j hj => e j (by omega)))
theorem fxk_4 : ∀ a ∈ [1, 107, 108, 35, 36, 37, 41, 99, 100, 101, 105], fxK a ≠ 4 ∧ fxK (a - 1) ≠ 4 ∧ a ≠ 2 ∧ 1 ≤ a ∧ a ≤ 108 := by decide
/-- nodes, their rows and the text are other cells than these -/
theorem nw_x (hC : CG S) (hW : ∀ a, W a → zK S a = 4 ∨ (∃ n, a = n + 1 ∧ zK S n = 4) ∨ a = 2) : ∀ a ∈ [1, 107, 108, 35, 36, 37, 41, 99, 100, 101, 105], ¬ W a := fun a ha hw => by
  obtain ⟨f1, f2, f3, f4, f5⟩ := fxk_4 a ha
  rcases hW a hw with k | ⟨n, e, k⟩ | e
  · rw [fx_k hC.2.2.1 f4 f5] at k
    exact f1 k
  · by_cases n0 : n = 0
    · have := hC.1.2.2.2.2.2.1
      rw [n0] at k
      omega
    · rw [fx_k hC.2.2.1 (by omega) (by omega)] at k
      rw [show a - 1 = n by omega] at f2
      exact f2 k
  · exact f3 e
theorem nw_t {i t : Nat} (hC : CG S) (hg : g = 35 ∨ g = 99) (hW : ∀ a, W a → zK S a = 4 ∨ (∃ n, a = n + 1 ∧ zK S n = 4) ∨ a = 2) (ht : zB S (g + 6) i = some t) : ¬ W (t + 1) ∧ ¬ W (t + 2) := by
  obtain ⟨b1, b2, -, -, b5, b6⟩ := (gm_of hC hg).2 i t ht
  refine ⟨fun hw => ?_, fun hw => ?_⟩
  · rcases hW _ hw with k | ⟨n, e, k⟩ | e
    · omega
    · rw [show n = t by omega] at k
      omega
    · omega
  · rcases hW _ hw with k | ⟨n, e, k⟩ | e
    · omega
    · rw [show n = t + 1 by omega] at k
      omega
    · omega
/-- the game behind a change of its tree alone -/
theorem gmc_w (hC : CG S) (hg : g = 35 ∨ g = 99) (h : GMc S g L st T r) (hF : FR W S S') (hW : ∀ a, W a → zK S a = 4 ∨ (∃ n, a = n + 1 ∧ zK S n = 4) ∨ a = 2) (tr : TRc S' g T') (hw : WT T') (hl : LTr st T') : GMc S' g L st T' r := by
  obtain ⟨-, bo, tg, lb, hr⟩ := h
  obtain ⟨⟨kg, -⟩, ⟨kb, ka, -, -, -, k6, -⟩, -⟩ := fx_g hC.2.2.1 hg
  have N := nw_x hC hW
  have N4 : ¬ W g ∧ ¬ W (g + 1) ∧ ¬ W (g + 2) ∧ ¬ W (g + 6) := by
    rcases hg with e | e
    · subst e
      exact ⟨N 35 (by decide), N 36 (by decide), N 37 (by decide), N 41 (by decide)⟩
    · subst e
      exact ⟨N 99 (by decide), N 100 (by decide), N 101 (by decide), N 105 (by decide)⟩
  have eg := fr_e hF (a := g) (by rw [kg]; decide) N4.1
  refine ⟨⟨tr, hw, hl⟩, bo_fr bo hF N4.2.1 N4.2.2.1, tgk_e hC hg tg eg (fr_e hF (by rw [k6]; decide) N4.2.2.2) (fun i t ht => ?_), lb, by rw [eg.2.2.1]; exact hr⟩
  obtain ⟨-, -, -, -, b5, b6⟩ := (gm_of hC hg).2 i t ht
  obtain ⟨n1, n2⟩ := nw_t hC hg hW ht
  exact ⟨fr_e hF (by rw [b5]; decide) n1, fr_e hF (by rw [b6]; decide) n2⟩
/-- both sides behind a change of the tree alone -/
theorem fm_tr (hC : CG S) (h5b : 0 ≤ (I 5).toInt ∧ (I 5).toInt ≤ 1) (w : FGm I A S g L st T r c) (hm : SC S) (hs : SM I' A' S') (hF : FR W S S') (hW : ∀ a, W a → zK S a = 4 ∨ (∃ n, a = n + 1 ∧ zK S n = 4) ∨ a = 2) (tr : TRc S' g T') (rr : TRr A' (I 5).toInt.toNat T') (hw : WT T') (hl : LTr st T') (hc : c ≤ tn T') (hp : posT st T' c = posT st T c) (e : ∀ j, j ≠ 0 → j ≠ 1 → I' j = I j) (eA : ∀ j, 16 ≤ j → A' j = A j) : FM I' A' S' := by
  obtain ⟨⟨p7, gc⟩, ⟨-, sp, tg, hr⟩, ⟨c1, c2, c3⟩, bo, qs⟩ := w
  have hg := (sc_7 hm p7).1
  have k1 : zK S 1 = 11 := fx_k hC.2.2.1 (by decide) (by decide)
  have N := nw_x hC hW
  have e1 := fr_e hF (a := 1) (by rw [k1]; decide) (N 1 (by decide))
  have e5 : I' 5 = I 5 := e 5 (by decide) (by decide)
  refine ⟨hs, g, L, st, T', r, c, ⟨(e1.2.2.2.1 7).trans p7, gmc_w hC hg gc hF hW tr hw hl⟩, ?_, ⟨by rw [e1.2.2.1 8]; exact c1, by rw [e 6 (by decide) (by decide)]; exact c2, hc⟩, by rw [hp]; exact bo_fr bo hF (N 107 (by decide)) (N 108 (by decide)), by rw [hp]; exact qs_e qs (eA 24 (by decide)) (eA 32 (by decide)) (fun j hj => e j (by omega) (by omega))⟩
  rw [e5]
  refine ⟨⟨rr, hw, hl⟩, ⟨?_, sp.2⟩, tgr_e tg (fun j j1 j2 => eA j (by omega)), by rw [eA 23 (by decide)]; exact hr⟩
  have s1 := sp.1
  unfold SPo at s1 ⊢
  rw [eA 16 (by decide), eA 17 (by decide)]
  exact s1
theorem gg_7 (hm : SC S) (p7 : zP S 7 1 = some g) : ∃ g', GG g g' := by
  rcases (sc_7 hm p7).1 with e | e
  · exact ⟨99, Or.inl ⟨e, rfl⟩⟩
  · exact ⟨35, Or.inr ⟨e, rfl⟩⟩
/-- addMark on both sides -/
theorem fm_addMark {o : (Nat × Int32) × ZS} (hC : CG S) (hI : TJ I) (hA : TK A) (h5b : 0 ≤ (I 5).toInt ∧ (I 5).toInt ≤ 1) (h : FM I A S) (hs : SM o2.2.1 o2.2.2 o.2) (h2 : f_addMark x1 I A = some o2) (ho : d_X11_addMark 1 x1 S = some o) : FM o2.2.1 o2.2.2 o.2 ∧ ((o.1.1 = 0 ∧ o2.2.1 0 = 0 ∧ o.1.2 = o2.1) ∨ (o.1.1 = 1 ∧ o2.2.1 0 = 1) ∨ (o.1.1 = 4 ∧ o2.2.1 0 = 2)) := by
  have hF := h
  obtain ⟨hm, g, L, st, T, r, c, w⟩ := h
  obtain ⟨⟨p7, gc⟩, gr, ⟨c1, c2, c3⟩, bo, qs⟩ := id w
  obtain ⟨hw, hl, -, h3⟩ := fw_w w
  obtain ⟨g', hGG⟩ := gg_7 hm.1 p7
  have hgg := gg_g hGG
  have hf : d_X11_addMark_0 1 x1 S = some o := ho
  have hr : f_addMark_0 x1 I A = some o2 := h2
  have z0 : (0 : Int32).toInt = 0 := rfl
  have z4 : (4 : Int32).toInt = 4 := rfl
  have z255 : (255 : Int32).toInt = 255 := rfl
  have NM := (gc.1.1.2.2.2 c c3).2.1
  have NK := (gr.1.1.2.2 c c3).2.1
  have r50 : ∀ {t0 : Int32}, 0 < t0.toInt → f_addMark_50 x1 t0 I A = some o2 → o2.2.1 = upd I 0 t0 ∧ o2.2.2 = A := fun {t0} ht hh => by
    unfold f_addMark_50 at hh
    obtain ⟨I1, f1, hh⟩ := m_bndE hh
    rcases m_ifE hh with ⟨d, hh⟩ | ⟨-, hh⟩
    · replace d := ti_leP (a := I1 0) (b := (0 : Int32)) d rfl z0
      rw [f1, upd_self] at d
      omega
    · cases hh
      exact ⟨f1, rfl⟩
  have thr : ∀ {t0 : Int32}, 0 < t0.toInt → f_addMark_50 x1 t0 I A = some o2 → o.2 = zsQ S → FM o2.2.1 o2.2.2 o.2 ∧ o2.2.1 0 = t0 := fun {t0} ht hh e => by
    obtain ⟨a1, a2⟩ := r50 ht hh
    rw [e, a1, a2] at hs
    rw [e, a1, a2]
    exact ⟨fm_q hC h5b hF hs (fun j hj => upd_ne hj), upd_self⟩
  unfold d_X11_addMark_0 at hf
  unfold f_addMark_0 at hr
  have bad : d_X11_addMark_11 S = some o → f_addMark_12 x1 I A = some o2 → FM o2.2.1 o2.2.2 o.2 ∧ ((o.1.1 = 0 ∧ o2.2.1 0 = 0 ∧ o.1.2 = o2.1) ∨ (o.1.1 = 1 ∧ o2.2.1 0 = 1) ∨ (o.1.1 = 4 ∧ o2.2.1 0 = 2)) := fun ha hb => by
    unfold d_X11_addMark_11 at ha
    unfold f_addMark_12 at hb
    have e : o = ((1, 0), zsQ S) := (Option.some.inj ha).symm
    obtain ⟨a1, a2⟩ := thr (by decide) hb (by rw [e])
    exact ⟨a1, Or.inr (Or.inl ⟨by rw [e], a2⟩)⟩
  have ful : ∀ {S1 : ZS}, S1 = S → d_X11_addMark_48 S1 = some o → f_addMark_45 x1 I A = some o2 → FM o2.2.1 o2.2.2 o.2 ∧ ((o.1.1 = 0 ∧ o2.2.1 0 = 0 ∧ o.1.2 = o2.1) ∨ (o.1.1 = 1 ∧ o2.2.1 0 = 1) ∨ (o.1.1 = 4 ∧ o2.2.1 0 = 2)) := fun {S1} es ha hb => by
    rw [es] at ha
    unfold d_X11_addMark_48 at ha
    unfold f_addMark_45 at hb
    have e : o = ((4, 0), zsQ S) := (Option.some.inj ha).symm
    obtain ⟨a1, a2⟩ := thr (by decide) hb (by rw [e])
    exact ⟨a1, Or.inr (Or.inr ⟨by rw [e], a2⟩)⟩
  rcases m_ifE hf with ⟨d, hf⟩ | ⟨d, hf⟩
  · rcases m_ifE hr with ⟨-, hr⟩ | ⟨d2, hr⟩
    · exact bad hf hr
    · exact absurd d d2
  · rcases m_ifE hr with ⟨d2, hr⟩ | ⟨-, hr⟩
    · exact absurd d2 d
    · replace d := ti_ltN (a := x1) (b := (0 : Int32)) d rfl z0
      rcases m_ifE hf with ⟨d1, hf⟩ | ⟨d1, hf⟩
      · rcases m_ifE hr with ⟨-, hr⟩ | ⟨d2, hr⟩
        · replace d1 := ti_leP (a := x1) (b := (255 : Int32)) d1 rfl z255
          obtain ⟨-, hf⟩ := m_chkE hf
          replace hf := m_calY hf p7
          obtain ⟨-, hf⟩ := m_chkE hf
          obtain ⟨-, hf⟩ := m_chkE hf
          obtain ⟨⟨n, S1⟩, h_1, hf⟩ := m_calE hf
          obtain ⟨e1, q1⟩ := p_at hC hgg gc.1.1 (by omega) (by omega) h_1
          rw [show (zI S 8 1).toInt.toNat = c by omega] at q1
          obtain ⟨-, hf⟩ := m_chkE hf
          dsimp only at hf
          rw [e1, q1] at hf
          obtain ⟨-, hf⟩ := m_chkE hf
          rcases m_ifE hf with ⟨d3, hf⟩ | ⟨d3, hf⟩
          · replace d3 := ti_eqP (a := zI S 8 1) (b := (0 : Int32)) d3 rfl z0
            rcases m_ifE hr with ⟨-, hr⟩ | ⟨d4, hr⟩
            · exact ful rfl hf hr
            · replace d4 := ti_eqN (a := I 6) (b := (0 : Int32)) d4 rfl z0
              omega
          · replace d3 := ti_eqN (a := zI S 8 1) (b := (0 : Int32)) d3 rfl z0
            rcases m_ifE hr with ⟨d4, hr⟩ | ⟨-, hr⟩
            · replace d4 := ti_eqP (a := I 6) (b := (0 : Int32)) d4 rfl z0
              omega
            · obtain ⟨k4, hf⟩ := m_chkE hf
              obtain ⟨v1, f1, hr⟩ := m_bndE hr
              obtain ⟨v2, f2, hr⟩ := m_bndE hr
              have s1 : v1.toInt = 301 * (I 5).toInt := ti_mul f1 (show (301 : Int32).toInt = 301 from rfl) rfl (by omega) (by omega)
              have s2 : v2.toInt = v1.toInt + (I 6).toInt := ti_add f2 rfl rfl (by omega) (by omega)
              obtain ⟨-, hr⟩ := m_chkE hr
              obtain ⟨v3, f3, hr⟩ := m_bndE hr
              rw [cl_n (n := 301 * (I 5).toInt.toNat + c) (by omega)] at f3
              have s3 : v3.toInt = ((tK T c).length : Int) := by rw [f3]; exact NK.1
              have l4 := (hw.2.2.1 c).2
              rcases m_ifE hf with ⟨d5, hf⟩ | ⟨d5, hf⟩
              · replace d5 := ti_ltP (a := zI S 4 (nk S (g + 3) (g + 5) c)) (b := (4 : Int32)) d5 rfl z4
                have l3 : ((tK T c).length : Int) ≤ 3 := by
                  have := NM.1
                  omega
                rcases m_ifE hr with ⟨d6, hr⟩ | ⟨-, hr⟩
                · replace d6 := ti_eqP (a := v3) (b := (4 : Int32)) d6 rfl z4
                  omega
                · obtain ⟨-, hf⟩ := m_chkE hf
                  obtain ⟨⟨y3, S3⟩, h_3, hf⟩ := m_calE hf
                  obtain ⟨T3, M3, F3, K3⟩ := p_putMark hC.1 k4 NM l3 h_3
                  dsimp only at T3 M3 F3 K3
                  obtain ⟨-, hf⟩ := m_chkE hf
                  obtain ⟨-, hf⟩ := m_chkE hf
                  cases hf
                  unfold f_addMark_50 at hr
                  obtain ⟨I1, f4, hr⟩ := m_bndE hr
                  have j0 : I1 0 = 0 := by rw [f4, upd_self]
                  have jj : ∀ j, j ≠ 0 → I1 j = I j := fun j hj => by rw [f4, upd_ne hj]
                  rcases m_ifE hr with ⟨-, hr⟩ | ⟨d7, hr⟩
                  · obtain ⟨⟨r5, Ic5, Ac5⟩, h_5, hr⟩ := m_clE hr
                    dsimp only at hr
                    rw [jj 5 (by decide), jj 6 (by decide)] at h_5
                    obtain ⟨b1, b2, b3, b4⟩ := v_addMarkTo (g := (I 5).toInt) (nd := (c : Int)) (k := 301 * (I 5).toInt.toNat + c) rfl c2 h5b (by omega) (by omega) hA NK l3 (by omega) h_5
                    dsimp only at b1 b2 b3 b4
                    obtain ⟨v6, f6, hr⟩ := m_bndE hr
                    obtain ⟨v7, f7, hr⟩ := m_bndE hr
                    obtain ⟨-, hr⟩ := m_chkE hr
                    obtain ⟨v8, f8, hr⟩ := m_bndE hr
                    cases hr
                    have i5 : Ic5 5 = I 5 := by rw [b1]; exact jj 5 (by decide)
                    have i6 : Ic5 6 = I 6 := by rw [b1]; exact jj 6 (by decide)
                    have s6 : v6.toInt = 301 * (I 5).toInt := by
                      rw [i5] at f6
                      exact ti_mul f6 (show (301 : Int32).toInt = 301 from rfl) rfl (by omega) (by omega)
                    have s7 : v7.toInt = v6.toInt + (I 6).toInt := by
                      rw [i6] at f7
                      exact ti_add f7 rfl rfl (by omega) (by omega)
                    rw [cl_n (n := 301 * (I 5).toInt.toNat + c) (by omega)] at f8
                    refine ⟨fm_tr (T' := mkT T c (tK T c ++ [x1.toInt])) hC h5b w hm.1 hs F3 (fun a e => Or.inl (by rw [e]; exact k4)) (trc_mk hC hGG gc.1.1 c3 (fun a ha hn => fr_e F3 (tc_lt hC hgg ha) hn) K3 M3) (trr_mk gr.1.1 hw b4 b3) (wt_mk hw ?_) hl c3 rfl (fun j j0' _ => by show Ic5 j = I j; rw [b1]; exact jj j j0') (fun j hj => b4.2.1 j (by omega) (by omega)), Or.inl ⟨rfl, by show Ic5 0 = 0; rw [b1]; exact j0, ?_⟩⟩
                    · rw [List.length_append]
                      show (tK T c).length + 1 ≤ 4
                      omega
                    · show zI S3 4 (nk S (g + 3) (g + 5) c) = v8
                      exact Int32.toInt_inj.1 (by rw [M3.1, f8]; exact b3.1.symm)
                  · exact absurd (show I1 0 ≤ 0 by rw [j0]; decide) d7
              · replace d5 := ti_ltN (a := zI S 4 (nk S (g + 3) (g + 5) c)) (b := (4 : Int32)) d5 rfl z4
                rcases m_ifE hr with ⟨-, hr⟩ | ⟨d6, hr⟩
                · exact ful rfl hf hr
                · replace d6 := ti_eqN (a := v3) (b := (4 : Int32)) d6 rfl z4
                  have := NM.1
                  omega
        · exact absurd d1 d2
      · rcases m_ifE hr with ⟨d2, hr⟩ | ⟨-, hr⟩
        · exact absurd d2 d1
        · exact bad hf hr
/-- end on both sides -/
theorem fm_end {o : (Nat × Int32) × ZS} (hC : CG S) (h5b : 0 ≤ (I 5).toInt ∧ (I 5).toInt ≤ 1) (h : FM I A S) (hs : SM o2.2.1 o2.2.2 o.2) (h2 : f_end x1 I A = some o2) (ho : d_X11_end 1 x1 S = some o) : FM o2.2.1 o2.2.2 o.2 := by
  obtain ⟨hm, g, L, st, T, r, c, w⟩ := h
  obtain ⟨⟨p7, gc⟩, gr, ⟨c1, c2, c3⟩, bo, qs⟩ := id w
  have hgg := (sc_7 hm.1 p7).1
  have kg := (fx_g hC.2.2.1 hgg).1.1
  have SR0 : SR I A S := ⟨hm, fun q hq => by
    rw [p7] at hq
    cases hq
    refine ⟨Int32.toInt_inj.1 (gc.2.2.2.2.trans gr.2.2.2.symm), Int32.toInt_inj.1 (gc.2.2.1.1.trans ?_)⟩
    have := gr.2.2.1.1
    rw [Int.toNat_natCast] at this
    exact this.symm⟩
  have SR1 := sr_end h5b SR0 hs h2 ho
  have fz := (fz_X11_end ho hC.1.2.2.2.2.1).2.2
  have fw := fw_end h2
  have k1 : zK S 1 = 11 := fx_k hC.2.2.1 (by decide) (by decide)
  have p7' : zP o.2 7 1 = some g := by
    rw [(fz 1 (by rw [k1]; decide)).2.2.2.1 7 (by rw [k1]; decide)]
    exact p7
  obtain ⟨q6, -⟩ := SR1.2 g p7'
  have F : FR (fun a => a = g) S o.2 := by
    have hf : d_X11_end_0 1 x1 S = some o := ho
    have thr : d_X11_end_9 S = some o → FR (fun a => a = g) S o.2 := fun hh => by
      unfold d_X11_end_9 at hh
      cases hh
      exact fr_0 (S := S)
    unfold d_X11_end_0 at hf
    rcases m_ifE hf with ⟨-, hf⟩ | ⟨-, hf⟩
    · exact thr hf
    · rcases m_ifE hf with ⟨-, hf⟩ | ⟨-, hf⟩
      · obtain ⟨-, hf⟩ := m_chkE hf
        replace hf := m_calY hf p7
        obtain ⟨-, hf⟩ := m_chkE hf
        obtain ⟨S2, e2, hf⟩ := m_bndE hf
        cases hf
        exact fr_I e2
      · exact thr hf
  have eg : ∀ j, j ≠ 6 → zI o.2 j g = zI S j g := fun j hj => (fz g (by rw [kg]; decide)).2.2.1 j (by rw [kg]; simp; omega)
  have e0 : ∀ j, j ≠ 0 → o2.2.1 j = I j := fun j hj => fw.1 j (by simpa using hj)
  have eA : ∀ j, j ≠ 23 → o2.2.2 j = A j := fun j hj => fw.2 j (by simpa using hj)
  obtain ⟨⟨tr, hw, hl⟩, bo1, tg, lb, -⟩ := gc
  obtain ⟨⟨rr, -, -⟩, sp, tgr, -⟩ := gr
  have k6 : zK S (g + 6) = 17 := (fx_g hC.2.2.1 hgg).2.1.2.2.2.2.2.1
  have k107 : zK S 107 = 0 := fx_k hC.2.2.1 (by decide) (by decide)
  have e1 := fr_e F (a := 1) (by rw [k1]; decide) (by omega)
  refine ⟨hs, g, L, st, T, (zI o.2 6 g).toInt, c, ⟨p7', ⟨trc_g hC hgg tr (eg 3 (by decide)) (fun a ha hn => fr_e F (tc_lt hC hgg ha) hn), hw, hl⟩, bo_fr bo1 F (by omega) (by omega), tgk_o tg (eg 5 (by decide)) (fr_e F (a := g + 6) (by rw [k6]; decide) (by omega)).2.2.2.2.1 (fun i t ht w r hr hw => ?_), lb, rfl⟩, ?_, ⟨by rw [e1.2.2.1 8]; exact c1, by rw [e0 6 (by decide)]; exact c2, c3⟩, bo_fr bo F (by omega) (by omega), qs_e qs (eA 24 (by decide)) (eA 32 (by decide)) (fun j hj => e0 j (by omega))⟩
  · obtain ⟨t1, -, -, -, t5, t6⟩ := (gm_of hC hgg).2 i t ht
    rcases hr with e | e
    · rw [e] at hw ⊢
      exact eqc_rl (fr_e F (by rw [t5]; decide) (by omega)) t5 hw
    · rw [e] at hw ⊢
      exact eqc_rl (fr_e F (by rw [t6]; decide) (by omega)) t6 hw
  · rw [q6, e0 5 (by decide)]
    refine ⟨⟨trr_e (by omega) hw.1 rr (by rw [eA 7 (by decide)]) (fun j hj => eA j (by omega)), hw, hl⟩, ⟨?_, sp.2⟩, tgr_e tgr (fun j j1 j2 => eA j (by omega)), rfl⟩
    have s1 := sp.1
    unfold SPo at s1 ⊢
    rw [eA 16 (by decide), eA 17 (by decide)]
    exact s1
theorem vs_102 {k : Nat} {A0 : Nat → Nat → Int32} (hk : x2.toInt = (k : Int)) (hk6 : k ≤ 601) (hA0 : TK A0) (hN : 0 ≤ (I 1).toInt ∧ (I 1).toInt ≤ 200) : ∀ (n : Nat) (x3 : Int32) (A : Nat → Nat → Int32), (0 ≤ x3.toInt ∧ x3.toInt ≤ (I 1).toInt) → (∀ j, j ≠ 15 → A j = A0 j) → (∀ i, (i < 200 * k ∨ 200 * k + 200 ≤ i) → A 15 i = A0 15 i) → (∀ i : Nat, (i : Int) < x3.toInt → (A 15 (200 * k + i)).toInt = (A0 2 i).toInt) → f_say_102 n x2 x3 I A = some o2 → o2.2.1 = upd I 1 0 ∧ (∀ j, j ≠ 14 → j ≠ 15 → o2.2.2 j = A0 j) ∧ (∀ i, i ≠ k → o2.2.2 14 i = A0 14 i) ∧ o2.2.2 14 k = I 1 ∧ (∀ i, (i < 200 * k ∨ 200 * k + 200 ≤ i) → o2.2.2 15 i = A0 15 i) ∧ ∀ i : Nat, (i : Int) < (I 1).toInt → (o2.2.2 15 (200 * k + i)).toInt = (A0 2 i).toInt := by
  intro n
  induction n with
  | zero => intro x3 A _ _ _ _ hf; cases hf
  | succ n ih =>
    intro x3 A hx hA h15 hp hf
    have hf : f_say_102s (f_say_102 n) x2 x3 I A = some o2 := hf
    unfold f_say_102s at hf
    rcases m_ifE hf with ⟨c, hf⟩ | ⟨c, hf⟩
    · replace c := ti_leP (a := I 1) (b := x3) c rfl rfl
      obtain ⟨-, hf⟩ := m_chkE hf
      obtain ⟨A1, e1, hf⟩ := m_bndE hf
      rw [cl_n (n := k) hk] at e1
      obtain ⟨I2, e2, hf⟩ := m_bndE hf
      obtain ⟨-, hf⟩ := m_chkE hf
      obtain ⟨v3, -, hf⟩ := m_bndE hf
      cases hf
      have u : ∀ j, j ≠ 14 → A1 j = A j := fun j hj => by rw [e1]; exact va_up_ne _ _ hj
      have u4 : A1 14 = upd (A 14) k (I 1) := by rw [e1]; exact va_up_self _ _ _
      refine ⟨e2, fun j j1 j2 => (u j j1).trans (hA j j2), fun i hi => ?_, ?_, fun i hi => ?_, fun i hi => ?_⟩
      · show A1 14 i = A0 14 i
        rw [u4, upd_ne hi, hA 14 (by decide)]
      · show A1 14 k = I 1
        rw [u4, upd_self]
      · show A1 15 i = A0 15 i
        rw [u 15 (by decide)]
        exact h15 i hi
      · show (A1 15 (200 * k + i)).toInt = _
        rw [u 15 (by decide)]
        exact hp i (by omega)
    · replace c := ti_leN (a := I 1) (b := x3) c rfl rfl
      obtain ⟨v4, e4, hf⟩ := m_bndE hf
      obtain ⟨v5, e5, hf⟩ := m_bndE hf
      have t4 : v4.toInt = 200 * x2.toInt := ti_mul e4 (show (200 : Int32).toInt = 200 from rfl) rfl (by omega) (by omega)
      have t5 : v5.toInt = v4.toInt + x3.toInt := ti_add e5 rfl rfl (by omega) (by omega)
      obtain ⟨-, hf⟩ := m_chkE hf
      obtain ⟨v6, e6, hf⟩ := m_bndE hf
      obtain ⟨-, hf⟩ := m_chkE hf
      obtain ⟨A7, e7, hf⟩ := m_bndE hf
      obtain ⟨v8, e8, hf⟩ := m_bndE hf
      have t8 : v8.toInt = x3.toInt + 1 := ti_add e8 rfl (show (1 : Int32).toInt = 1 from rfl) (by omega) (by omega)
      obtain ⟨i3, h3⟩ : ∃ i3 : Nat, x3.toInt = (i3 : Int) := ⟨x3.toInt.toNat, by omega⟩
      rw [cl_n (n := i3) h3, hA 2 (by decide)] at e6
      rw [cl_n (n := 200 * k + i3) (by omega)] at e7
      have b6 : 0 ≤ v6.toInt ∧ v6.toInt ≤ 65535 := by rw [e6]; exact hA0 2 i3
      have u : ∀ j, j ≠ 15 → A7 j = A j := fun j hj => by rw [e7]; exact va_up_ne _ _ hj
      have u5 : A7 15 = upd (A 15) (200 * k + i3) (vp_nar .char v6) := by rw [e7]; exact va_up_self _ _ _
      refine ih v8 A7 (by omega) (fun j hj => (u j hj).trans (hA j hj)) (fun i hi => ?_) (fun i hi => ?_) hf
      · rw [u5, upd_ne (by omega)]
        exact h15 i hi
      · rw [u5]
        by_cases e : i = i3
        · rw [e, upd_self, nar_ci rfl b6.1 b6.2, e6]
        · rw [upd_ne (by omega)]
          exact hp i (by omega)
theorem vs_18 : ∀ (n : Nat) (x1 x2 : Int32), f_say_18 n x1 x2 I A = some o2 → ∃ t0 : Int32, (t0 = 0 ∨ t0 = 1) ∧ f_say_74 t0 I A = some o2 := by
  intro n
  induction n with
  | zero => intro x1 x2 hf; cases hf
  | succ n ih =>
    intro x1 x2 hf
    have hf : f_say_18s (f_say_18 n) x1 x2 I A = some o2 := hf
    have r57 : ∀ {t0 : Int32}, f_say_57 (f_say_18 n) x2 t0 I A = some o2 → ∃ t0 : Int32, (t0 = 0 ∨ t0 = 1) ∧ f_say_74 t0 I A = some o2 := fun hh => by
      unfold f_say_57 at hh
      obtain ⟨v1, -, hh⟩ := m_bndE hh
      exact ih _ _ hh
    have r56 : f_say_56 (f_say_18 n) x2 I A = some o2 → ∃ t0 : Int32, (t0 = 0 ∨ t0 = 1) ∧ f_say_74 t0 I A = some o2 := fun hh => by
      unfold f_say_56 at hh
      exact r57 hh
    unfold f_say_18s at hf
    rcases m_ifE hf with ⟨-, hf⟩ | ⟨-, hf⟩
    · rcases m_ifE hf with ⟨-, hf⟩ | ⟨-, hf⟩
      · exact ⟨1, Or.inr rfl, hf⟩
      · exact ⟨0, Or.inl rfl, hf⟩
    · rcases m_ifE hf with ⟨-, hf⟩ | ⟨-, hf⟩
      · exact r56 hf
      · obtain ⟨-, hf⟩ := m_chkE hf
        obtain ⟨v1, -, hf⟩ := m_bndE hf
        rcases m_ifE hf with ⟨-, hf⟩ | ⟨-, hf⟩
        · exact r56 hf
        · obtain ⟨-, hf⟩ := m_chkE hf
          obtain ⟨v2, -, hf⟩ := m_bndE hf
          rcases m_ifE hf with ⟨-, hf⟩ | ⟨-, hf⟩
          · exact r56 hf
          · exact r57 hf
/-- what the reference's say does -/
theorem v_say2 (hA : TK A) (h5b : 0 ≤ (I 5).toInt ∧ (I 5).toInt ≤ 1) (h6 : (I 6).toInt = (c : Int)) (hc : c ≤ 300) (hN : 0 ≤ (I 1).toInt ∧ (I 1).toInt ≤ 2000) (hf : f_say I A = some o2) : ((o2.2.1 0).toInt = 1 → o2.2.2 = A ∧ ∀ j, j ≠ 0 → o2.2.1 j = I j) ∧ ((o2.2.1 0).toInt = 0 → (I 1).toInt ≤ 200 → (∀ j, j ≠ 0 → j ≠ 1 → o2.2.1 j = I j) ∧ RFm I I A o2.2.2 (301 * (I 5).toInt.toNat + c) ∧ (o2.2.2 14 (301 * (I 5).toInt.toNat + c)) = I 1 ∧ ∀ i : Nat, (i : Int) < (I 1).toInt → (o2.2.2 15 (200 * (301 * (I 5).toInt.toNat + c) + i)).toInt = (A 2 i).toInt) := by
  have hf : f_say_0 I A = some o2 := hf
  have z0 : (0 : Int32).toInt = 0 := rfl
  have key : ∃ t0 : Int32, (t0 = 0 ∨ t0 = 1) ∧ f_say_74 t0 I A = some o2 := by
    unfold f_say_0 at hf
    rcases m_ifE hf with ⟨-, hf⟩ | ⟨-, hf⟩
    · unfold f_say_15 at hf
      exact vs_18 _ _ _ hf
    · unfold f_say_15 at hf
      exact vs_18 _ _ _ hf
  obtain ⟨t0, ht, hf⟩ := key
  unfold f_say_74 at hf
  obtain ⟨I1, e1, hf⟩ := m_bndE hf
  have j0 : I1 0 = t0 := by rw [e1, upd_self]
  have jj : ∀ j, j ≠ 0 → I1 j = I j := fun j hj => by rw [e1, upd_ne hj]
  rcases m_ifE hf with ⟨d, hf⟩ | ⟨d, hf⟩
  · obtain ⟨v2, e2, hf⟩ := m_bndE hf
    obtain ⟨v3, e3, hf⟩ := m_bndE hf
    rw [jj 5 (by decide)] at e2
    rw [jj 6 (by decide)] at e3
    have t2 : v2.toInt = 301 * (I 5).toInt := ti_mul e2 (show (301 : Int32).toInt = 301 from rfl) rfl (by omega) (by omega)
    have t3 : v3.toInt = v2.toInt + (I 6).toInt := ti_add e3 rfl rfl (by omega) (by omega)
    have i1 : I1 1 = I 1 := jj 1 (by decide)
    have d0 : t0 = 0 := by
      rcases ht with e | e
      · exact e
      · rw [j0, e] at d
        exact absurd d (by decide)
    refine ⟨fun h => ?_, fun _ hN2 => ?_⟩
    · exfalso
      have fw : o2.2.1 0 = I1 0 := by
        have : ∀ (n : Nat) (x3 : Int32) (A : Nat → Nat → Int32), f_say_102 n v3 x3 I1 A = some o2 → o2.2.1 0 = I1 0 := by
          intro n
          induction n with
          | zero => intro x3 A hf; cases hf
          | succ n ih =>
            intro x3 A hf
            have hf : f_say_102s (f_say_102 n) v3 x3 I1 A = some o2 := hf
            unfold f_say_102s at hf
            rcases m_ifE hf with ⟨-, hf⟩ | ⟨-, hf⟩
            · obtain ⟨-, hf⟩ := m_chkE hf
              obtain ⟨A1, -, hf⟩ := m_bndE hf
              obtain ⟨I2, e2, hf⟩ := m_bndE hf
              obtain ⟨-, hf⟩ := m_chkE hf
              obtain ⟨v3, -, hf⟩ := m_bndE hf
              cases hf
              show I2 0 = I1 0
              rw [e2, upd_ne (by decide)]
            · obtain ⟨v4, -, hf⟩ := m_bndE hf
              obtain ⟨v5, -, hf⟩ := m_bndE hf
              obtain ⟨-, hf⟩ := m_chkE hf
              obtain ⟨v6, -, hf⟩ := m_bndE hf
              obtain ⟨-, hf⟩ := m_chkE hf
              obtain ⟨A7, -, hf⟩ := m_bndE hf
              obtain ⟨v8, -, hf⟩ := m_bndE hf
              exact ih _ _ hf
        exact this _ _ _ hf
      rw [fw, j0, d0] at h
      exact absurd h (by decide)
    · obtain ⟨a1, a2, a3, a4, a5, a6⟩ := vs_102 (k := 301 * (I 5).toInt.toNat + c) (A0 := A) (I := I1) (by omega) (by omega) hA (by rw [i1]; omega) mFuel 0 A (by rw [i1, z0]; omega) (fun _ _ => rfl) (fun _ _ => rfl) (fun i hi => by rw [z0] at hi; omega) hf
      rw [i1] at a4 a6
      refine ⟨fun j h0 h1 => by rw [a1, upd_ne h1]; exact jj j h0, ⟨fun _ _ => rfl, a2, a3, a5⟩, a4, a6⟩
  · cases hf
    refine ⟨fun _ => ⟨rfl, jj⟩, fun h _ => ?_⟩
    exfalso
    rcases ht with e | e
    · exact d (by rw [j0, e]; decide)
    · have h : (I1 0).toInt = 0 := h
      rw [j0, e] at h
      exact absurd h (by decide)
/-- say on both sides -/
theorem fm_say {o : (Nat × Int32) × ZS} (hC : CG S) (hA : TK A) (h5b : 0 ≤ (I 5).toInt ∧ (I 5).toInt ≤ 1) (h : FM I A S) (hs : SM o2.2.1 o2.2.2 o.2) (h2 : f_say I A = some o2) (ho : d_X11_say 1 S = some o) : FM o2.2.1 o2.2.2 o.2 := by
  have hF := h
  obtain ⟨hm, g, L, st, T, r, c, w⟩ := h
  obtain ⟨⟨p7, gc⟩, gr, ⟨c1, c2, c3⟩, bo, qs⟩ := id w
  obtain ⟨hw, hl, -, h3⟩ := fw_w w
  obtain ⟨g', hGG⟩ := gg_7 hm.1 p7
  have hgg := gg_g hGG
  obtain ⟨⟨kg, -, p1, p2, -⟩, -⟩ := fx_g hC.2.2.1 hgg
  have wb := hm.2.2.2
  have vs := v_say2 hA h5b c2 (by omega) wb.1 h2
  have en : nd S g (zI S 8 1) = nk S (g + 3) (g + 5) c := by
    rw [nd_nk hC.1 kg p1 p2 (by omega) (by rw [gc.1.1.1]; omega)]
    rw [show (zI S 8 1).toInt.toNat = c by omega]
  rcases p_say hC hgg p7 hm.2 ho with ⟨a1, a2, a3, a4, a5, F, w', hr, hl', hcw⟩ | ⟨a1, a2, a3⟩
  · rcases v_say rfl rfl wb.1 h2 with ⟨-, b2, b3, b4⟩ | ⟨b1, -⟩
    · rw [en] at F hr
      obtain ⟨d1, d2, d3, d4⟩ := vs.2 b3 a1.1
      have nd4 := nk_nd hC hgg c
      have l2 : (w'.length : Int) ≤ 200 := by
        have := a1.1
        omega
      refine fm_tr (T' := rkT T c w') hC h5b w hm.1 hs F (fun a e => ?_) (trc_rk hC hGG gc.1.1 c3 (fun a ha hn => fr_e F (tc_lt hC hgg ha) (fun e => ?_)) hr) (trr_rk gr.1.1 hw d2 ⟨?_, fun i hi => ?_⟩) (wt_rk hw (by omega)) hl c3 rfl (fun j j0 j1 => d1 j j0 j1) (fun j hj => d2.2.1 j (by omega) (by omega))
      · rcases e with e | e
        · exact Or.inr (Or.inr e)
        · exact Or.inr (Or.inl ⟨_, e, nd4.1⟩)
      · rcases e with e | e
        · rw [e] at ha
          exact tc_no hC hgg (by decide) (by omega) (by omega) (by omega) (by omega) ha
        · exact hn e
      · rw [d3, hl']
      · rw [d4 i (by omega), hcw]
        unfold txR
        rw [if_pos (by omega)]
        rfl
    · exact absurd a1 b1
  · rcases v_say rfl rfl wb.1 h2 with ⟨b1, -⟩ | ⟨-, b2, b3, b4⟩
    · exact absurd b1 a1
    · obtain ⟨d1, d2⟩ := vs.1 b3
      rw [a3, d1] at hs
      rw [a3, d1]
      exact fm_q hC h5b hF hs d2
end FM4
end
section
/-- the first child -/
noncomputable def hdC (T : TRa) (p : Nat) : Int := match tL T p with
  | [] => -1
  | k :: _ => (k : Int)
noncomputable def dpc (P C : Nat → Int) : List Nat → Nat
  | [] => 0
  | k :: l => dpc P C l + (if C (P k).toNat = (k : Int) then 0 else 1)
/-- how deep a node is, by who goes on -/
noncomputable def dpx (T : TRa) (C : Nat → Int) (k : Nat) : Nat := dpc (tP T) C (ancL (tP T) k k)
/-- the tree once H goes on behind u -/
noncomputable def ldT (T : TRa) (u H : Nat) : TRa := (tn T, tP T, tM T, fun p => if p = u then H :: (tL T u).erase H else tL T p, tK T, tR T)
section LEA
variable {S S' : ZS} {g g' c k p u H F : Nat} {I I' : Nat → Int32} {A A' : Nat → Nat → Int32} {W : Nat → Prop} {L : List (List Int × List Int)} {st P : PO} {T T' : TRa} {r v : Int} {x1 x2 x3 : Int32} {o : Int32 × ZS} {o2 : Int32 × MS} {N C : Nat → Int}
theorem hd_c (h : chn N (tL T p) v) : v = hdC T p := by
  unfold hdC
  cases e : tL T p with
  | nil => rw [e] at h; exact h
  | cons k l => rw [e] at h; exact h.1
theorem hdC_n : hdC T p = -1 ↔ tL T p = [] := by
  unfold hdC
  cases e : tL T p with
  | nil => exact ⟨fun _ => rfl, fun _ => rfl⟩
  | cons k l => exact ⟨fun h => by have h : (k : Int) = -1 := h; omega, fun h => by cases h⟩
theorem trc_hd (tr : TRc S g T) (hp : p ≤ tn T) : nF S 2 (g + 3) (g + 5) p = hdC T p := hd_c (tr.2.2.1 p hp).1
theorem trr_hd (tr : TRr A g T) (hp : p ≤ tn T) : aC A g p = hdC T p := hd_c (tr.2.1 p hp).1
theorem dpx_s (hw : WT T) (h1 : 1 ≤ k) (hk : k ≤ tn T) : dpx T C k = dpx T C (tP T k).toNat + (if C (tP T k).toNat = (k : Int) then 0 else 1) := by
  unfold dpx
  rw [anc_s hw h1 hk]
  rfl
theorem dpx_0 : dpx T C 0 = 0 := rfl
theorem dpx_le (hw : WT T) : ∀ k, k ≤ tn T → dpx T C k ≤ k := by
  intro k
  induction k using Nat.strongRecOn with
  | ind k ih =>
    intro hk
    by_cases k0 : k = 0
    · subst k0; exact Nat.le_refl _
    · rw [dpx_s hw (by omega) hk]
      have hb := (hw.2.1 k (by omega) hk).1
      have := ih (tP T k).toNat (by omega) (by omega)
      split <;> omega
theorem D_dpx {D : Nat → Nat} (hw : WT T) (tr : TRr A g T) (hd : TTd (tn T) (aP A g) (aC A g) D) : ∀ k, k ≤ tn T → D k = dpx T (hdC T) k := by
  intro k
  induction k using Nat.strongRecOn with
  | ind k ih =>
    intro hk
    by_cases k0 : k = 0
    · subst k0; exact hd.1
    · have e := (tr.2.2 k hk).1.1
      have hb := (hw.2.1 k (by omega) hk).1
      rw [hd.2.1 k (by omega) hk, dpx_s hw (by omega) hk, e, ih (tP T k).toNat (by omega) (by omega), trr_hd tr (by omega)]
/-- does a node go on: the class -/
theorem p_goesOn (hC : CG S) (hg : g = 35 ∨ g = 99) (hw : WT T) (tr : TRc S g T) (h1 : x1.toInt = (k : Int)) (k1 : 1 ≤ k) (hk : k ≤ tn T) (hf : f_X1_goesOn g x1 S = some o) : o.2 = S ∧ ((o.1.toInt = 1 ∧ hdC T (tP T k).toNat = (k : Int)) ∨ (o.1.toInt = 0 ∧ hdC T (tP T k).toNat ≠ (k : Int))) := by
  have hf : f_X1_goesOn_0 g x1 S = some o := hf
  have hb := (hw.2.1 k k1 hk).1
  have tp : (zI S 0 (nk S (g + 3) (g + 5) k)).toInt = tP T k := (tr.2.2.2 k hk).1.1
  unfold f_X1_goesOn_0 at hf
  obtain ⟨-, hf⟩ := m_chkE hf
  obtain ⟨⟨n1, S1⟩, h_1, hf⟩ := m_calE hf
  obtain ⟨e1, q1⟩ := p_at hC hg tr (by omega) (by omega) h_1
  rw [show x1.toInt.toNat = k by omega] at q1
  dsimp only at hf
  rw [e1, q1] at hf
  obtain ⟨-, hf⟩ := m_chkE hf
  obtain ⟨-, hf⟩ := m_chkE hf
  obtain ⟨⟨n2, S2⟩, h_2, hf⟩ := m_calE hf
  obtain ⟨e2, q2⟩ := p_at hC hg tr (by omega) (by omega) h_2
  rw [tp] at q2
  dsimp only at hf
  rw [e2, q2] at hf
  obtain ⟨-, hf⟩ := m_chkE hf
  have hd : (zI S 2 (nk S (g + 3) (g + 5) (tP T k).toNat)).toInt = hdC T (tP T k).toNat := trc_hd tr (by omega)
  rcases m_ifE hf with ⟨d, hf⟩ | ⟨d, hf⟩
  · replace d := ti_eqP (a := zI S 2 (nk S (g + 3) (g + 5) (tP T k).toNat)) (b := x1) d rfl rfl
    unfold f_X1_goesOn_24 at hf
    obtain ⟨-, hf⟩ := m_chkE hf
    cases hf
    exact ⟨rfl, Or.inl ⟨rfl, by omega⟩⟩
  · replace d := ti_eqN (a := zI S 2 (nk S (g + 3) (g + 5) (tP T k).toNat)) (b := x1) d rfl rfl
    unfold f_X1_goesOn_24 at hf
    obtain ⟨-, hf⟩ := m_chkE hf
    cases hf
    exact ⟨rfl, Or.inr ⟨rfl, by omega⟩⟩
theorem dn_23 (hC : CG S) (hg : g = 35 ∨ g = 99) (hw : WT T) (tr : TRc S g T) : ∀ (n : Nat) (x2 x3 x4 : Int32) (k : Nat), x3.toInt = (k : Int) → k ≤ tn T → 0 ≤ x4.toInt → x4.toInt + (k : Int) ≤ 300 → 0 ≤ x2.toInt → x2.toInt + (k : Int) ≤ 1000 → f_X1_deepOfNext_23 n g x2 x3 x4 S = some o → o.2 = S ∧ o.1.toInt = x2.toInt + (dpx T (hdC T) k : Int) := by
  intro n
  induction n with
  | zero => intro x2 x3 x4 k _ _ _ _ _ _ hf; cases hf
  | succ n ih =>
    intro x2 x3 x4 k h3 hk h40 h41 h20 h21 hf
    have hf : f_X1_deepOfNext_23s (f_X1_deepOfNext_23 n) g x2 x3 x4 S = some o := hf
    have z0 : (0 : Int32).toInt = 0 := rfl
    have fin : k = 0 → f_X1_deepOfNext_66 x2 S = some o → o.2 = S ∧ o.1.toInt = x2.toInt + (dpx T (hdC T) k : Int) := fun k0 hh => by
      unfold f_X1_deepOfNext_66 at hh
      cases hh
      rw [k0, dpx_0]
      exact ⟨rfl, by show x2.toInt = x2.toInt + ((0 : Nat) : Int); omega⟩
    unfold f_X1_deepOfNext_23s at hf
    rcases m_ifE hf with ⟨d, hf⟩ | ⟨d, hf⟩
    · replace d := ti_leP (a := (300 : Int32)) (b := x4) d (show (300 : Int32).toInt = 300 from rfl) rfl
      exact fin (by omega) hf
    · replace d := ti_leN (a := (300 : Int32)) (b := x4) d (show (300 : Int32).toInt = 300 from rfl) rfl
      rcases m_ifE hf with ⟨d2, hf⟩ | ⟨d2, hf⟩
      · replace d2 := ti_leP (a := x3) (b := (0 : Int32)) d2 rfl z0
        exact fin (by omega) hf
      · replace d2 := ti_leN (a := x3) (b := (0 : Int32)) d2 rfl z0
        have k1 : 1 ≤ k := by omega
        have hb := (hw.2.1 k k1 hk).1
        obtain ⟨-, hf⟩ := m_chkE hf
        obtain ⟨⟨y1, S1⟩, h_1, hf⟩ := m_calE hf
        obtain ⟨e1, q1⟩ := p_goesOn hC hg hw tr h3 k1 hk h_1
        dsimp only at e1 q1 hf
        rw [e1] at hf
        have ds := dpx_s (C := hdC T) hw k1 hk
        have go : ∀ t0 : Int32, (t0.toInt = 0 ∨ t0.toInt = 1) → t0.toInt = (if hdC T (tP T k).toNat = (k : Int) then 0 else 1) → f_X1_deepOfNext_49 (f_X1_deepOfNext_23 n) g x3 x4 t0 x2 S = some o → o.2 = S ∧ o.1.toInt = x2.toInt + (dpx T (hdC T) k : Int) := fun t0 ht hte hh => by
          unfold f_X1_deepOfNext_49 at hh
          obtain ⟨v1, f1, hh⟩ := m_bndE hh
          have s1 : v1.toInt = x2.toInt + t0.toInt := ti_add f1 rfl rfl (by omega) (by omega)
          obtain ⟨-, hh⟩ := m_chkE hh
          obtain ⟨⟨n2, S2⟩, h_2, hh⟩ := m_calE hh
          obtain ⟨e2, q2⟩ := p_at hC hg tr (by omega) (by omega) h_2
          rw [show x3.toInt.toNat = k by omega] at q2
          dsimp only at hh
          rw [e2, q2] at hh
          obtain ⟨-, hh⟩ := m_chkE hh
          obtain ⟨v3, f3, hh⟩ := m_bndE hh
          have s3 : v3.toInt = x4.toInt + 1 := ti_add f3 rfl (show (1 : Int32).toInt = 1 from rfl) (by omega) (by omega)
          have tp : (zI S 0 (nk S (g + 3) (g + 5) k)).toInt = tP T k := (tr.2.2.2 k hk).1.1
          obtain ⟨a1, a2⟩ := ih v1 _ v3 (tP T k).toNat (by omega) (by omega) (by omega) (by omega) (by omega) (by omega) hh
          refine ⟨a1, ?_⟩
          rw [a2, s1, ds, hte]
          by_cases e : hdC T (tP T k).toNat = (k : Int)
          · rw [if_pos e, if_pos e]; omega
          · rw [if_neg e, if_neg e]; omega
        rcases m_ifE hf with ⟨d3, hf⟩ | ⟨d3, hf⟩
        · rw [d3] at q1
          rcases q1 with ⟨q, -⟩ | ⟨-, q⟩
          · exact absurd q (by decide)
          · exact go 1 (Or.inr rfl) (by rw [if_neg q]; rfl) hf
        · rcases q1 with ⟨-, q⟩ | ⟨q, -⟩
          · exact go 0 (Or.inl rfl) (by rw [if_pos q]; rfl) hf
          · exact absurd (i32_of q) d3
/-- how deep a new child would be: the class -/
theorem p_deepNext (hC : CG S) (hg : g = 35 ∨ g = 99) (hw : WT T) (tr : TRc S g T) (h1 : x1.toInt = (k : Int)) (hk : k ≤ tn T) (hf : f_X1_deepOfNext g x1 S = some o) : o.2 = S ∧ o.1.toInt = (dpx T (hdC T) k : Int) + (if tL T k = [] then 0 else 1) := by
  have hf : f_X1_deepOfNext_0 g x1 S = some o := hf
  have h3 := hw.1
  unfold f_X1_deepOfNext_0 at hf
  obtain ⟨-, hf⟩ := m_chkE hf
  obtain ⟨⟨n1, S1⟩, h_1, hf⟩ := m_calE hf
  obtain ⟨e1, q1⟩ := p_at hC hg tr (by omega) (by omega) h_1
  rw [show x1.toInt.toNat = k by omega] at q1
  dsimp only at hf
  rw [e1, q1] at hf
  obtain ⟨-, hf⟩ := m_chkE hf
  have hd : (zI S 2 (nk S (g + 3) (g + 5) k)).toInt = hdC T k := trc_hd tr hk
  have zm : (-1 : Int32).toInt = -1 := rfl
  have go : ∀ t0 : Int32, (0 ≤ t0.toInt ∧ t0.toInt ≤ 1) → f_X1_deepOfNext_17 g x1 t0 S = some o → o.2 = S ∧ o.1.toInt = t0.toInt + (dpx T (hdC T) k : Int) := fun t0 ht hh => by
    unfold f_X1_deepOfNext_17 at hh
    exact dn_23 hC hg hw tr mFuel t0 x1 0 k h1 hk (by decide) (by have z : (0 : Int32).toInt = 0 := rfl; omega) ht.1 (by omega) hh
  rcases m_ifE hf with ⟨d, hf⟩ | ⟨d, hf⟩
  · replace d := ti_eqP (a := zI S 2 (nk S (g + 3) (g + 5) k)) (b := (-1 : Int32)) d rfl zm
    obtain ⟨a1, a2⟩ := go 0 (by decide) hf
    rw [if_pos (hdC_n.1 (by omega))]
    exact ⟨a1, by rw [a2]; show (0 : Int) + _ = _ + 0; omega⟩
  · replace d := ti_eqN (a := zI S 2 (nk S (g + 3) (g + 5) k)) (b := (-1 : Int32)) d rfl zm
    obtain ⟨a1, a2⟩ := go 1 (by decide) hf
    rw [if_neg (fun e => d (by rw [hd]; exact hdC_n.2 e))]
    exact ⟨a1, by rw [a2]; show (1 : Int) + _ = _ + 1; omega⟩
/-- may a node lead: the class -/
theorem ml_11 (hg : g = 35 ∨ g = 99) (hw : WT T) (h1 : x1.toInt = (H : Int)) (hH1 : 1 ≤ H) (hH : H ≤ tn T) (hC2 : ∀ p, C p = if p = (tP T H).toNat then (H : Int) else hdC T p) : ∀ (n : Nat) (x3 : Int32) (S : ZS) (i : Nat), x3.toInt = (i : Int) → 1 ≤ i → i ≤ tn T + 1 → CG S → TRc S g T → (∀ j, j < i → (zA S (g + 7) j).toInt = (dpx T C j : Int) ∧ dpx T C j ≤ 6) → f_X1_mayLead_11 n g x1 (g + 7) x3 S = some o → (CG o.2 ∧ TRc o.2 g T ∧ FR (fun a => a = g + 7) S o.2) ∧ ((o.1.toInt = 1 ∧ ∀ k, k ≤ tn T → dpx T C k ≤ 6) ∨ (o.1.toInt = 0 ∧ ∃ k, k ≤ tn T ∧ 6 < dpx T C k)) := by
  intro n
  induction n with
  | zero => intro x3 S i _ _ _ _ _ _ hf; cases hf
  | succ n ih =>
    intro x3 S i h3 i1 i2 hC tr hp hf
    have hf : f_X1_mayLead_11s (f_X1_mayLead_11 n) g x1 (g + 7) x3 S = some o := hf
    have h300 := hw.1
    obtain ⟨⟨kg, -⟩, ⟨-, -, -, -, -, -, k7⟩, -⟩ := fx_g hC.2.2.1 hg
    have hn := (cn_le hC.1 kg).2
    rw [tr.1] at hn
    have z0 : (0 : Int32).toInt = 0 := rfl
    unfold f_X1_mayLead_11s at hf
    obtain ⟨-, hf⟩ := m_chkE hf
    rcases m_ifE hf with ⟨d, hf⟩ | ⟨d, hf⟩
    · replace d := ti_ltP (a := zI S 3 g) (b := x3) d rfl rfl
      obtain ⟨-, hf⟩ := m_chkE hf
      cases hf
      exact ⟨⟨hC, tr, fr_0⟩, Or.inl ⟨rfl, fun k hk => (hp k (by omega)).2⟩⟩
    · replace d := ti_ltN (a := zI S 3 g) (b := x3) d rfl rfl
      have hi : i ≤ tn T := by omega
      have hb := (hw.2.1 i i1 hi).1
      have hbH := (hw.2.1 H hH1 hH).1
      have tp : (zI S 0 (nk S (g + 3) (g + 5) i)).toInt = tP T i := (tr.2.2.2 i hi).1.1
      have tpH : (zI S 0 (nk S (g + 3) (g + 5) H)).toInt = tP T H := (tr.2.2.2 H hH).1.1
      have ds := dpx_s (C := C) hw i1 hi
      obtain ⟨-, hf⟩ := m_chkE hf
      obtain ⟨⟨n1, S1⟩, h_1, hf⟩ := m_calE hf
      obtain ⟨e1, q1⟩ := p_at hC hg tr (by omega) (by omega) h_1
      rw [show x3.toInt.toNat = i by omega] at q1
      dsimp only at hf
      rw [e1, q1] at hf
      obtain ⟨-, hf⟩ := m_chkE hf
      obtain ⟨-, hf⟩ := m_chkE hf
      obtain ⟨⟨n2, S2⟩, h_2, hf⟩ := m_calE hf
      obtain ⟨e2, q2⟩ := p_at hC hg tr (by omega) (by omega) h_2
      rw [show x1.toInt.toNat = H by omega] at q2
      dsimp only at hf
      rw [e2, q2] at hf
      obtain ⟨-, hf⟩ := m_chkE hf
      -- the step, once the first child is known
      have go : ∀ t0 : Int32, t0.toInt = C (tP T i).toNat → f_X1_mayLead_55 (f_X1_mayLead_11 n) g x1 (g + 7) x3 (zI S 0 (nk S (g + 3) (g + 5) i)) t0 S = some o → (CG o.2 ∧ TRc o.2 g T ∧ FR (fun a => a = g + 7) S o.2) ∧ ((o.1.toInt = 1 ∧ ∀ k, k ≤ tn T → dpx T C k ≤ 6) ∨ (o.1.toInt = 0 ∧ ∃ k, k ≤ tn T ∧ 6 < dpx T C k)) := fun t0 ht hh => by
        unfold f_X1_mayLead_55 at hh
        rcases m_ifE hh with ⟨d2, hh⟩ | ⟨d2, hh⟩
        · replace d2 := ti_ltP (a := zI S 0 (nk S (g + 3) (g + 5) i)) (b := (0 : Int32)) d2 rfl z0
          omega
        · rcases m_ifE hh with ⟨d3, hh⟩ | ⟨d3, hh⟩
          · replace d3 := ti_leP (a := x3) (b := zI S 0 (nk S (g + 3) (g + 5) i)) d3 rfl rfl
            omega
          · obtain ⟨-, hh⟩ := m_chkE hh
            obtain ⟨-, hh⟩ := m_chkE hh
            obtain ⟨v1, f1, hh⟩ := m_bndE hh
            rw [cl_n (n := (tP T i).toNat) (by omega)] at f1
            obtain ⟨s1, s6⟩ := hp (tP T i).toNat (by omega)
            rw [← f1] at s1
            have fin : ∀ t : Int32, (t.toInt = 0 ∨ t.toInt = 1) → t.toInt = (if C (tP T i).toNat = (i : Int) then 0 else 1) → f_X1_mayLead_89 (f_X1_mayLead_11 n) g x1 (g + 7) x3 t v1 x3 (g + 7) S = some o → (CG o.2 ∧ TRc o.2 g T ∧ FR (fun a => a = g + 7) S o.2) ∧ ((o.1.toInt = 1 ∧ ∀ k, k ≤ tn T → dpx T C k ≤ 6) ∨ (o.1.toInt = 0 ∧ ∃ k, k ≤ tn T ∧ 6 < dpx T C k)) := fun t htb hte hh => by
              unfold f_X1_mayLead_89 at hh
              obtain ⟨w1, g1, hh⟩ := m_bndE hh
              have u1 : w1.toInt = v1.toInt + t.toInt := ti_add g1 rfl rfl (by omega) (by omega)
              have ud : w1.toInt = (dpx T C i : Int) := by
                rw [u1, ds, s1, hte]
                by_cases e : C (tP T i).toNat = (i : Int)
                · rw [if_pos e, if_pos e]; omega
                · rw [if_neg e, if_neg e]; omega
              obtain ⟨-, hh⟩ := m_chkE hh
              obtain ⟨-, hh⟩ := m_chkE hh
              obtain ⟨S3, e3, hh⟩ := m_bndE hh
              rw [cl_n (n := i) h3] at e3
              have F3 : FR (fun a => a = g + 7) S S3 := fr_A hC.1 k7 e3
              have T3 : ZT S3 := by rw [e3]; exact zt_A hC.1 k7
              have Z3 : TZ S3 := tz_k hC.1 hC.2.1 F3 (fun a _ e => by
                rw [e, k7]
                exact ⟨by decide, by decide, fun h => absurd h (by decide)⟩)
              have C3 : CG S3 := cg_w hC T3 Z3 F3 (by omega) (by omega) (by omega) (by omega)
              have tr3 : TRc S3 g T := trc_e hC hg tr (fun a ha => fr_e F3 (tc_lt hC hg ha) (fun e => by
                rw [e] at ha
                exact tc_no hC hg (by omega) (by omega) (by omega) (by omega) (by omega) ha))
              have a3 : zA S3 (g + 7) = upd (zA S (g + 7)) i w1 := by
                rw [e3]
                exact va_up_self _ _ _
              obtain ⟨-, hh⟩ := m_chkE hh
              obtain ⟨-, hh⟩ := m_chkE hh
              obtain ⟨w3, g3, hh⟩ := m_bndE hh
              rw [cl_n (n := i) h3, a3, upd_self] at g3
              rcases m_ifE hh with ⟨d4, hh⟩ | ⟨d4, hh⟩
              · replace d4 := ti_leP (a := w3) (b := (6 : Int32)) d4 rfl (show (6 : Int32).toInt = 6 from rfl)
                rw [g3] at d4
                obtain ⟨w4, g4, hh⟩ := m_bndE hh
                have u4 : w4.toInt = x3.toInt + 1 := ti_add g4 rfl (show (1 : Int32).toInt = 1 from rfl) (by omega) (by omega)
                obtain ⟨⟨b1, b2, b3⟩, b4⟩ := ih w4 S3 (i + 1) (by omega) (by omega) (by omega) C3 tr3 (fun j hj => by
                  rw [a3]
                  by_cases e : j = i
                  · rw [e, upd_self]
                    exact ⟨ud, by omega⟩
                  · rw [upd_ne e]
                    exact hp j (by omega)) hh
                exact ⟨⟨b1, b2, fr_t F3 b3⟩, b4⟩
              · replace d4 := ti_leN (a := w3) (b := (6 : Int32)) d4 rfl (show (6 : Int32).toInt = 6 from rfl)
                rw [g3] at d4
                obtain ⟨-, hh⟩ := m_chkE hh
                cases hh
                exact ⟨⟨C3, tr3, F3⟩, Or.inr ⟨rfl, i, hi, by omega⟩⟩
            unfold f_X1_mayLead_78 at hh
            rcases m_ifE hh with ⟨d4, hh⟩ | ⟨d4, hh⟩
            · replace d4 := ti_eqP (a := x3) (b := t0) d4 rfl rfl
              exact fin 0 (Or.inl rfl) (by rw [if_pos (by omega)]; rfl) hh
            · replace d4 := ti_eqN (a := x3) (b := t0) d4 rfl rfl
              exact fin 1 (Or.inr rfl) (by rw [if_neg (by omega)]; rfl) hh
      rcases m_ifE hf with ⟨d2, hf⟩ | ⟨d2, hf⟩
      · replace d2 := ti_eqP (a := zI S 0 (nk S (g + 3) (g + 5) i)) (b := zI S 0 (nk S (g + 3) (g + 5) H)) d2 rfl rfl
        exact go x1 (by rw [hC2, if_pos (by omega)]; exact h1) hf
      · replace d2 := ti_eqN (a := zI S 0 (nk S (g + 3) (g + 5) i)) (b := zI S 0 (nk S (g + 3) (g + 5) H)) d2 rfl rfl
        obtain ⟨-, hf⟩ := m_chkE hf
        obtain ⟨⟨n3, S3⟩, h_3, hf⟩ := m_calE hf
        obtain ⟨e3, q3⟩ := p_at hC hg tr (by omega) (by omega) h_3
        rw [tp] at q3
        dsimp only at hf
        rw [e3, q3] at hf
        obtain ⟨-, hf⟩ := m_chkE hf
        have hd : (zI S 2 (nk S (g + 3) (g + 5) (tP T i).toNat)).toInt = hdC T (tP T i).toNat := trc_hd tr (by omega)
        exact go _ (by rw [hC2, if_neg (by omega)]; exact hd) hf
theorem p_mayLead (hC : CG S) (hg : g = 35 ∨ g = 99) (hw : WT T) (tr : TRc S g T) (h1 : x1.toInt = (H : Int)) (hH1 : 1 ≤ H) (hH : H ≤ tn T) (hC2 : ∀ p, C p = if p = (tP T H).toNat then (H : Int) else hdC T p) (hf : f_X1_mayLead g x1 S = some o) : (CG o.2 ∧ TRc o.2 g T ∧ FR (fun a => a = g + 7) S o.2) ∧ ((o.1.toInt = 1 ∧ ∀ k, k ≤ tn T → dpx T C k ≤ 6) ∨ (o.1.toInt = 0 ∧ ∃ k, k ≤ tn T ∧ 6 < dpx T C k)) := by
  have hf : f_X1_mayLead_0 g x1 S = some o := hf
  obtain ⟨⟨kg, -, -, -, -, p7⟩, ⟨-, -, -, -, -, -, k7⟩, -⟩ := fx_g hC.2.2.1 hg
  unfold f_X1_mayLead_0 at hf
  obtain ⟨-, hf⟩ := m_chkE hf
  replace hf := m_calY hf p7
  obtain ⟨-, hf⟩ := m_chkE hf
  obtain ⟨-, hf⟩ := m_chkE hf
  obtain ⟨S3, e3, hf⟩ := m_bndE hf
  rw [cl_n (n := 0) (show (0 : Int32).toInt = ((0 : Nat) : Int) from rfl)] at e3
  have F3 : FR (fun a => a = g + 7) S S3 := fr_A hC.1 k7 e3
  have T3 : ZT S3 := by rw [e3]; exact zt_A hC.1 k7
  have Z3 : TZ S3 := tz_k hC.1 hC.2.1 F3 (fun a _ e => by
    rw [e, k7]
    exact ⟨by decide, by decide, fun h => absurd h (by decide)⟩)
  have C3 : CG S3 := cg_w hC T3 Z3 F3 (by omega) (by omega) (by omega) (by omega)
  have tr3 : TRc S3 g T := trc_e hC hg tr (fun a ha => fr_e F3 (tc_lt hC hg ha) (fun e => by
    rw [e] at ha
    exact tc_no hC hg (by omega) (by omega) (by omega) (by omega) (by omega) ha))
  have a3 : zA S3 (g + 7) = upd (zA S (g + 7)) 0 0 := by
    rw [e3]
    exact va_up_self _ _ _
  obtain ⟨⟨b1, b2, b3⟩, b4⟩ := ml_11 hg hw h1 hH1 hH hC2 mFuel 1 S3 1 rfl (Nat.le_refl _) (by omega) C3 tr3 (fun j hj => by
    have e : j = 0 := by omega
    rw [a3, e, upd_self, dpx_0]
    exact ⟨rfl, by decide⟩) hf
  exact ⟨⟨b1, b2, fr_t F3 b3⟩, b4⟩
/-- the depths once H goes on -/
theorem dp_lead (hw : WT T) (tr : TRr A g T) (hC2 : ∀ p, C p = if p = u then (H : Int) else hdC T p) (hF : hdC T u = (F : Int)) (hne : F ≠ H) (F1 : 1 ≤ F) (pF : ∀ k, k ≤ tn T → k = F → (tP T k).toNat = u ∧ u < F) (pH : u < H) : ∀ k, k ≤ tn T → (bh (aP A g) F k → dpx T C k = dpx T (hdC T) k + 1) ∧ (¬ bh (aP A g) F k → dpx T C k ≤ dpx T (hdC T) k) ∧ (k < F → k < H → dpx T C k = dpx T (hdC T) k) := by
  have hb : TTb (tn T) (aP A g) (aM A g) := fun k k1 k2 => by
    have e := (tr.2.2 k k2).1
    rw [e.1, e.2]
    exact ⟨(hw.2.1 k k1 k2).1, (hw.2.1 k k1 k2).2.1⟩
  intro k
  induction k using Nat.strongRecOn with
  | ind k ih =>
    intro hk
    by_cases k0 : k = 0
    · subst k0
      refine ⟨fun h => ?_, fun _ => Nat.le_refl _, fun _ _ => rfl⟩
      have := bh_le hb 0 hk h
      omega
    · have k1 : 1 ≤ k := by omega
      have hbk := (hw.2.1 k k1 hk).1
      have e := (tr.2.2 k hk).1.1
      have st := bh_step hb (a := F) k1 hk
      rw [e] at st
      obtain ⟨i1, i2, i3⟩ := ih (tP T k).toNat (by omega) (by omega)
      have d1 := dpx_s (C := C) hw k1 hk
      have d2 := dpx_s (C := hdC T) hw k1 hk
      rw [hC2] at d1
      by_cases pu : (tP T k).toNat = u
      · rw [if_pos pu] at d1
        rw [pu] at st i1 i2 i3 d1 d2
        rw [hF] at d2
        by_cases kF : k = F
        · have uF := (pF k hk kF).2
          have nb : ¬ bh (aP A g) F u := fun h => by
            have := bh_le hb u (by omega) h
            omega
          have q := i3 uF pH
          rw [if_neg (show ¬ (H : Int) = (k : Int) by omega)] at d1
          rw [if_pos (show (F : Int) = (k : Int) by omega)] at d2
          refine ⟨fun _ => by omega, fun h => absurd (st.2 (Or.inl kF)) h, fun h => by omega⟩
        · have uk : u < k := by omega
          by_cases bu : bh (aP A g) F u
          · -- F is among u's own ancestors: then u < F is false
            have := bh_le hb u (by omega) bu
            have q := i1 bu
            rw [if_neg (show ¬ (F : Int) = (k : Int) by omega)] at d2
            have hFn : F ≤ tn T := by omega
            have := (pF F hFn rfl).2
            omega
          · have q := i2 bu
            rw [if_neg (show ¬ (F : Int) = (k : Int) by omega)] at d2
            refine ⟨fun h => ?_, fun _ => ?_, fun a b => ?_⟩
            · rcases st.1 h with h | h
              · exact absurd h kF
              · exact absurd h bu
            · split at d1 <;> omega
            · rw [if_neg (show ¬ (H : Int) = (k : Int) by omega)] at d1
              have := i3 (by omega) (by omega)
              omega
      · rw [if_neg pu] at d1
        have kF : k ≠ F := fun h => pu (pF k hk h).1
        refine ⟨fun h => ?_, fun h => ?_, fun a b => ?_⟩
        · have := i1 ((st.1 h).resolve_left kF)
          omega
        · have := i2 (fun h2 => h (st.2 (Or.inr h2)))
          omega
        · have := i3 (by omega) (by omega)
          omega
theorem er_mid {l r : List Nat} {b H : Nat} (hn : (l ++ b :: H :: r).Nodup) : (l ++ b :: H :: r).erase H = l ++ b :: r := by
  have hnd2 := List.nodup_append.mp hn
  have hHl : H ∉ l := fun h => hnd2.2.2 H h H (by simp) rfl
  have hbH : b ≠ H := fun e => (List.nodup_cons.mp hnd2.2.1).1 (by rw [e]; exact List.mem_cons_self)
  rw [List.erase_append_right _ hHl]
  simp [List.erase_cons, hbH]
/-- a node goes on: the class -/
theorem p_putFirst {y : Int32} (hC : CG S) (hGG : GG g g') (hw : WT T) (tr : TRc S g T) (hH : x1.toInt = (H : Int)) (h1 : 1 ≤ H) (h2 : H ≤ tn T) (hne : hdC T (tP T H).toNat ≠ (H : Int)) (hf : f_X1_putFirst g x1 S = some (y, S')) : TRc S' g (ldT T (tP T H).toNat H) ∧ FR (fun a => zK S a = 4) S S' := by
  have hg := gg_g hGG
  have hT := hC.1
  obtain ⟨⟨a1, -, b1, c1, -, -⟩, -, -⟩ := fx_g hC.2.2.1 hg
  have h300 := hw.1
  obtain ⟨hcn, hn, hl, hr⟩ := id tr
  have hP := (hw.2.1 H h1 h2).1
  generalize hu0 : (tP T H).toNat = u at *
  have hu : u ≤ tn T := by omega
  have hPu : nF S 0 (g + 3) (g + 5) H = (u : Int) := by rw [(hr H h2).1.1]; omega
  have hin : H ∈ tL T u := ((hl u hu).2.2 H).2 ⟨h1, h2, hPu⟩
  have ka : ∀ j, zK S (nk S (g + 3) (g + 5) j) = 4 := fun j => (nk_nd hC hg j).1
  have inj : ∀ i j, i ≤ tn T → j ≤ tn T → nk S (g + 3) (g + 5) i = nk S (g + 3) (g + 5) j → i = j := fun i j hi hj he => nk_ij hC hGG tr hi hj he
  have hf : f_X1_putFirst_0 g x1 S = some (y, S') := hf
  unfold f_X1_putFirst_0 at hf
  obtain ⟨-, hf⟩ := m_chkE hf
  obtain ⟨⟨q, Sx⟩, h4, hf⟩ := m_calE hf
  obtain ⟨s4, k4, a4⟩ := ok_of (t_f_X1_at hT a1) h4
  dsimp only at s4 k4 a4 hf
  rw [s4] at hf k4
  have eq : q = nk S (g + 3) (g + 5) H := by rw [a4, nd_nk hT a1 b1 c1 (by omega) (by omega), hH]; rfl
  obtain ⟨-, hf⟩ := m_chkE hf
  obtain ⟨-, hf⟩ := m_chkE hf
  obtain ⟨⟨d, Sy⟩, h5, hf⟩ := m_calE hf
  obtain ⟨s5, k5, a5⟩ := ok_of (t_f_X1_at hT a1) h5
  dsimp only at s5 k5 a5 hf
  rw [s5] at hf k5
  have hPq : (zI S 0 q).toInt = (u : Int) := by rw [eq]; exact hPu
  have ed : d = nk S (g + 3) (g + 5) u := by rw [a5, nd_nk hT a1 b1 c1 (by omega) (by omega), hPq]; rfl
  obtain ⟨-, hf⟩ := m_chkE hf
  have hCd : nF S 2 (g + 3) (g + 5) u = (zI S 2 d).toInt := by unfold nF; rw [← ed]
  obtain ⟨l1, r1, bb, x3, hL, hx3, hf⟩ := pf_21 hT a1 b1 c1 hH (tL T u) mFuel (zI S 2 d) 0 (by rw [← hCd]; exact (hl u hu).1) (fun j hj => ⟨(((hl u hu).2.2 j).1 hj).1, by rw [hcn]; exact (((hl u hu).2.2 j).1 hj).2.1⟩) hin (by rw [← hCd, hd_c (hl u hu).1]; exact hne) (by decide) (by have := chn_len hl hu; have z : (0 : Int32).toInt = 0 := rfl; omega) hf
  have hbb := ((hl u hu).2.2 bb).1 (by rw [hL]; simp)
  have hnd := (hl u hu).2.1
  have hbH : bb ≠ H := fun e => by
    rw [hL, e] at hnd
    have := (List.nodup_cons.mp (List.nodup_append.mp hnd).2.1).1
    exact this List.mem_cons_self
  unfold f_X1_putFirst_56 at hf
  obtain ⟨-, hf⟩ := m_chkE hf
  obtain ⟨⟨p, Sz⟩, h6, hf⟩ := m_calE hf
  obtain ⟨s6, k6, a6⟩ := ok_of (t_f_X1_at hT a1) h6
  dsimp only at s6 k6 a6 hf
  rw [s6] at hf k6
  have ep : p = nk S (g + 3) (g + 5) bb := by rw [a6, nd_nk hT a1 b1 c1 (by omega) (by omega), hx3]; rfl
  obtain ⟨-, hf⟩ := m_chkE hf
  obtain ⟨o2, h7, hf⟩ := m_calE hf
  rw [h4, s4] at h7
  cases h7
  obtain ⟨-, hf⟩ := m_chkE hf
  obtain ⟨-, hf⟩ := m_chkE hf
  obtain ⟨S3, e3, hf⟩ := m_bndE hf
  replace e3 : S3 = zsI S 3 p (zI S 3 q) := e3
  have T3 : ZT S3 := e3.symm ▸ zt_W hT k6 (by decide) rfl
  have kg3 : zK S3 g = 1 := by rw [e3]; exact a1
  have gp : g ≠ p := fun e => by rw [e] at a1; omega
  have nx3 : nd S3 g x1 = nd S g x1 := nd_x (by rw [e3]; exact zI_ne gp) (by rw [e3]; rfl) (by rw [e3]; rfl) c1 (by rw [e3]; rfl) x1
  obtain ⟨-, hf⟩ := m_chkE hf
  obtain ⟨⟨q', Sw⟩, h8, hf⟩ := m_calE hf
  obtain ⟨s8, k8, a8⟩ := ok_of (t_f_X1_at T3 kg3) h8
  dsimp only at s8 k8 a8 hf
  rw [s8] at hf
  rw [nx3, ← a4] at a8
  rw [a8] at hf
  obtain ⟨-, hf⟩ := m_chkE hf
  obtain ⟨-, hf⟩ := m_chkE hf
  obtain ⟨S5, e5, hf⟩ := m_bndE hf
  obtain ⟨-, hf⟩ := m_chkE hf
  obtain ⟨S6, e6, hf⟩ := m_bndE hf
  cases hf
  have pq : p ≠ q := fun e => hbH (inj bb H hbb.2.1 h2 (by rw [← ep, ← eq, e]))
  have m0 : ∀ j a, j ≠ 2 → j ≠ 3 → zI S' j a = zI S j a := fun j a j2 j3 => by rw [e6, zI_j j2, e5, zI_j j3, e3, zI_j j3]
  have m2 : ∀ a, a ≠ d → zI S' 2 a = zI S 2 a := fun a h => by rw [e6, zI_ne h, e5, zI_j (by decide), e3, zI_j (by decide)]
  have m2d : zI S' 2 d = x1 := by rw [e6]; exact zI_self _ _ _ _
  have m3 : ∀ a, a ≠ p → a ≠ q → zI S' 3 a = zI S 3 a := fun a h h9 => by rw [e6, zI_j (by decide), e5, zI_ne h9, e3, zI_ne h]
  have m3p : zI S' 3 p = zI S 3 q := by rw [e6, zI_j (by decide), e5, zI_ne pq, e3]; exact zI_self _ _ _ _
  have m3q : zI S' 3 q = zI S 2 d := by
    rw [e6, zI_j (by decide), e5, zI_self, e3, zI_j (by decide)]
  have bS : zB S' = zB S := by rw [e6]; show zB S5 = _; rw [e5]; show zB S3 = _; rw [e3]; rfl
  have FF : FR (fun a => a = p ∨ a = q ∨ a = d) S S' := fr_t (fr_m (fr_I e3) (fun a _ e => Or.inl e)) (fr_t (fr_m (fr_I e5) (fun a _ e => Or.inr (Or.inl e))) (fr_m (fr_I e6) (fun a _ e => Or.inr (Or.inr e))))
  have F4 : FR (fun a => zK S a = 4) S S' := fr_m FF (fun a _ e => by
    rcases e with e | e | e
    · rw [e]; exact k6
    · rw [e]; exact k4
    · rw [e]; exact k5)
  have nkE : ∀ j, nk S' (g + 3) (g + 5) j = nk S (g + 3) (g + 5) j := fun j => by unfold nk; rw [bS]
  have cnE : cn S' g = cn S g := by unfold cn; rw [m3 g gp (fun e => by rw [e] at a1; omega)]
  have P0 : nF S' 0 (g + 3) (g + 5) = nF S 0 (g + 3) (g + 5) := funext (fun j => by unfold nF; rw [nkE, m0 0 _ (by decide) (by decide)])
  have P1 : nF S' 1 (g + 3) (g + 5) = nF S 1 (g + 3) (g + 5) := funext (fun j => by unfold nF; rw [nkE, m0 1 _ (by decide) (by decide)])
  obtain ⟨F, hF⟩ : ∃ F : Nat, nF S 2 (g + 3) (g + 5) u = (F : Int) := by
    have hch := (hl u hu).1
    rw [hL] at hch
    cases l1 with
    | nil => exact ⟨bb, hch.1⟩
    | cons z l => exact ⟨z, hch.1⟩
  have TL := TTl_lead (C' := nF S' 2 (g + 3) (g + 5)) (N' := nF S' 3 (g + 3) (g + 5)) hl hu hL hF (fun j hj hju => by
        unfold nF
        rw [nkE, m2 _ (fun e => hju (inj j u hj hu (by rw [e, ed])))]) (by
        unfold nF
        rw [nkE, ← ed, m2d]; exact hH) (by
        unfold nF
        rw [nkE, ← ep, ← eq, m3p]) (by
        unfold nF
        rw [nkE, ← eq, m3q, ← hCd]; exact hF) (fun j hj hjb hjH => by
        unfold nF
        rw [nkE, m3 _ (fun e => hjb (inj j bb hj hbb.2.1 (by rw [e, ep]))) (fun e => hjH (inj j H hj h2 (by rw [e, eq])))])
  have eL : H :: (tL T u).erase H = H :: (l1 ++ bb :: r1) := by
    rw [hL] at hnd ⊢
    rw [er_mid hnd]
  refine ⟨⟨cnE.trans hcn, fun k k1 k2 => by rw [bS]; exact hn k k1 k2, ?_, fun k hk => ?_⟩, F4⟩
  · rw [P0]
    show TTl (tn T) _ _ _ (fun p => if p = u then H :: (tL T u).erase H else tL T p)
    rw [eL]
    exact TL
  · obtain ⟨z1, z2, z3⟩ := hr k hk
    have kr := (nk_nd hC hg k).2.2.1
    rw [P0, P1, nkE k]
    refine ⟨z1, ⟨?_, ?_⟩, eqc_rl (fr_e F4 (by rw [kr]; decide) (by rw [kr]; decide)) kr z3⟩
    · rw [m0 4 _ (by decide) (by decide)]; exact z2.1
    · rw [m0 5 _ (by decide) (by decide)]; exact z2.2
end LEA
end
section
section LED
variable {S S' : ZS} {g g' c k p u H F : Nat} {I I' : Nat → Int32} {A A' : Nat → Nat → Int32} {L : List (List Int × List Int)} {st P : PO} {T T' : TRa} {r v : Int} {x1 x2 x3 : Int32} {o : Int32 × ZS} {o2 : Int32 × MS} {N C : Nat → Int} {D : Nat → Nat}
theorem trr_b (hw : WT T) (tr : TRr A g T) : TTb (tn T) (aP A g) (aM A g) := fun k k1 k2 => by
  have e := (tr.2.2 k k2).1
  rw [e.1, e.2]
  exact ⟨(hw.2.1 k k1 k2).1, (hw.2.1 k k1 k2).2.1⟩
theorem aK_i (hA : TK A) (tr : TRr A g T) : (A 7 g).toInt = (tn T : Int) := by
  have h1 : (A 7 g).toInt.toNat = tn T := tr.1
  have h2 : 0 ≤ (A 7 g).toInt ∧ (A 7 g).toInt ≤ 300 := hA 7 g
  omega
/-- the reference looks for a node that would be too deep -/
theorem vl_72 (hI : TJ I) (hA : TK A) (hg : g ≤ 1) (h5 : (I 5).toInt = (g : Int)) (hw : WT T) (tr : TRr A g T) (hd : TTd (tn T) (aP A g) (aC A g) D) (hF : x2.toInt = (F : Int)) (hF3 : F ≤ 300) : ∀ (n : Nat) (x3 : Int32), (1 ≤ x3.toInt ∧ x3.toInt ≤ (tn T : Int) + 1) → (∀ k : Nat, 1 ≤ k → (k : Int) < x3.toInt → bh (aP A g) F k → D k ≠ 6) → f_lead_72 n x1 x2 x3 I A = some o2 → ((∃ k, 1 ≤ k ∧ k ≤ tn T ∧ bh (aP A g) F k ∧ D k = 6) ∧ o2 = (0, (upd I 0 1, A))) ∨ ((∀ k, 1 ≤ k → k ≤ tn T → bh (aP A g) F k → D k ≠ 6) ∧ f_lead_123 mFuel x1 x2 x2 I A = some o2) := by
  intro n
  induction n with
  | zero => intro x3 _ _ hf; cases hf
  | succ n ih =>
    intro x3 hx hc hf
    have hf : f_lead_72s (f_lead_72 n) x1 x2 x3 I A = some o2 := hf
    have h300 := hw.1
    have q0 : TRn A g (tn T) := trr_b hw tr
    have n5 : (I 5).toNatClampNeg = g := cl_n h5
    have nxt : x3.toInt ≤ (tn T : Int) → f_lead_115 (f_lead_72 n) x1 x2 x3 I A = some o2 → (bh (aP A g) F x3.toInt.toNat → D x3.toInt.toNat ≠ 6) → ((∃ k, 1 ≤ k ∧ k ≤ tn T ∧ bh (aP A g) F k ∧ D k = 6) ∧ o2 = (0, (upd I 0 1, A))) ∨ ((∀ k, 1 ≤ k → k ≤ tn T → bh (aP A g) F k → D k ≠ 6) ∧ f_lead_123 mFuel x1 x2 x2 I A = some o2) := fun hx2 hh hq => by
      unfold f_lead_115 at hh
      obtain ⟨v1, e1, hh⟩ := m_bndE hh
      have t1 : v1.toInt = x3.toInt + 1 := ti_add e1 rfl (show (1 : Int32).toInt = 1 from rfl) (by omega) (by omega)
      refine ih v1 (by omega) (fun k k1 k2 hb => ?_) hh
      by_cases e : (k : Int) < x3.toInt
      · exact hc k k1 e hb
      · have ek : k = x3.toInt.toNat := by omega
        rw [ek] at hb ⊢
        exact hq hb
    unfold f_lead_72s at hf
    obtain ⟨-, hf⟩ := m_chkE hf
    obtain ⟨v1, e1, hf⟩ := m_bndE hf
    rw [n5] at e1
    have t1 : v1.toInt = (tn T : Int) := by rw [e1]; exact aK_i hA tr
    rcases m_ifE hf with ⟨d, hf⟩ | ⟨d, hf⟩
    · replace d := ti_ltP (a := v1) (b := x3) d rfl rfl
      exact Or.inr ⟨fun k k1 k2 hb => hc k k1 (by omega) hb, hf⟩
    · replace d := ti_ltN (a := v1) (b := x3) d rfl rfl
      obtain ⟨⟨r2, Ic2, Ac2⟩, h_r2, hf⟩ := m_clE hf
      obtain ⟨a1, -, a3, a4⟩ := ok_of (t_isBehind (gg := g) (nn := tn T) (ww := bh (aP A g) x2.toInt.toNat x3.toInt.toNat) hI hA (by omega) (by omega) q0 h5 (by omega) Iff.rfl) h_r2
      have i1 : Ic2 = I := congrArg Prod.fst a1
      have i2 : Ac2 = A := congrArg Prod.snd a1
      dsimp only at a3 a4 hf
      rw [show x2.toInt.toNat = F by omega] at a3 a4
      rw [i1, i2] at hf
      rcases m_ifE hf with ⟨d2, hf⟩ | ⟨d2, hf⟩
      · exact nxt (by omega) hf (fun hb => absurd hb (a4 (by rw [d2]; rfl)))
      · have hb : bh (aP A g) F x3.toInt.toNat := by
          apply Classical.byContradiction
          intro hn
          have z0 : (0 : Int32).toInt = 0 := rfl
          have := ti_eqN (a := r2) (b := (0 : Int32)) d2 rfl z0
          have b := ok_of (t_isBehind (gg := g) (nn := tn T) (ww := bh (aP A g) x2.toInt.toNat x3.toInt.toNat) hI hA (by omega) (by omega) q0 h5 (by omega) Iff.rfl) h_r2
          have b2 : 0 ≤ r2.toInt ∧ r2.toInt ≤ 1 := b.2.1
          exact hn (a3 (by omega))
        obtain ⟨⟨r3, Ic3, Ac3⟩, h_r3, hf⟩ := m_clE hf
        obtain ⟨b1, -, b3⟩ := ok_of (t_deepOf (gg := g) (nn := tn T) (dd := D) (tt := (D x3.toInt.toNat : Int)) hI hA (by omega) (by omega) q0 h5 (by omega) hd rfl) h_r3
        have j1 : Ic3 = I := congrArg Prod.fst b1
        have j2 : Ac3 = A := congrArg Prod.snd b1
        dsimp only at b3 hf
        rw [j1, j2] at hf
        rcases m_ifE hf with ⟨d3, hf⟩ | ⟨d3, hf⟩
        · replace d3 := ti_eqP (a := r3) (b := (6 : Int32)) d3 rfl (show (6 : Int32).toInt = 6 from rfl)
          obtain ⟨I4, e4, hf⟩ := m_bndE hf
          obtain ⟨-, hf⟩ := m_chkE hf
          refine Or.inl ⟨⟨x3.toInt.toNat, by omega, by omega, hb, by omega⟩, ?_⟩
          rw [← Option.some.inj hf, e4]
        · replace d3 := ti_eqN (a := r3) (b := (6 : Int32)) d3 rfl (show (6 : Int32).toInt = 6 from rfl)
          exact nxt (by omega) hf (fun _ => by omega)
/-- the reference's tree once H goes on -/
theorem trr_ld {b : Nat} {l rr : List Nat} {Fi hi : Int32} (hw : WT T) (tr : TRr A g T) (hu : u ≤ tn T) (hH2 : H ≤ tn T) (hL : tL T u = l ++ b :: H :: rr) (hF : Fi.toInt = hdC T u) (hh : hi.toInt = (H : Int)) : TRr (ldA A g u b H Fi hi) g (ldT T u H) := by
  obtain ⟨h1, hl, h4⟩ := tr
  have E : ∀ j, j ≠ 10 → j ≠ 11 → ldA A g u b H Fi hi j = A j := fun j j1 j2 => by
    unfold ldA
    rw [va_up_ne _ _ j1, va_up_ne _ _ j2]
  have E10 : ldA A g u b H Fi hi 10 = upd (A 10) (301 * g + u) hi := by
    unfold ldA
    exact va_up_self _ _ _
  have E11 : ldA A g u b H Fi hi 11 = upd (upd (A 11) (301 * g + b) (A 11 (301 * g + H))) (301 * g + H) Fi := by
    unfold ldA
    rw [va_up_ne _ _ (by decide)]
    exact va_up_self _ _ _
  have e8 : aP (ldA A g u b H Fi hi) g = aP A g := by funext k; unfold aP; rw [E 8 (by decide) (by decide)]
  have e9 : aM (ldA A g u b H Fi hi) g = aM A g := by funext k; unfold aM; rw [E 9 (by decide) (by decide)]
  have cC : ∀ j, aC (ldA A g u b H Fi hi) g j = if j = u then hi.toInt else aC A g j := fun j => by
    unfold aC
    rw [E10]
    exact up_j
  have cN : ∀ j, aN (ldA A g u b H Fi hi) g j = if j = H then Fi.toInt else if j = b then aN A g H else aN A g j := fun j => by
    unfold aN
    rw [E11, up_j]
    by_cases e : j = H
    · rw [if_pos e, if_pos e]
    · rw [if_neg e, if_neg e, up_j]
  have hnd := (hl u hu).2.1
  have hbH : b ≠ H := fun e => by
    rw [hL, e] at hnd
    exact (List.nodup_cons.mp (List.nodup_append.mp hnd).2.1).1 List.mem_cons_self
  have hc := (hl u hu).1
  have hd := hd_c hc
  obtain ⟨F, hFF⟩ : ∃ F : Nat, aC A g u = (F : Int) := by
    rw [hL] at hc
    cases l with
    | nil => exact ⟨b, hc.1⟩
    | cons z l => exact ⟨z, hc.1⟩
  have eL : H :: (tL T u).erase H = H :: (l ++ b :: rr) := by
    rw [hL] at hnd ⊢
    rw [er_mid hnd]
  have TL := TTl_lead (C' := aC (ldA A g u b H Fi hi) g) (N' := aN (ldA A g u b H Fi hi) g) hl hu hL hFF (fun j hj hju => by rw [cC, if_neg hju]) (by rw [cC, if_pos rfl]; exact hh) (by rw [cN, if_neg hbH, if_pos rfl]) (by rw [cN, if_pos rfl, hF, ← hd]; exact hFF) (fun j hj hjb hjH => by rw [cN, if_neg hjH, if_neg hjb])
  refine ⟨by unfold aK; rw [E 7 (by decide) (by decide)]; exact h1, ?_, fun k hk => ?_⟩
  · rw [e8]
    show TTl (tn T) _ _ _ (fun p => if p = u then H :: (tL T u).erase H else tL T p)
    rw [eL]
    exact TL
  · rw [e8, e9]
    unfold NKr NRr
    rw [E 12 (by decide) (by decide), E 13 (by decide) (by decide), E 14 (by decide) (by decide), E 15 (by decide) (by decide)]
    exact h4 k hk
/-- the reference's lead -/
theorem v_lead (hR : RIt I A) (tr : TRr A (I 5).toInt.toNat T) (hw : WT T) (h6 : (I 6).toInt = (c : Int)) (hc : c ≤ tn T) (hd : TTd (tn T) (aP A (I 5).toInt.toNat) (aC A (I 5).toInt.toNat) D) (hf : f_lead I A = some o2) : (c = 0 ∧ o2 = (0, (upd I 0 1, A))) ∨ (1 ≤ c ∧ hdC T (tP T c).toNat = (c : Int) ∧ o2 = (0, (upd I 0 0, A))) ∨ (1 ≤ c ∧ ∃ F : Nat, hdC T (tP T c).toNat = (F : Int) ∧ F ≠ c ∧ (∃ k, 1 ≤ k ∧ k ≤ tn T ∧ bh (aP A (I 5).toInt.toNat) F k ∧ D k = 6) ∧ o2.2.1 0 = 1 ∧ (∀ j, j ≠ 0 → o2.2.1 j = I j) ∧ o2.2.2 = A) ∨ (1 ≤ c ∧ ∃ F : Nat, hdC T (tP T c).toNat = (F : Int) ∧ F ≠ c ∧ (∀ k, 1 ≤ k → k ≤ tn T → bh (aP A (I 5).toInt.toNat) F k → D k ≠ 6) ∧ o2.1 = 1 ∧ o2.2.1 = upd I 0 0 ∧ TRr o2.2.2 (I 5).toInt.toNat (ldT T (tP T c).toNat c) ∧ ∀ j, j ≠ 10 → j ≠ 11 → o2.2.2 j = A j) := by
  obtain ⟨hI, hA, -⟩ := hR
  have b5 : 0 ≤ (I 5).toInt ∧ (I 5).toInt ≤ 1 := hI 5
  have h300 := hw.1
  have z0 : (0 : Int32).toInt = 0 := rfl
  have hf : f_lead_0 I A = some o2 := hf
  have r13 : ∀ {t0 : Int32}, 0 < t0.toInt → f_lead_13 t0 I A = some o2 → o2 = (0, (upd I 0 t0, A)) := fun {t0} ht hh => by
    unfold f_lead_13 at hh
    obtain ⟨I1, e1, hh⟩ := m_bndE hh
    rcases m_ifE hh with ⟨d, hh⟩ | ⟨-, hh⟩
    · replace d := ti_leP (a := I1 0) (b := (0 : Int32)) d rfl z0
      rw [e1, upd_self] at d
      omega
    · obtain ⟨-, hh⟩ := m_chkE hh
      rw [← Option.some.inj hh, e1]
  unfold f_lead_0 at hf
  rcases m_ifE hf with ⟨d, hf⟩ | ⟨d, hf⟩
  · replace d := ti_eqP (a := I 6) (b := (0 : Int32)) d rfl z0
    exact Or.inl ⟨by omega, r13 (by decide) hf⟩
  · replace d := ti_eqN (a := I 6) (b := (0 : Int32)) d rfl z0
    have c1 : 1 ≤ c := by omega
    have hP := (hw.2.1 c c1 hc).1
    obtain ⟨u, hu⟩ : ∃ u : Nat, tP T c = (u : Int) := ⟨(tP T c).toNat, by omega⟩
    have hut : u ≤ tn T := by omega
    have eu : (tP T c).toNat = u := by omega
    rw [eu]
    unfold f_lead_13 at hf
    obtain ⟨I1, e1, hf⟩ := m_bndE hf
    have j0 : I1 0 = 0 := by rw [e1, upd_self]
    have jj : ∀ j, j ≠ 0 → I1 j = I j := fun j hj => by rw [e1, upd_ne hj]
    have hI1 : TJ I1 := by rw [e1]; exact tj_u hI (show (0 : Int) ≤ (0 : Int32).toInt by decide) (show (0 : Int32).toInt ≤ (2 : Int) by decide)
    rcases m_ifE hf with ⟨-, hf⟩ | ⟨d2, hf⟩
    · obtain ⟨v2, f2, hf⟩ := m_bndE hf
      obtain ⟨v3, f3, hf⟩ := m_bndE hf
      rw [jj 5 (by decide)] at f2
      rw [jj 6 (by decide)] at f3
      have t2 : v2.toInt = 301 * (I 5).toInt := ti_mul f2 (show (301 : Int32).toInt = 301 from rfl) rfl (by omega) (by omega)
      have t3 : v3.toInt = v2.toInt + (I 6).toInt := ti_add f3 rfl rfl (by omega) (by omega)
      obtain ⟨-, hf⟩ := m_chkE hf
      obtain ⟨v4, f4, hf⟩ := m_bndE hf
      rw [cl_n (n := 301 * (I 5).toInt.toNat + c) (by omega)] at f4
      have t4 : v4.toInt = (u : Int) := by rw [f4, ← hu]; exact (tr.2.2 c hc).1.1
      obtain ⟨v5, f5, hf⟩ := m_bndE hf
      obtain ⟨v6, f6, hf⟩ := m_bndE hf
      rw [jj 5 (by decide)] at f5
      have t5 : v5.toInt = 301 * (I 5).toInt := ti_mul f5 (show (301 : Int32).toInt = 301 from rfl) rfl (by omega) (by omega)
      have t6 : v6.toInt = v5.toInt + v4.toInt := ti_add f6 rfl rfl (by omega) (by omega)
      obtain ⟨-, hf⟩ := m_chkE hf
      obtain ⟨v7, f7, hf⟩ := m_bndE hf
      rw [cl_n (n := 301 * (I 5).toInt.toNat + u) (by omega)] at f7
      have t7 : v7.toInt = hdC T u := by rw [f7]; exact trr_hd tr hut
      rcases m_ifE hf with ⟨d3, hf⟩ | ⟨d3, hf⟩
      · replace d3 := ti_eqP (a := v7) (b := I1 6) d3 rfl rfl
        rw [jj 6 (by decide)] at d3
        obtain ⟨-, hf⟩ := m_chkE hf
        exact Or.inr (Or.inl ⟨c1, by omega, by rw [← Option.some.inj hf, e1]⟩)
      · replace d3 := ti_eqN (a := v7) (b := I1 6) d3 rfl rfl
        rw [jj 6 (by decide)] at d3
        have hl := tr.2.1 u hut
        have hin : c ∈ tL T u := (hl.2.2 c).2 ⟨c1, hc, by rw [(tr.2.2 c hc).1.1]; exact hu⟩
        cases hL : tL T u with
        | nil => rw [hL] at hin; cases hin
        | cons F l =>
          have hdF : hdC T u = (F : Int) := by unfold hdC; rw [hL]
          have hFc : F ≠ c := by omega
          have hFm := (hl.2.2 F).1 (by rw [hL]; exact List.mem_cons_self)
          have i5 : (I1 5).toInt = (((I 5).toInt.toNat : Nat) : Int) := by rw [jj 5 (by decide)]; omega
          rcases vl_72 (T := T) (D := D) (F := F) hI1 hA (by omega) i5 hw tr hd (by omega) (by omega) mFuel 1 ⟨by decide, by have z : (1 : Int32).toInt = 1 := rfl; omega⟩ (fun k k1 k2 => by have z : (1 : Int32).toInt = 1 := rfl; omega) hf with ⟨hk, ho⟩ | ⟨hk, ho⟩
          · refine Or.inr (Or.inr (Or.inl ⟨c1, F, hdF, hFc, hk, ?_, fun j hj => ?_, ?_⟩))
            · rw [ho]
              show upd I1 0 1 0 = 1
              exact upd_self
            · rw [ho]
              show upd I1 0 1 j = I j
              rw [upd_ne hj]; exact jj j hj
            · rw [ho]
          · have hch := hl.1
            rw [hL] at hch
            have hinl : c ∈ l := by
              rw [hL] at hin
              rcases List.mem_cons.1 hin with e | e
              · exact absurd e.symm hFc
              · exact e
            have hle : ∀ k ∈ l, k ≤ 300 := fun k hk => by
              have := (hl.2.2 k).1 (by rw [hL]; exact List.mem_cons_of_mem _ hk)
              omega
            have hlen : l.length < mFuel := by
              have := chn_len tr.2.1 hut
              rw [hL] at this
              have h9 : (F :: l).length = l.length + 1 := rfl
              have : l.length ≤ 300 := by omega
              exact Nat.lt_of_le_of_lt this (by decide)
            obtain ⟨l1, rr, b', q1, q2, q3⟩ := t_lead_123 (I := I1) (A := A) (g := (I 5).toInt.toNat) (u := u) (H := c) (by omega) i5 (by rw [jj 6 (by decide)]; exact h6) (by omega) (by omega) l F mFuel v4 v7 v7 t4 (by omega) (by omega) hle hch.2 hinl hlen
            rw [q3] at ho
            have eo := (Option.some.inj ho).symm
            refine Or.inr (Or.inr (Or.inr ⟨c1, F, hdF, hFc, hk, by rw [eo], by rw [eo]; exact e1, ?_, fun j j1 j2 => ?_⟩))
            · rw [eo]
              exact trr_ld hw tr hut hc (by rw [hL]; exact q1) t7 (by rw [jj 6 (by decide)]; exact h6)
            · rw [eo]
              show ldA A _ _ _ _ _ _ j = A j
              unfold ldA
              rw [va_up_ne _ _ j1, va_up_ne _ _ j2]
    · exact absurd (show I1 0 ≤ 0 by rw [j0]; decide) d2
theorem ke_7 (hg : g = 35 ∨ g = 99) (F : FR (fun a => a = g + 7) S S') : KE S S' := ke_fr F (fun a hk => by unfold KP9 at hk; omega)
theorem fgm_ke (hC : CG S) (hm : SC S) (w : FGm I A S g L st T r c) (k : KE S S') : FGm I A S' g L st T r c := by
  obtain ⟨⟨p7, gc⟩, gr, ⟨c1, c2, c3⟩, bo, qs⟩ := w
  have hg := (sc_7 hm p7).1
  have k1 : zK S 1 = 11 := fx_k hC.2.2.1 (by decide) (by decide)
  have e1 := k 1 (by rw [k1]; decide) (Or.inr (Or.inr (Or.inr rfl)))
  exact ⟨⟨(e1.2.2.2.1 7).trans p7, gmc_ke hC hg gc k⟩, gr, ⟨by rw [e1.2.2.1 8]; exact c1, c2, c3⟩, ke_107 hC bo k, qs⟩
theorem posT_ld (hw : WT T) : posT st (ldT T u H) c = posT st T c := rfl
theorem wt_ld (hw : WT T) : WT (ldT T u H) := hw
theorem lt_ld (hl : LTr st T) : LTr st (ldT T u H) := hl
/-- lead on both sides -/
theorem fm_lead {o : (Nat × Int32) × ZS} (hC : CG S) (hR : RIt I A) (h : FM I A S) (hs : SM o2.2.1 o2.2.2 o.2) (h2 : f_lead I A = some o2) (ho : d_X11_lead 1 S = some o) : FM o2.2.1 o2.2.2 o.2 ∧ ((o.1.1 = 0 ∧ o2.2.1 0 = 0 ∧ o.1.2 = o2.1) ∨ (o.1.1 = 4 ∧ o2.2.1 0 = 1)) := by
  have hF0 := h
  have h5b : 0 ≤ (I 5).toInt ∧ (I 5).toInt ≤ 1 := hR.1 5
  obtain ⟨hm, g, L, st, T, r, c, w⟩ := h
  obtain ⟨⟨p7, gc⟩, gr, ⟨c1, c2, c3⟩, bo, qs⟩ := id w
  obtain ⟨hw, hl, -, h3⟩ := fw_w w
  obtain ⟨g', hGG⟩ := gg_7 hm.1 p7
  have hgg := gg_g hGG
  obtain ⟨hb, L', D, hl', hd⟩ := hR.2.2.1
  have ek : aK A (I 5).toInt.toNat = tn T := gr.1.1.1
  rw [ek] at hd
  have hD := D_dpx hw gr.1.1 hd
  have V := v_lead hR gr.1.1 hw c2 c3 hd h2
  have z0 : (0 : Int32).toInt = 0 := rfl
  have hf : d_X11_lead_0 1 S = some o := ho
  unfold d_X11_lead_0 at hf
  obtain ⟨-, hf⟩ := m_chkE hf
  rcases m_ifE hf with ⟨d, hf⟩ | ⟨d, hf⟩
  · replace d := ti_eqP (a := zI S 8 1) (b := (0 : Int32)) d rfl z0
    have e : o = ((4, 0), zsQ S) := (Option.some.inj hf).symm
    rcases V with ⟨-, e2⟩ | ⟨h1, -⟩ | ⟨h1, -⟩ | ⟨h1, -⟩
    · rw [e, e2] at hs
      rw [e, e2]
      exact ⟨fm_q hC h5b hF0 hs (fun j hj => upd_ne hj), Or.inr ⟨rfl, show upd I 0 1 0 = 1 from upd_self⟩⟩
    · omega
    · omega
    · omega
  · replace d := ti_eqN (a := zI S 8 1) (b := (0 : Int32)) d rfl z0
    have h1 : 1 ≤ c := by omega
    have hP := (hw.2.1 c h1 c3).1
    obtain ⟨-, hf⟩ := m_chkE hf
    replace hf := m_calY hf p7
    obtain ⟨-, hf⟩ := m_chkE hf
    obtain ⟨-, hf⟩ := m_chkE hf
    obtain ⟨⟨y2, S2⟩, h_2, hf⟩ := m_calE hf
    obtain ⟨-, hf⟩ := m_chkE hf
    obtain ⟨e2, q2⟩ := p_goesOn hC hgg hw gc.1.1 c1 h1 c3 h_2
    dsimp only at e2 q2 hf
    rw [e2] at hf
    rcases m_ifE hf with ⟨d2, hf⟩ | ⟨d2, hf⟩
    · rw [d2] at q2
      have hne : hdC T (tP T c).toNat ≠ (c : Int) := by
        rcases q2 with ⟨q, -⟩ | ⟨-, q⟩
        · exact absurd q (by decide)
        · exact q
      obtain ⟨-, hf⟩ := m_chkE hf
      replace hf := m_calY hf p7
      obtain ⟨-, hf⟩ := m_chkE hf
      obtain ⟨-, hf⟩ := m_chkE hf
      obtain ⟨⟨y4, S4⟩, h_4, hf⟩ := m_calE hf
      obtain ⟨-, hf⟩ := m_chkE hf
      obtain ⟨⟨C4, tr4, F4⟩, q4⟩ := p_mayLead (C := fun p => if p = (tP T c).toNat then (c : Int) else hdC T p) hC hgg hw gc.1.1 c1 h1 c3 (fun _ => rfl) h_4
      dsimp only at C4 tr4 F4 q4 hf
      have K4 : KE S S4 := ke_7 hgg F4
      have M4 : SC S4 := sc_fr hm.1 (cg_x C4) F4
      have w4 := fgm_ke hC hm.1 w K4
      obtain ⟨⟨p74, gc4⟩, gr4, ⟨c14, c24, c34⟩, bo4, qs4⟩ := id w4
      -- both sides ask the same
      have same : ∀ F : Nat, hdC T (tP T c).toNat = (F : Int) → F ≠ c → ((∀ k, k ≤ tn T → dpx T (fun p => if p = (tP T c).toNat then (c : Int) else hdC T p) k ≤ 6) ↔ ∀ k, 1 ≤ k → k ≤ tn T → bh (aP A (I 5).toInt.toNat) F k → D k ≠ 6) := fun F hdF hFc => by
        have hu : (tP T c).toNat ≤ tn T := by omega
        have hlu := gr.1.1.2.1 (tP T c).toNat hu
        have hFm : F ∈ tL T (tP T c).toNat := by
          unfold hdC at hdF
          cases eL : tL T (tP T c).toNat with
          | nil => rw [eL] at hdF; have hdF : (-1 : Int) = (F : Int) := hdF; omega
          | cons x l =>
            rw [eL] at hdF
            have hdF : (x : Int) = (F : Int) := hdF
            have : F = x := by omega
            rw [this]; exact List.mem_cons_self
        obtain ⟨f1, f2, f3⟩ := (hlu.2.2 F).1 hFm
        rw [(gr.1.1.2.2 F f2).1.1] at f3
        have hPF := (hw.2.1 F f1 f2).1
        have key := dp_lead (u := (tP T c).toNat) (H := c) (F := F) (C := fun p => if p = (tP T c).toNat then (c : Int) else hdC T p) hw gr.1.1 (fun _ => rfl) hdF hFc f1 (fun k hk ekF => by rw [ekF]; omega) (by omega)
        constructor
        · intro hall k k1 k2 hbk hD6
          have := (key k k2).1 hbk
          have := hall k k2
          have := hD k k2
          omega
        · intro hall k k2
          have h6 := hd.2.2 k k2
          have hDk := hD k k2
          by_cases hbk : bh (aP A (I 5).toInt.toNat) F k
          · have := (key k k2).1 hbk
            by_cases k0 : k = 0
            · rw [k0, dpx_0]; decide
            · have := hall k (by omega) k2 hbk
              omega
          · have := (key k k2).2.1 hbk
            omega
      rcases m_ifE hf with ⟨d4, hf⟩ | ⟨d4, hf⟩
      · rw [d4] at q4
        have bad : ¬ ∀ k, k ≤ tn T → dpx T (fun p => if p = (tP T c).toNat then (c : Int) else hdC T p) k ≤ 6 := fun hall => by
          rcases q4 with ⟨q, -⟩ | ⟨-, k, k1, k2⟩
          · exact absurd q (by decide)
          · have := hall k k1
            omega
        have e : o = ((4, 0), zsQ S4) := (Option.some.inj hf).symm
        rcases V with ⟨v1, -⟩ | ⟨-, v2, -⟩ | ⟨-, F, v2, v3, v4, v5, v6, v7⟩ | ⟨-, F, v2, v3, v4, -⟩
        · omega
        · exact absurd v2 hne
        · rw [e, v7] at hs
          rw [e, v7]
          exact ⟨fm_ke hC h5b hF0 hs (ke_q K4) (v6 5 (by decide)) (v6 6 (by decide)) (fun _ _ _ => rfl) (fun _ _ _ _ _ _ w => qs_e w.2.2.2.2 rfl rfl (fun j hj => v6 j (by omega))), Or.inr ⟨rfl, v5⟩⟩
        · exact absurd ((same F v2 v3).2 v4) bad
      · have good : ∀ k, k ≤ tn T → dpx T (fun p => if p = (tP T c).toNat then (c : Int) else hdC T p) k ≤ 6 := by
          rcases q4 with ⟨-, q⟩ | ⟨q, -⟩
          · exact q
          · exact absurd (i32_of q) d4
        obtain ⟨-, hf⟩ := m_chkE hf
        replace hf := m_calY hf p74
        obtain ⟨-, hf⟩ := m_chkE hf
        obtain ⟨-, hf⟩ := m_chkE hf
        obtain ⟨⟨y6, S6⟩, h_6, hf⟩ := m_calE hf
        obtain ⟨-, hf⟩ := m_chkE hf
        obtain ⟨-, hf⟩ := m_chkE hf
        have e : o = ((0, 1), S6) := (Option.some.inj hf).symm
        obtain ⟨tr6, F6⟩ := p_putFirst C4 hGG hw tr4 c14 h1 c3 hne h_6
        rcases V with ⟨v1, -⟩ | ⟨-, v2, -⟩ | ⟨-, F, v2, v3, ⟨k, k1, k2, k3, k4⟩, -⟩ | ⟨-, F, v2, v3, v4, v5, v6, v7, v8⟩
        · omega
        · exact absurd v2 hne
        · exact absurd k4 ((same F v2 v3).1 good k k1 k2 k3)
        · rw [e] at hs
          rw [e]
          refine ⟨fm_tr (T' := ldT T (tP T c).toNat c) C4 h5b w4 M4 hs F6 (fun a ha => Or.inl ha) tr6 v7 hw hl c3 rfl (fun j j0 _ => by rw [v6]; exact upd_ne j0) (fun j hj => v8 j (by omega) (by omega)), Or.inl ⟨rfl, by rw [v6]; exact upd_self, v5.symm⟩⟩
    · have heq : hdC T (tP T c).toNat = (c : Int) := by
        rcases q2 with ⟨-, q⟩ | ⟨q, -⟩
        · exact q
        · exact absurd (i32_of q) d2
      obtain ⟨-, hf⟩ := m_chkE hf
      have e : o = ((0, 0), S) := (Option.some.inj hf).symm
      rcases V with ⟨v1, -⟩ | ⟨-, -, e2⟩ | ⟨-, F, v2, v3, -⟩ | ⟨-, F, v2, v3, -⟩
      · omega
      · rw [e, e2] at hs
        rw [e, e2]
        exact ⟨fm_ke hC h5b hF0 hs ke_0 (show upd I 0 0 5 = I 5 from upd_ne (by decide)) (show upd I 0 0 6 = I 6 from upd_ne (by decide)) (fun _ _ _ => rfl) (fun _ _ _ _ _ _ w => qs_e w.2.2.2.2 rfl rfl (fun j hj => show upd I 0 0 j = I j from upd_ne (by omega))), Or.inl ⟨rfl, show upd I 0 0 0 = 0 from upd_self, rfl⟩⟩
      · omega
      · omega
end LED
end
section
section ADD
variable {S S' : ZS} {g g' c k p : Nat} {I I' : Nat → Int32} {A A' : Nat → Nat → Int32} {L : List (List Int × List Int)} {st P : PO} {T T' : TRa} {r v : Int} {x1 x2 x3 : Int32} {o : Int32 × ZS} {o2 : Int32 × MS} {D : Nat → Nat}
theorem ch_in {M : Nat → Int} {m : Int} : ∀ l : List Nat, chL M m l = -1 ∨ ∃ k ∈ l, chL M m l = (k : Int) ∧ M k = m
  | [] => Or.inl rfl
  | k :: l => by
    by_cases e : M k = m
    · exact Or.inr ⟨k, List.mem_cons_self, if_pos e, e⟩
    · have q : chL M m (k :: l) = chL M m l := if_neg e
      rw [q]
      rcases ch_in l with h | ⟨j, hj, h1, h2⟩
      · exact Or.inl h
      · exact Or.inr ⟨j, List.mem_cons_of_mem _ hj, h1, h2⟩
/-- is a move legal: the reference -/
theorem vi_4 (hI : TJ I) : ∀ (n : Nat) (x2 x3 : Int32), (0 ≤ x3.toInt ∧ x3.toInt ≤ (I 33).toInt) → (x2.toInt = 0 ∨ x2.toInt = 1) → (x2.toInt = 1 ↔ ∃ k : Nat, (k : Int) < x3.toInt ∧ (A 32 k).toInt = x1.toInt) → f_isLegal_4 n x1 x2 x3 I A = some o2 → o2.2 = (I, A) ∧ (o2.1.toInt = 0 ∨ o2.1.toInt = 1) ∧ (o2.1.toInt = 1 ↔ ∃ k : Nat, (k : Int) < (I 33).toInt ∧ (A 32 k).toInt = x1.toInt) := by
  have b33 : 0 ≤ (I 33).toInt ∧ (I 33).toInt ≤ 2048 := hI 33
  have z0 : (0 : Int32).toInt = 0 := rfl
  have z1 : (1 : Int32).toInt = 1 := rfl
  intro n
  induction n with
  | zero => intro x2 x3 _ _ _ hf; cases hf
  | succ n ih =>
    intro x2 x3 hx h2 hq hf
    have hf : f_isLegal_4s (f_isLegal_4 n) x1 x2 x3 I A = some o2 := hf
    have n31 : x3.toInt < (I 33).toInt → ∀ t0 : Int32, (t0.toInt = 0 ∨ t0.toInt = 1) → (t0.toInt = 1 ↔ ∃ k : Nat, (k : Int) < x3.toInt + 1 ∧ (A 32 k).toInt = x1.toInt) → f_isLegal_31 (f_isLegal_4 n) x1 x3 t0 I A = some o2 → o2.2 = (I, A) ∧ (o2.1.toInt = 0 ∨ o2.1.toInt = 1) ∧ (o2.1.toInt = 1 ↔ ∃ k : Nat, (k : Int) < (I 33).toInt ∧ (A 32 k).toInt = x1.toInt) := fun hlt t0 ht hte hh => by
      unfold f_isLegal_31 at hh
      obtain ⟨v1, e1, hh⟩ := m_bndE hh
      have t1 : v1.toInt = x3.toInt + 1 := ti_add e1 rfl z1 (by omega) (by omega)
      exact ih t0 v1 (by omega) ht (by rw [t1]; exact hte) hh
    unfold f_isLegal_4s at hf
    rcases m_ifE hf with ⟨d, hf⟩ | ⟨d, hf⟩
    · replace d := ti_leP (a := I 33) (b := x3) d rfl rfl
      obtain ⟨-, hf⟩ := m_chkE hf
      cases hf
      have e : x3.toInt = (I 33).toInt := by omega
      rw [e] at hq
      exact ⟨rfl, h2, hq⟩
    · replace d := ti_leN (a := I 33) (b := x3) d rfl rfl
      rcases m_ifE hf with ⟨d2, hf⟩ | ⟨d2, hf⟩
      · have d2' := ti_eqP (a := x2) (b := (0 : Int32)) d2 rfl z0
        obtain ⟨-, hf⟩ := m_chkE hf
        obtain ⟨v1, e1, hf⟩ := m_bndE hf
        rw [cl_n (n := x3.toInt.toNat) (by omega)] at e1
        rcases m_ifE hf with ⟨d3, hf⟩ | ⟨d3, hf⟩
        · unfold f_isLegal_26 at hf
          refine n31 (by omega) 1 (Or.inr rfl) ⟨fun _ => ⟨x3.toInt.toNat, by omega, by rw [← e1, d3]⟩, fun _ => rfl⟩ hf
        · refine n31 (by omega) 0 (Or.inl rfl) ⟨fun h => absurd h (by decide), fun ⟨k, k1, k2⟩ => ?_⟩ hf
          by_cases ek : (k : Int) < x3.toInt
          · have := hq.2 ⟨k, ek, k2⟩
            omega
          · have : k = x3.toInt.toNat := by omega
            rw [this, ← e1] at k2
            exact absurd (Int32.toInt_inj.1 k2) d3
      · have d2' := ti_eqN (a := x2) (b := (0 : Int32)) d2 rfl z0
        obtain ⟨k, k1, k2⟩ := hq.1 (by omega)
        unfold f_isLegal_26 at hf
        exact n31 (by omega) 1 (Or.inr rfl) ⟨fun _ => ⟨k, by omega, k2⟩, fun _ => rfl⟩ hf
theorem v_isLegal (hI : TJ I) (hm : MVs I A P) (hf : f_isLegal x1 I A = some o2) : o2.2 = (I, A) ∧ (o2.1.toInt = 0 ∨ o2.1.toInt = 1) ∧ (o2.1.toInt = 1 ↔ ∃ key, key < 32768 ∧ LR (om P) (osd P) (ort P) (ops P) (oko P) key ∧ mvk key = x1.toInt) := by
  have hf : f_isLegal_0 x1 I A = some o2 := hf
  have b33 : 0 ≤ (I 33).toInt ∧ (I 33).toInt ≤ 2048 := hI 33
  have z0 : (0 : Int32).toInt = 0 := rfl
  unfold f_isLegal_0 at hf
  obtain ⟨a1, a2, a3⟩ := vi_4 hI mFuel 0 0 ⟨by decide, by omega⟩ (Or.inl rfl) ⟨fun h => absurd h (by decide), fun ⟨k, k1, _⟩ => by rw [z0] at k1; omega⟩ hf
  refine ⟨a1, a2, a3.trans ⟨fun ⟨k, k1, k2⟩ => ?_, fun ⟨key, k1, k2, k3⟩ => ?_⟩⟩
  · obtain ⟨key, q1, q2, q3⟩ := cnt_sur (P := LR (om P) (osd P) (ort P) (ops P) (oko P)) (k := k) (N := 32768) (by have := hm.1; omega)
    refine ⟨key, q1, q2, ?_⟩
    have := hm.2 key q1 q2
    rw [q3] at this
    rw [← this]
    exact k2
  · refine ⟨cnt (LR (om P) (osd P) (ort P) (ops P) (oko P)) key, ?_, ?_⟩
    · have := cnt_lt k2 k1
      have := hm.1
      omega
    · rw [← k3]
      exact hm.2 key k1 k2
/-- the class's board as the rules want it -/
theorem bx_of {x0 tb b : Nat} (hC : CG S) (k7 : zK S x0 = 7) (p0 : zP S 0 x0 = some tb) (kt : zK S tb = 0) (pt : zP S 0 tb = some (tb + 1)) (hne : b ≠ tb) (bo : BO S b P) (pg : PGd P) (hn : 0 ≤ onb P ∧ onb P ≤ 99999) : BX S x0 tb b (om P) (osd P) (ort P) (ops P) (okw P) (okb P) := by
  obtain ⟨⟨b1, b2, b3⟩, b4, b5, b6, b7, b8, b9, b10⟩ := bo
  have s := pg.1
  exact ⟨hC.1, ⟨k7, p0⟩, ⟨kt, pt⟩, ⟨b1, b2⟩, hne, ⟨by omega, by omega⟩, b4, b5, b6, b7, b8, b9⟩
/-- is a move legal: the class -/
theorem k_isLegal (hC : CG S) (bo : BO S 107 P) (pg : PGd P) (hn : 0 ≤ onb P ∧ onb P ≤ 99999) (hf : f_X7_isLegal 4 107 x1 S = some o) : FR (fun a => a = 5 ∨ a = 6) S o.2 ∧ CG o.2 ∧ (o.1.toInt = 0 ∨ o.1.toInt = 1) ∧ (o.1.toInt = 1 ↔ ∃ key, key < 32768 ∧ LR (om P) (osd P) (ort P) (ops P) (oko P) key ∧ mvk key = x1.toInt) := by
  obtain ⟨y, S'⟩ := o
  have k5 : zK S 5 = 0 := fx_k hC.2.2.1 (by decide) (by decide)
  have k6 : zK S 6 = 14 := fx_k hC.2.2.1 (by decide) (by decide)
  have B := bx_of (x0 := 4) (tb := 5) hC (fx_k hC.2.2.1 (by decide) (by decide)) (fx_p hC.2.2.1 (by decide)) k5 (fx_p hC.2.2.1 (by decide)) (by decide) bo pg hn
  obtain ⟨a1, a2, a3, a4⟩ := p_isLegal (ko := oko P) B pg rfl hf
  have F : FR (fun a => a = 5 ∨ a = 6) S S' := fr_b hC.1 k6 a2
  have Z : TZ S' := tz_k hC.1 hC.2.1 F (fun a _ e => by
    rcases e with e | e
    · rw [e, k5]; exact ⟨by decide, by decide, fun h => absurd h (by decide)⟩
    · rw [e, k6]; exact ⟨by decide, by decide, fun h => absurd h (by decide)⟩)
  exact ⟨F, cg_w hC a1.1 Z F (by decide) (by decide) (by decide) (by decide), a3, a4⟩
/-- the class's last steps of add -/
theorem c_add95 {q : (Nat × Int32) × ZS} (hC : CG S) (hg : g = 35 ∨ g = 99) (p7 : zP S 7 1 = some g) (gc : GMc S g L st T r) (bo : BO S 107 P) (pg : PGd P) (hx : LGo P x1.toInt) (hn : 0 ≤ onb P ∧ onb P ≤ 99999) (h2 : 0 ≤ x2.toInt ∧ x2.toInt ≤ 300) (hf : d_X11_add_95 1 x1 x2 S = some q) : q.1 = (0, x2) ∧ zP q.2 7 1 = some g ∧ GMc q.2 g L st T r ∧ zI q.2 8 1 = x2 ∧ BO q.2 107 (afO P x1.toInt) := by
  have k1 : zK S 1 = 11 := fx_k hC.2.2.1 (by decide) (by decide)
  unfold d_X11_add_95 at hf
  obtain ⟨-, hf⟩ := m_chkE hf
  obtain ⟨S1, e1, hf⟩ := m_bndE hf
  have F1 : FR (fun a => a = 1) S S1 := fr_I e1
  have T1 : ZT S1 := by rw [e1]; exact zt_I hC.1 k1 (by decide) (show (0 : Int) ≤ x2.toInt ∧ x2.toInt ≤ (300 : Int) by omega)
  have Z1 : TZ S1 := tz_k hC.1 hC.2.1 F1 (fun a _ e => by
    rw [e, k1]
    exact ⟨by decide, by decide, fun h => absurd h (by decide)⟩)
  have C1 : CG S1 := cg_w hC T1 Z1 F1 (by decide) (by decide) (by decide) (by decide)
  have G1 : GMc S1 g L st T r := gmc_fr hC hg gc F1 (by omega)
  have bo1 : BO S1 107 P := bo_fr bo F1 (by decide) (by decide)
  obtain ⟨-, hf⟩ := m_chkE hf
  replace hf := m_calY hf (show zP S1 9 1 = some 107 from fx_p C1.2.2.1 (by decide))
  obtain ⟨-, hf⟩ := m_chkE hf
  obtain ⟨⟨y3, S3⟩, h_3, hf⟩ := m_calE hf
  obtain ⟨-, hf⟩ := m_chkE hf
  have e : q = ((0, x2), S3) := (Option.some.inj hf).symm
  obtain ⟨b1, b2, b3⟩ := bo_play T1 bo1 pg hx hn h_3
  dsimp only at b1 b2 b3
  have k11 : zK S1 1 = 11 := fx_k C1.2.2.1 (by decide) (by decide)
  have ee := fr_e b2 (a := 1) (by rw [k11]; decide) (by decide)
  rw [e]
  refine ⟨rfl, ?_, gmc_fr C1 hg G1 b2 (by omega), ?_, b3⟩
  · show zP S3 7 1 = some g
    rw [ee.2.2.2.1 7, e1]; exact p7
  · show zI S3 8 1 = x2
    rw [ee.2.2.1 8, e1]; exact zI_self _ _ _ _
/-- the reference's last steps of add -/
theorem v_add137 (hI : TJ I) (hA : TK A) (h5b : 0 ≤ (I 5).toInt ∧ (I 5).toInt ≤ 1) (gr : GMr A (I 5).toInt.toNat L st T r) (hk : x2.toInt = (k : Int)) (hkt : k ≤ tn T) (hf : f_add_137 x2 I A = some o2) : o2.1 = x2 ∧ o2.2.1 0 = I 0 ∧ o2.2.1 6 = x2 ∧ GMr o2.2.2 (o2.2.1 5).toInt.toNat L st T r ∧ QS o2.2.1 o2.2.2 (posT st T k) := by
  have h3 : tn T ≤ 300 := gr.1.2.1.1
  unfold f_add_137 at hf
  obtain ⟨I1, e1, hf⟩ := m_bndE hf
  have t1 : TJ I1 := by rw [e1]; exact tj_u hI (show (0 : Int) ≤ x2.toInt by omega) (show x2.toInt ≤ (300 : Int) by omega)
  have j6 : I1 6 = x2 := by rw [e1, upd_self]
  have j5 : I1 5 = I 5 := by rw [e1, upd_ne (by decide)]
  have j0 : I1 0 = I 0 := by rw [e1, upd_ne (by decide)]
  obtain ⟨⟨r2, Ic2, Ac2⟩, h_2, hf⟩ := m_clE hf
  have e : o2 = (x2, (Ic2, Ac2)) := (Option.some.inj hf).symm
  obtain ⟨qn, pl⟩ := qs_place (k := k) t1 hA (by rw [j5]; exact h5b) (by rw [j5]; exact gr) (by rw [j6]; exact hk) hkt h_2
  dsimp only at qn pl
  obtain ⟨pA, pl5, pl6, pl0⟩ := plf_g pl
  rw [e]
  refine ⟨rfl, pl0.trans j0, pl6.trans j6, ?_, qn⟩
  show GMr Ac2 (Ic2 5).toInt.toNat L st T r
  rw [pl5, j5]
  exact gmr_7 (by omega) gr pA
/-- add on both sides -/
theorem fn_add {o : (Nat × Int32) × ZS} (hC : CG S) (hR : RIt I A) (h : FM I A S) (hs : SM o2.2.1 o2.2.2 o.2) (h2 : f_add x1 I A = some o2) (ho : d_X11_add 1 x1 S = some o) : FM o2.2.1 o2.2.2 o.2 ∧ ((o.1.1 = 0 ∧ o2.2.1 0 = 0 ∧ o.1.2 = o2.1) ∨ (o.1.1 = 1 ∧ o2.2.1 0 = 1) ∨ (o.1.1 = 3 ∧ o2.2.1 0 = 2)) := by
  have hF0 := h
  have hI := hR.1
  have hA := hR.2.1
  have h5b : 0 ≤ (I 5).toInt ∧ (I 5).toInt ≤ 1 := hI 5
  obtain ⟨hm, g, L, st, T, r, c, w⟩ := h
  obtain ⟨⟨p7, gc⟩, gr, ⟨c1, c2, c3⟩, bo, qs⟩ := id w
  obtain ⟨hw, hl, -, h3⟩ := fw_w w
  obtain ⟨pg, pn1, pn2⟩ := fw_pg w
  obtain ⟨g', hGG⟩ := gg_7 hm.1 p7
  have hgg := gg_g hGG
  obtain ⟨hb, L', D, hl', hd⟩ := hR.2.2.1
  have ek : aK A (I 5).toInt.toNat = tn T := gr.1.1.1
  rw [ek] at hd
  have hD := D_dpx hw gr.1.1 hd
  have z0 : (0 : Int32).toInt = 0 := rfl
  have z6 : (6 : Int32).toInt = 6 := rfl
  have z300 : (300 : Int32).toInt = 300 := rfl
  have zm : (-1 : Int32).toInt = -1 := rfl
  have hf : d_X11_add_0 1 x1 S = some o := ho
  have hr : f_add_0 x1 I A = some o2 := h2
  unfold d_X11_add_0 at hf
  obtain ⟨-, hf⟩ := m_chkE hf
  replace hf := m_calY hf (show zP S 2 1 = some 4 from fx_p hC.2.2.1 (by decide))
  obtain ⟨-, hf⟩ := m_chkE hf
  replace hf := m_calY hf (show zP S 9 1 = some 107 from fx_p hC.2.2.1 (by decide))
  obtain ⟨-, hf⟩ := m_chkE hf
  obtain ⟨⟨y3, S3⟩, h_3, hf⟩ := m_calE hf
  obtain ⟨-, hf⟩ := m_chkE hf
  obtain ⟨F3, C3, q3, l3⟩ := k_isLegal hC bo pg ⟨by omega, by omega⟩ h_3
  dsimp only at F3 C3 q3 l3 hf
  have K3 : KE S S3 := ke_fr F3 (fun a hk => by unfold KP9 at hk; omega)
  have M3 : SC S3 := sc_fr hm.1 (cg_x C3) F3
  have w3 := fgm_ke hC hm.1 w K3
  obtain ⟨⟨p73, gc3⟩, -, ⟨c13, -, -⟩, bo3, -⟩ := id w3
  unfold f_add_0 at hr
  obtain ⟨⟨r1, Ic1, Ac1⟩, h_r1, hr⟩ := m_clE hr
  obtain ⟨e1, q1, l1⟩ := v_isLegal hI qs.2 h_r1
  have i1 : Ic1 = I := congrArg Prod.fst e1
  have a1 : Ac1 = A := congrArg Prod.snd e1
  dsimp only at q1 l1 hr
  rw [i1, a1] at hr
  -- a call that is refused
  have thr : ∀ {I1 : Nat → Int32} {S1 : ZS} {kk : Nat}, o = ((kk, 0), zsQ S1) → KE S S1 → o2.2.1 = I1 → o2.2.2 = A → (∀ j, j ≠ 0 → I1 j = I j) → FM o2.2.1 o2.2.2 o.2 := fun {I1 S1 kk} eo kS eI eA jj => by
    rw [eo, eI, eA] at hs
    rw [eo, eI, eA]
    exact fm_ke hC h5b hF0 hs (ke_q kS) (jj 5 (by decide)) (jj 6 (by decide)) (fun _ _ _ => rfl) (fun _ _ _ _ _ _ w => qs_e w.2.2.2.2 rfl rfl (fun j hj => jj j (by omega)))
  rcases m_ifE hf with ⟨d, hf⟩ | ⟨d, hf⟩
  · have eo : o = ((1, 0), zsQ S3) := (Option.some.inj hf).symm
    have nl : ¬ ∃ key, key < 32768 ∧ LR (om (posT st T c)) (osd (posT st T c)) (ort (posT st T c)) (ops (posT st T c)) (oko (posT st T c)) key ∧ mvk key = x1.toInt := fun hh => by
      have := l3.2 hh
      rw [d] at this
      exact absurd this (by decide)
    rcases m_ifE hr with ⟨d2, hr⟩ | ⟨d2, hr⟩
    · unfold f_add_14 at hr
      obtain ⟨I1, f1, hr⟩ := m_bndE hr
      have j0 : I1 0 = 1 := by rw [f1, upd_self]
      rcases m_ifE hr with ⟨d3, hr⟩ | ⟨d3, hr⟩
      · rw [j0] at d3
        exact absurd d3 (by decide)
      · have e2 : o2 = (0, (I1, A)) := (Option.some.inj hr).symm
        refine ⟨thr (I1 := I1) eo K3 (by rw [e2]) (by rw [e2]) (fun j hj => by rw [f1, upd_ne hj]), Or.inr (Or.inl ⟨by rw [eo], by rw [e2]; exact j0⟩)⟩
    · rcases q1 with q | q
      · exact absurd (i32_of q) d2
      · exact absurd (l1.1 q) nl
  · have hlk : ∃ key, key < 32768 ∧ LR (om (posT st T c)) (osd (posT st T c)) (ort (posT st T c)) (ops (posT st T c)) (oko (posT st T c)) key ∧ mvk key = x1.toInt := by
      rcases q3 with q | q
      · exact absurd (i32_of q) d
      · exact l3.1 q
    have LG : LGo (posT st T c) x1.toInt := by
      obtain ⟨key, k1, k2, k3⟩ := hlk
      rw [← k3]
      exact (lg_key pg rfl k1 k2).1
    have xb : 0 ≤ x1.toInt ∧ x1.toInt ≤ 24575 := LG.1
    rcases m_ifE hr with ⟨d2, hr⟩ | ⟨d2, hr⟩
    · have := l1.2 hlk
      rw [d2] at this
      exact absurd this (by decide)
    · unfold f_add_14 at hr
      obtain ⟨I1, f1, hr⟩ := m_bndE hr
      have j0 : I1 0 = 0 := by rw [f1, upd_self]
      have jj : ∀ j, j ≠ 0 → I1 j = I j := fun j hj => by rw [f1, upd_ne hj]
      have hI1 : TJ I1 := by rw [f1]; exact tj_u hI (show (0 : Int) ≤ (0 : Int32).toInt by decide) (show (0 : Int32).toInt ≤ (2 : Int) by decide)
      have i5 : I1 5 = I 5 := jj 5 (by decide)
      have i6 : I1 6 = I 6 := jj 6 (by decide)
      rcases m_ifE hr with ⟨-, hr⟩ | ⟨d3, hr⟩
      · obtain ⟨⟨r2, Ic2, Ac2⟩, h_r2, hr⟩ := m_clE hr
        obtain ⟨e2, q2⟩ := v_childWith (g := (I 5).toInt.toNat) (k := c) (by omega) h3 gr.1.1 (by rw [i5]; omega) (by rw [i6]; exact c2) c3 h_r2
        have i2 : Ic2 = I1 := congrArg Prod.fst e2
        have a2 : Ac2 = A := congrArg Prod.snd e2
        dsimp only at q2 hr
        rw [i2, a2] at hr
        obtain ⟨-, hf⟩ := m_chkE hf
        replace hf := m_calY hf p73
        obtain ⟨-, hf⟩ := m_chkE hf
        obtain ⟨-, hf⟩ := m_chkE hf
        obtain ⟨⟨y5, S5⟩, h_5, hf⟩ := m_calE hf
        obtain ⟨-, hf⟩ := m_chkE hf
        have q5 := p_childWith C3 hgg gc3.1.1 h3 c13 c3 h_5
        have e5 : S5 = S3 := ro_X1_childWith h_5
        dsimp only at q5 hf
        rw [e5] at hf
        have eq25 : y5 = r2 := Int32.toInt_inj.1 (by rw [q5, q2])
        rcases ch_in (M := tM T) (m := x1.toInt) (tL T c) with hch | ⟨k, km, hch, kM⟩
        · -- a new node, if there is room
          rcases m_ifE hf with ⟨d5, hf⟩ | ⟨d5, hf⟩
          · rcases m_ifE hr with ⟨d6, hr⟩ | ⟨d6, hr⟩
            · replace d6 := ti_leP (a := (0 : Int32)) (b := r2) d6 z0 rfl
              omega
            · -- the reference
              obtain ⟨⟨r3, Ic3, Ac3⟩, h_r3, hr⟩ := m_clE hr
              obtain ⟨b1, b2, b3⟩ := ok_of (t_deepOf (gg := (I 5).toInt.toNat) (nn := tn T) (dd := D) (tt := (D c : Int)) hI1 hA (by rw [i5]; omega) (by rw [i6]; omega) (trr_b hw gr.1.1) (by rw [i5]; omega) (by rw [i6]; omega) hd (by rw [i6, c2]; rfl)) h_r3
              have i3 : Ic3 = I1 := congrArg Prod.fst b1
              have a3 : Ac3 = A := congrArg Prod.snd b1
              dsimp only at b2 b3 hr
              rw [i3, a3] at hr
              obtain ⟨v4, f4, hr⟩ := m_bndE hr
              obtain ⟨v5, f5, hr⟩ := m_bndE hr
              rw [i5] at f4
              rw [i6] at f5
              have t4 : v4.toInt = 301 * (I 5).toInt := ti_mul f4 (show (301 : Int32).toInt = 301 from rfl) rfl (by omega) (by omega)
              have t5 : v5.toInt = v4.toInt + (I 6).toInt := ti_add f5 rfl rfl (by omega) (by omega)
              obtain ⟨-, hr⟩ := m_chkE hr
              obtain ⟨v6, f6, hr⟩ := m_bndE hr
              rw [cl_n (n := 301 * (I 5).toInt.toNat + c) (by omega)] at f6
              have t6 : v6.toInt = hdC T c := by rw [f6]; exact trr_hd gr.1.1 c3
              have hDc := hD c c3
              have no2 : f_add_106 x1 I1 A = some o2 → o2.2.1 = upd I1 0 2 ∧ o2.2.2 = A := fun hh => by
                unfold f_add_106 f_add_111 at hh
                obtain ⟨J1, g1, hh⟩ := m_bndE hh
                rcases m_ifE hh with ⟨dd, hh⟩ | ⟨-, hh⟩
                · rw [g1, upd_self] at dd
                  exact absurd dd (by decide)
                · have e9 := (Option.some.inj hh).symm
                  rw [e9]
                  exact ⟨g1, rfl⟩
              have full : ∀ {S9 : ZS}, S9 = S3 → d_X11_add_72 S9 = some o → f_add_106 x1 I1 A = some o2 → FM o2.2.1 o2.2.2 o.2 ∧ ((o.1.1 = 0 ∧ o2.2.1 0 = 0 ∧ o.1.2 = o2.1) ∨ (o.1.1 = 1 ∧ o2.2.1 0 = 1) ∨ (o.1.1 = 3 ∧ o2.2.1 0 = 2)) := fun {S9} es ha hb => by
                rw [es] at ha
                unfold d_X11_add_72 at ha
                have eo : o = ((3, 0), zsQ S3) := (Option.some.inj ha).symm
                obtain ⟨n1, n2⟩ := no2 hb
                refine ⟨thr eo K3 n1 n2 (fun j hj => by rw [upd_ne hj]; exact jj j hj), Or.inr (Or.inr ⟨by rw [eo], by rw [n1]; exact upd_self⟩)⟩
              have r82 : ∀ t0 : Int32, (t0.toInt = 0 ∨ t0.toInt = 1) → t0.toInt = (if tL T c = [] then 0 else 1) → f_add_82 x1 t0 r3 I1 A = some o2 → (tn T = 300 ∧ f_add_106 x1 I1 A = some o2) ∨ (tn T < 300 ∧ (dpx T (hdC T) c : Int) + (if tL T c = [] then 0 else 1) ≤ 6 ∧ f_add_111 x1 0 I1 A = some o2) ∨ (tn T < 300 ∧ 6 < (dpx T (hdC T) c : Int) + (if tL T c = [] then 0 else 1) ∧ f_add_106 x1 I1 A = some o2) := fun t0 ht hte hh => by
                unfold f_add_82 at hh
                obtain ⟨w1, g1, hh⟩ := m_bndE hh
                have s1 : w1.toInt = r3.toInt + t0.toInt := ti_add g1 rfl rfl (by omega) (by omega)
                obtain ⟨-, hh⟩ := m_chkE hh
                obtain ⟨w2, g2, hh⟩ := m_bndE hh
                rw [i5, cl_n (n := (I 5).toInt.toNat) (by omega)] at g2
                have s2 : w2.toInt = (tn T : Int) := by rw [g2]; exact aK_i hA gr.1.1
                rcases m_ifE hh with ⟨dd, hh⟩ | ⟨dd, hh⟩
                · replace dd := ti_eqP (a := w2) (b := (300 : Int32)) dd rfl z300
                  exact Or.inl ⟨by omega, hh⟩
                · replace dd := ti_eqN (a := w2) (b := (300 : Int32)) dd rfl z300
                  rcases m_ifE hh with ⟨de, hh⟩ | ⟨de, hh⟩
                  · replace de := ti_leP (a := w1) (b := (6 : Int32)) de rfl z6
                    exact Or.inr (Or.inl ⟨by omega, by omega, hh⟩)
                  · replace de := ti_leN (a := w1) (b := (6 : Int32)) de rfl z6
                    exact Or.inr (Or.inr ⟨by omega, by omega, hh⟩)
              have R : (tn T = 300 ∧ f_add_106 x1 I1 A = some o2) ∨ (tn T < 300 ∧ (dpx T (hdC T) c : Int) + (if tL T c = [] then 0 else 1) ≤ 6 ∧ f_add_111 x1 0 I1 A = some o2) ∨ (tn T < 300 ∧ 6 < (dpx T (hdC T) c : Int) + (if tL T c = [] then 0 else 1) ∧ f_add_106 x1 I1 A = some o2) := by
                rcases m_ifE hr with ⟨dd, hr⟩ | ⟨dd, hr⟩
                · replace dd := ti_ltP (a := v6) (b := (0 : Int32)) dd rfl z0
                  refine r82 0 (Or.inl rfl) ?_ hr
                  rw [if_pos]
                  · rfl
                  · apply Classical.byContradiction
                    intro hn
                    cases eL : tL T c with
                    | nil => exact hn eL
                    | cons x l =>
                      unfold hdC at t6
                      rw [eL] at t6
                      have t6 : v6.toInt = (x : Int) := t6
                      omega
                · replace dd := ti_ltN (a := v6) (b := (0 : Int32)) dd rfl z0
                  refine r82 1 (Or.inr rfl) ?_ hr
                  rw [if_neg]
                  · rfl
                  · intro hn
                    have := hdC_n.2 hn
                    omega
              -- the class
              obtain ⟨-, hf⟩ := m_chkE hf
              replace hf := m_calY hf p73
              obtain ⟨kg, hf⟩ := m_chkE hf
              have hn3 := (cn_le C3.1 kg).2
              rw [gc3.1.1.1] at hn3
              rcases m_ifE hf with ⟨d7, hf⟩ | ⟨d7, hf⟩
              · replace d7 := ti_leP (a := (300 : Int32)) (b := zI S3 3 g) d7 z300 rfl
                rcases R with ⟨-, R⟩ | ⟨R1, -⟩ | ⟨R1, -⟩
                · exact full rfl hf R
                · omega
                · omega
              · replace d7 := ti_leN (a := (300 : Int32)) (b := zI S3 3 g) d7 z300 rfl
                obtain ⟨-, hf⟩ := m_chkE hf
                replace hf := m_calY hf p73
                obtain ⟨-, hf⟩ := m_chkE hf
                obtain ⟨-, hf⟩ := m_chkE hf
                obtain ⟨⟨y8, S8⟩, h_8, hf⟩ := m_calE hf
                obtain ⟨-, hf⟩ := m_chkE hf
                obtain ⟨e8, q8⟩ := p_deepNext C3 hgg hw gc3.1.1 c13 c3 h_8
                dsimp only at e8 q8 hf
                rw [e8] at hf
                rcases m_ifE hf with ⟨d8, hf⟩ | ⟨d8, hf⟩
                · replace d8 := ti_leP (a := y8) (b := (6 : Int32)) d8 rfl z6
                  rcases R with ⟨R1, -⟩ | ⟨R1, R2, R3⟩ | ⟨R1, R2, -⟩
                  · omega
                  · obtain ⟨-, hf⟩ := m_chkE hf
                    replace hf := m_calY hf p73
                    obtain ⟨-, hf⟩ := m_chkE hf
                    obtain ⟨-, hf⟩ := m_chkE hf
                    obtain ⟨⟨y11, S12⟩, h_11, hf9⟩ := m_cal2E hf
                    rcases p_grow C3 hGG hw gc3.1.1 c13 c3 h_11 with ⟨-, -, gz⟩ | ⟨-, g1, g2, g3, g4, g5⟩
                    · omega
                    · dsimp only at g1 g2 g3 g4 g5
                      have TG : TGk S12 g L := tgk_grow C3.1 M3 hgg gc3.2.2.1 h_11
                      have k1 : zK S3 1 = 11 := fx_k C3.2.2.1 (by decide) (by decide)
                      have nt : ∀ a, a ≤ 108 → a ≠ g → a ≠ g + 3 → a ≠ g + 4 → a ≠ g + 5 → ¬ TCl S3 g a := fun a b1 b2 b3 b4 b5 => tc_no C3 hgg b1 b2 b3 b4 b5
                      have e1c := fr_e g4 (a := 1) (by rw [k1]; decide) (nt 1 (by decide) (by omega) (by omega) (by omega) (by omega))
                      have wt' := wt_gr (p := c) (m := x1.toInt) hw c3 (by omega) xb
                      have lt' := lt_gr (p := c) (m := x1.toInt) hw hl c3 LG
                      have G12 : GMc S12 g L st (grT T c x1.toInt) r := ⟨⟨g3, wt', lt'⟩, bo_fr gc3.2.1 g4 (nt _ (by omega) (by omega) (by omega) (by omega) (by omega)) (nt _ (by omega) (by omega) (by omega) (by omega) (by omega)), TG, gc3.2.2.2.1, by rw [g5 6 (by decide)]; exact gc3.2.2.2.2⟩
                      have B12 : BO S12 107 (posT st T c) := bo_fr bo3 g4 (nt _ (by decide) (by omega) (by omega) (by omega) (by omega)) (nt _ (by decide) (by omega) (by omega) (by omega) (by omega))
                      obtain ⟨x9, x10, x11, x12, x13⟩ := c_add95 g2 hgg ((e1c.2.2.2.1 7).trans p73) G12 B12 pg LG ⟨by omega, by omega⟩ (by rw [g1]; omega) hf9
                      -- the reference
                      unfold f_add_111 at R3
                      obtain ⟨J1, u1, R3⟩ := m_bndE R3
                      have m0 : J1 0 = 0 := by rw [u1, upd_self]
                      have mm : ∀ j, j ≠ 0 → J1 j = I j := fun j hj => by rw [u1, upd_ne hj]; exact jj j hj
                      have hJ1 : TJ J1 := by rw [u1]; exact tj_u hI1 (show (0 : Int) ≤ (0 : Int32).toInt by decide) (show (0 : Int32).toInt ≤ (2 : Int) by decide)
                      have m5 : J1 5 = I 5 := mm 5 (by decide)
                      have m6 : J1 6 = I 6 := mm 6 (by decide)
                      rcases m_ifE R3 with ⟨-, R3⟩ | ⟨du, -⟩
                      · obtain ⟨⟨r7, Ic7, Ac7⟩, h_r7, R3⟩ := m_clE R3
                        obtain ⟨n1, n2, n3, n4, n5, n6⟩ := v_append (g := (I 5).toInt.toNat) (p := c) (by omega) hA hw gr.1.1 (by rw [m5]; omega) (by rw [m6]; exact c2) c3 xb (by omega) h_r7
                        dsimp only at n1 n2 n3 n4 n5 n6 R3
                        rw [n2] at R3
                        have GR : GMr Ac7 (J1 5).toInt.toNat L st (grT T c x1.toInt) r := by
                          rw [m5]
                          refine ⟨⟨n4, wt', lt'⟩, ⟨?_, gr.2.1.2⟩, tgr_e gr.2.2.1 (fun j j1 j2 => n6 j (by omega)), by rw [n6 23 (by decide)]; exact gr.2.2.2⟩
                          have s1 := gr.2.1.1
                          unfold SPo at s1 ⊢
                          rw [n6 16 (by decide), n6 17 (by decide)]
                          exact s1
                        obtain ⟨v1', v2', v3', v4', v5'⟩ := v_add137 (k := tn T + 1) hJ1 n3 (by rw [m5]; exact h5b) GR n1 (Nat.le_refl _) R3
                        refine ⟨⟨hs, g, L, st, grT T c x1.toInt, r, tn T + 1, ⟨x10, x11⟩, v4', ⟨by rw [x12]; exact g1, by rw [v3']; exact n1, Nat.le_refl _⟩, ?_, v5'⟩, Or.inl ⟨by rw [x9], v2'.trans m0, ?_⟩⟩
                        · rw [posT_g1 hw c3 (by omega) xb]
                          exact x13
                        · rw [x9, v1']
                          exact Int32.toInt_inj.1 (g1.trans n1.symm)
                      · exact absurd (show J1 0 ≤ 0 by rw [m0]; decide) du
                  · omega
                · replace d8 := ti_leN (a := y8) (b := (6 : Int32)) d8 rfl z6
                  rcases R with ⟨R1, -⟩ | ⟨R1, R2, -⟩ | ⟨-, -, R3⟩
                  · omega
                  · omega
                  · exact full rfl hf R3
          · replace d5 := ti_eqN (a := y5) (b := (-1 : Int32)) d5 rfl zm
            omega
        · -- the child is there
          obtain ⟨ka, kb, kp⟩ := ((gr.1.1.2.1 c c3).2.2 k).1 km
          rw [(gr.1.1.2.2 k kb).1.1] at kp
          have pk : posT st T k = afO (posT st T c) x1.toInt := by
            rw [posT_s hw ka kb, kM, show (tP T k).toNat = c by omega]
          rcases m_ifE hf with ⟨d5, hf⟩ | ⟨d5, hf⟩
          · replace d5 := ti_eqP (a := y5) (b := (-1 : Int32)) d5 rfl zm
            omega
          · rcases m_ifE hr with ⟨d6, hr⟩ | ⟨d6, hr⟩
            · obtain ⟨x9, x10, x11, x12, x13⟩ := c_add95 C3 hgg p73 gc3 bo3 pg LG ⟨by omega, by omega⟩ (by omega) hf
              obtain ⟨v1', v2', v3', v4', v5'⟩ := v_add137 (k := k) hI1 hA (by rw [i5]; exact h5b) (by rw [i5]; exact gr) (by omega) kb hr
              refine ⟨⟨hs, g, L, st, T, r, k, ⟨x10, x11⟩, v4', ⟨by rw [x12]; omega, by rw [v3']; omega, kb⟩, by rw [pk]; exact x13, v5'⟩, Or.inl ⟨by rw [x9], v2'.trans j0, ?_⟩⟩
              rw [x9, v1']
              exact eq25
            · replace d6 := ti_leN (a := (0 : Int32)) (b := r2) d6 z0 rfl
              omega
      · exact absurd (show I1 0 ≤ 0 by rw [j0]; decide) d3
end ADD
end
section
/-- while the reference writes -/
noncomputable def WIn (I0 : Nat → Int32) (A0 : Nat → Nat → Int32) (I : Nat → Int32) (A : Nat → Nat → Int32) (b : Int) : Prop := (TJ I ∧ TK A) ∧ (I 3).toInt ≤ b ∧ (I 5 = I0 5 ∧ I 6 = I0 6) ∧ ∀ j, 7 ≤ j → j ≤ 23 → A j = A0 j
/-- it ends with its way back to the node -/
noncomputable def WOu (I0 : Nat → Int32) (A0 : Nat → Nat → Int32) (o : Int32 × MS) : Prop := ∃ I1 A1 o3, WIn I0 A0 I1 A1 80000 ∧ f_place (I1 5) (I1 6) I1 A1 = some o3 ∧ o.2 = o3.2
section RDQ
variable {S S' : ZS} {g g' c k p : Nat} {I I' I0 : Nat → Int32} {A A' A0 : Nat → Nat → Int32} {L : List (List Int × List Int)} {st P : PO} {T T' : TRa} {r v b : Int} {x1 x2 x3 : Int32} {o2 : Int32 × MS} {D : Nat → Nat}
theorem fj_q (hR : RIt I A) (qs : QS I A P) : FJ (om P) (osd P) (ort P) (ops P) (txR I A) (I 1).toInt I A := ⟨hR.1, hR.2.1, qs.1.1, qs.1.2.1, qs.1.2.2.1, qs.1.2.2.2, hR.2.2.2.2, rfl, rfl⟩
theorem rit_0 {t : Int32} (hR : RIt I A) (ht : 0 ≤ t.toInt ∧ t.toInt ≤ 2) : RIt (upd I 0 t) A := by
  refine ⟨tj_u hR.1 (show (0 : Int) ≤ t.toInt from ht.1) (show t.toInt ≤ (2 : Int) from ht.2), hR.2.1, ?_⟩
  have h := hR.2.2
  unfold RIv at h ⊢
  rw [upd_ne (by decide), upd_ne (by decide), upd_ne (by decide)]
  exact h
/-- find leaves the reference where it was -/
theorem vq_find (hR : RIt I A) (qs : QS I A P) (pg : PGd P) (hN : 0 ≤ (I 1).toInt ∧ (I 1).toInt ≤ 2000) (hf : f_find I A = some o2) : QS o2.2.1 o2.2.2 P ∧ RSr (om P) (osd P) (ort P) (ops P) (okw P) (okb P) (oko P) (txR I A) 0 (I 1).toInt o2.1.toInt := by
  have fw := fw_find hf
  have hf : f_find_0 I A = some o2 := hf
  unfold f_find_0 at hf
  obtain ⟨I1, e1, hf⟩ := m_bndE hf
  have jj : ∀ j, j ≠ 0 → I1 j = I j := fun j hj => by rw [e1, upd_ne hj]
  have R1 : RIt I1 A := by rw [e1]; exact rit_0 hR (by decide)
  have q1 : QS I1 A P := qs_e qs rfl rfl (fun j hj => jj j (by omega))
  obtain ⟨⟨r2, Ic2, Ac2⟩, h_2, hf⟩ := m_clE hf
  have eo : o2 = (r2, (Ic2, Ac2)) := (Option.some.inj hf).symm
  have J := fj_q R1 q1
  have i1 : I1 1 = I 1 := jj 1 (by decide)
  obtain ⟨a1, a2⟩ := p_understood (ko := oko P) ⟨J, q1.2.1, q1.2.2⟩ pg rfl (by decide) (by rw [i1]; omega) (by rw [i1]; omega) h_2
  obtain ⟨-, -, b3, b4, b5, b6, -⟩ := a1
  dsimp only at b3 b4 b5 b6 a2
  have e33 : o2.2.1 33 = I 33 := fw.1 33 (by decide)
  have e32 : o2.2.2 32 = A 32 := fw.2 32 (by decide)
  refine ⟨⟨?_, ?_, ?_⟩, ?_⟩
  · rw [eo]; exact ⟨b3, b4, b5, b6⟩
  · rw [e33]; exact qs.2.1
  · rw [e32]; exact qs.2.2
  · rw [eo]
    rw [tx_fr (A := A) (A2 := A) i1 rfl, i1] at a2
    exact a2
theorem vs_33 : ∀ (n : Nat) (x2 : Int32) (I : Nat → Int32) (A : Nat → Nat → Int32), f_signs_33 n x2 I A = some o2 → (∀ j, j ≠ 3 → o2.2.1 j = I j) ∧ ∀ j, j ≠ 4 → o2.2.2 j = A j := by
  intro n
  induction n with
  | zero => intro x2 I A hf; cases hf
  | succ n ih =>
    intro x2 I A hf
    have hf : f_signs_33s (f_signs_33 n) x2 I A = some o2 := hf
    unfold f_signs_33s at hf
    rcases m_ifE hf with ⟨-, hf⟩ | ⟨-, hf⟩
    · obtain ⟨I1, e1, hf⟩ := m_bndE hf
      have eo := (Option.some.inj hf).symm
      rw [eo]
      exact ⟨fun j hj => by show I1 j = I j; rw [e1, upd_ne hj], fun _ _ => rfl⟩
    · obtain ⟨-, hf⟩ := m_chkE hf
      obtain ⟨v2, -, hf⟩ := m_bndE hf
      obtain ⟨-, hf⟩ := m_chkE hf
      obtain ⟨A3, e3, hf⟩ := m_bndE hf
      obtain ⟨v4, -, hf⟩ := m_bndE hf
      obtain ⟨a1, a2⟩ := ih _ _ _ hf
      exact ⟨a1, fun j hj => (a2 j hj).trans (by rw [e3]; exact va_up_ne _ _ hj)⟩
/-- signs leaves the reference where it was -/
theorem vq_signs (hR : RIt I A) (qs : QS I A P) (pg : PGd P) (hf : f_signs x1 I A = some o2) : QS o2.2.1 o2.2.2 P := by
  have fw := fw_signs hf
  have hf : f_signs_0 x1 I A = some o2 := hf
  unfold f_signs_0 at hf
  obtain ⟨⟨r1, Ic1, Ac1⟩, h_1, hf⟩ := m_clE hf
  obtain ⟨e1, q1, l1⟩ := v_isLegal hR.1 qs.2 h_1
  have i1 : Ic1 = I := congrArg Prod.fst e1
  have a1 : Ac1 = A := congrArg Prod.snd e1
  dsimp only at q1 l1 hf
  rw [i1, a1] at hf
  rcases m_ifE hf with ⟨-, hf⟩ | ⟨d, hf⟩
  · unfold f_signs_14 at hf
    obtain ⟨I1, f1, hf⟩ := m_bndE hf
    rcases m_ifE hf with ⟨d2, hf⟩ | ⟨-, hf⟩
    · rw [f1, upd_self] at d2
      exact absurd d2 (by decide)
    · have eo := (Option.some.inj hf).symm
      rw [eo]
      exact qs_e qs rfl rfl (fun j hj => by show I1 j = I j; rw [f1, upd_ne (by omega)])
  · have hlk : ∃ key, key < 32768 ∧ LR (om P) (osd P) (ort P) (ops P) (oko P) key ∧ mvk key = x1.toInt := by
      rcases q1 with q | q
      · exact absurd (i32_of q) d
      · exact l1.1 q
    have LG : LGo P x1.toInt := by
      obtain ⟨key, k1, k2, k3⟩ := hlk
      rw [← k3]
      exact (lg_key pg rfl k1 k2).1
    unfold f_signs_14 at hf
    obtain ⟨I1, f1, hf⟩ := m_bndE hf
    have jj : ∀ j, j ≠ 0 → I1 j = I j := fun j hj => by rw [f1, upd_ne hj]
    have R1 : RIt I1 A := by rw [f1]; exact rit_0 hR (by decide)
    have qs1 : QS I1 A P := qs_e qs rfl rfl (fun j hj => jj j (by omega))
    rcases m_ifE hf with ⟨-, hf⟩ | ⟨d2, hf⟩
    · obtain ⟨⟨r2, Ic2, Ac2⟩, h_2, hf⟩ := m_clE hf
      obtain ⟨s1, s2⟩ := vs_33 _ _ _ _ hf
      have h_2 : f_spellWhole_0 x1 I1 A = some (r2, Ic2, Ac2) := h_2
      unfold f_spellWhole_0 at h_2
      obtain ⟨⟨r3, Ic3, Ac3⟩, h_3, h_2⟩ := m_clE h_2
      have e3 := rro_apartOf h_3
      obtain ⟨-, p3⟩ := ok_of (t_apartOf R1.1 R1.2.1 LG.1) h_3
      have i3 : Ic3 = I1 := congrArg Prod.fst e3
      have a3 : Ac3 = A := congrArg Prod.snd e3
      dsimp only at h_2 p3
      rw [i3, a3] at h_2
      obtain ⟨⟨r4, Ic4, Ac4⟩, h_4, h_2⟩ := m_clE h_2
      have e4 := rro_isTaking h_4
      have i4 : Ic4 = I1 := congrArg Prod.fst e4
      have a4 : Ac4 = A := congrArg Prod.snd e4
      obtain ⟨-, b4, -⟩ := ok_of (x_isTaking R1.1 R1.2.1 LG.1 (by rw [qs1.1.1]; exact pg.2.1)) h_4
      dsimp only at h_2 b4
      rw [i4, a4] at h_2
      obtain ⟨⟨r5, Ic5, Ac5⟩, h_5, h_2⟩ := m_clE h_2
      have J5 := fj_sp (fj_q R1 qs1) LG.1 p3 (by omega) h_5
      have f5 := fw_spellMove h_5
      dsimp only at h_2 f5
      obtain ⟨⟨r6, Ic6, Ac6⟩, h_6, h_2⟩ := m_clE h_2
      obtain ⟨j1, j2, j3, j4, j5, j6, j7, -⟩ := J5
      obtain ⟨e6, -⟩ := p_behind (ko := oko P) j1 j2 j3 j4 j5 j6 j7 pg rfl LG h_6
      have i6 : Ic6 = Ic5 := congrArg Prod.fst e6
      have a6 : Ac6 = nA Ic5 Ac5 := congrArg Prod.snd e6
      dsimp only at h_2
      rw [i6, a6] at h_2
      have m6 : mR (nA Ic5 Ac5) = om P := by rw [mR_nA]; exact j3
      have fin : ∀ {I7 : Nat → Int32} {A7 : Nat → Nat → Int32}, (∀ j, j ≠ 36 → I7 j = Ic5 j) → (∀ j, j ≠ 35 → A7 j = nA Ic5 Ac5 j) → Ic2 = I7 → Ac2 = A7 → QS o2.2.1 o2.2.2 P := fun {I7 A7} g1 g2 g3 g4 => by
        have ii : ∀ j, j ≠ 3 → j ≠ 36 → o2.2.1 j = Ic5 j := fun j h3 h36 => by rw [s1 j h3, g3]; exact g1 j h36
        refine ⟨⟨?_, ?_, ?_, ?_⟩, ?_, ?_⟩
        · rw [mR_fr (s2 24 (by decide)), g4, mR_fr (g2 24 (by decide))]; exact m6
        · rw [ii 25 (by decide) (by decide)]; exact j4
        · rw [ii 26 (by decide) (by decide)]; exact j5
        · rw [ii 27 (by decide) (by decide)]; exact j6
        · rw [fw.1 33 (by decide)]; exact qs.2.1
        · rw [fw.2 32 (by decide)]; exact qs.2.2
      rcases m_ifE h_2 with ⟨-, h_2⟩ | ⟨-, h_2⟩
      · unfold f_spellWhole_30 at h_2
        have eo := Option.some.inj h_2
        have g3 : Ic5 = Ic2 := congrArg (fun z => z.2.1) eo
        have g4 : nA Ic5 Ac5 = Ac2 := congrArg (fun z => z.2.2) eo
        exact fin (fun _ _ => rfl) (fun _ _ => rfl) g3.symm g4.symm
      · obtain ⟨⟨r7, Ic7, Ac7⟩, h_7, h_2⟩ := m_clE h_2
        have f7 := fw_spell h_7
        unfold f_spellWhole_30 at h_2
        have eo := Option.some.inj h_2
        have g3 : Ic7 = Ic2 := congrArg (fun z => z.2.1) eo
        have g4 : Ac7 = Ac2 := congrArg (fun z => z.2.2) eo
        dsimp only at f7
        exact fin (fun j hj => f7.1 j (by simpa using hj)) (fun j hj => f7.2 j (by simpa using hj)) g3.symm g4.symm
    · exact absurd (show I1 0 ≤ 0 by rw [f1, upd_self]; decide) d2
/-- while the reference writes -/
theorem wi_m {b2 : Int} (h : WIn I0 A0 I A b) (hb : b ≤ b2) : WIn I0 A0 I A b2 := ⟨h.1, by have := h.2.1; omega, h.2.2⟩
theorem wi_8 (h : WIn I0 A0 I A b) : WIn I0 A0 I A 80000 := ⟨h.1, (show 0 ≤ (I 3).toInt ∧ (I 3).toInt ≤ 80000 from h.1.1 3).2, h.2.2⟩
theorem wi_f (h : WIn I0 A0 I A b) (hI : TJ I') (hA : TK A') {V W : List Nat} (f : FrS V W I A I' A') (h5 : 5 ∉ V) (h6 : 6 ∉ V) (hW : ∀ j ∈ W, j < 7 ∨ 23 < j) {b2 : Int} (hb : (I' 3).toInt ≤ b2) : WIn I0 A0 I' A' b2 := ⟨⟨hI, hA⟩, hb, ⟨(f.1 5 h5).trans h.2.2.1.1, (f.1 6 h6).trans h.2.2.1.2⟩, fun j j1 j2 => (f.2 j (fun hm => by have := hW j hm; omega)).trans (h.2.2.2 j j1 j2)⟩
theorem wi_ink (h : WIn I0 A0 I A b) (hf : f_ink x1 I A = some o2) : WIn I0 A0 o2.2.1 o2.2.2 (b + 1) := by
  have q : (I 3).toInt ≤ 79999 := by
    have b3 : 0 ≤ (I 3).toInt ∧ (I 3).toInt ≤ 80000 := h.1.1 3
    have hf : f_ink_0 x1 I A = some o2 := hf
    unfold f_ink_0 at hf
    obtain ⟨d, -⟩ := m_chkE hf
    rw [cl_n (n := (I 3).toInt.toNat) (by omega)] at d
    have : ¬ 80000 ≤ (I 3).toInt.toNat := fun e => d (Or.inr e)
    omega
  obtain ⟨a1, a2, a3⟩ := ok_of (t_ink h.1.1 h.1.2 q) hf
  exact wi_f h a1 a2 (fw_ink hf) (by decide) (by decide) (by decide) (by rw [a3]; have := h.2.1; omega)
theorem wo_280 : ∀ (n : Nat) (x1 : Int32) (I : Nat → Int32) (A : Nat → Nat → Int32), WIn I0 A0 I A 80000 → f_write_280 n x1 I A = some o2 → WOu I0 A0 o2 := by
  intro n
  induction n with
  | zero => intro x1 I A _ hf; cases hf
  | succ n ih =>
    intro x1 I A w hf
    have hf : f_write_280s (f_write_280 n) x1 I A = some o2 := hf
    unfold f_write_280s at hf
    obtain ⟨-, hf⟩ := m_chkE hf
    obtain ⟨v1, -, hf⟩ := m_bndE hf
    obtain ⟨r2, -, hf⟩ := m_clR hf (fun _ h => rro_resultSize h)
    rcases m_ifE hf with ⟨-, hf⟩ | ⟨-, hf⟩
    · obtain ⟨⟨r3, Ic3, Ac3⟩, h_3, hf⟩ := m_clE hf
      have eo := (Option.some.inj hf).symm
      exact ⟨I, A, _, w, h_3, by rw [eo]⟩
    · obtain ⟨-, hf⟩ := m_chkE hf
      obtain ⟨v4, -, hf⟩ := m_bndE hf
      obtain ⟨r5, -, hf⟩ := m_clR hf (fun _ h => rro_resultSign h)
      obtain ⟨⟨r6, Ic6, Ac6⟩, h_6, hf⟩ := m_clE hf
      obtain ⟨v7, -, hf⟩ := m_bndE hf
      exact ih _ _ _ (wi_8 (wi_ink w h_6)) hf
theorem wo_238 (hT : TRE A0 (I0 5).toInt.toNat) (h5 : 0 ≤ (I0 5).toInt) (w : WIn I0 A0 I A 1950) (hf : f_write_238 I A = some o2) : WOu I0 A0 o2 := by
  unfold f_write_238 at hf
  obtain ⟨v1, e1, hf⟩ := m_bndE hf
  obtain ⟨-, hf⟩ := m_chkE hf
  obtain ⟨v2, -, hf⟩ := m_bndE hf
  rcases m_ifE hf with ⟨-, hf⟩ | ⟨-, hf⟩
  · unfold f_write_278 at hf
    exact wo_280 _ _ _ _ (wi_8 w) hf
  · obtain ⟨v3, e3, hf⟩ := m_bndE hf
    obtain ⟨-, hf⟩ := m_chkE hf
    obtain ⟨v4, e4, hf⟩ := m_bndE hf
    obtain ⟨⟨r5, Ic5, Ac5⟩, h_5, hf⟩ := m_clE hf
    have b5 : 0 ≤ (I 5).toInt ∧ (I 5).toInt ≤ 1 := w.1.1 5
    have i5 := w.2.2.1.1
    have t3 : v3.toInt = 301 * (I 5).toInt := ti_mul e3 (show (301 : Int32).toInt = 301 from rfl) rfl (by omega) (by omega)
    rw [cl_n (n := 301 * (I 5).toInt.toNat) (by omega)] at e4
    have tre : TRE A (I 5).toInt.toNat := by
      rw [i5]
      exact TRE_fr (w.2.2.2 7 (by decide) (by decide)) (w.2.2.2 8 (by decide) (by decide)) (w.2.2.2 9 (by decide) (by decide)) (w.2.2.2 10 (by decide) (by decide)) (w.2.2.2 11 (by decide) (by decide)) hT
    obtain ⟨a1, a2, a3⟩ := ok_of (t_sayLine (gg := (I 5).toInt.toNat) (cc := 1950) w.1.1 w.1.2 tre (by omega) (by rw [e4]; rfl) rfl ⟨w.2.1, by decide⟩) h_5
    obtain ⟨⟨r6, Ic6, Ac6⟩, h_6, hf⟩ := m_clE hf
    unfold f_write_278 at hf
    have w5 : WIn I0 A0 Ic5 Ac5 80000 := wi_8 (wi_f w a1 a2 (fw_sayLine h_5) (by decide) (by decide) (by decide) a3)
    exact wo_280 _ _ _ _ (wi_8 (wi_ink w5 h_6)) hf
theorem wo_204 (hT : TRE A0 (I0 5).toInt.toNat) (h5 : 0 ≤ (I0 5).toInt) (w : WIn I0 A0 I A 1730) (hf : f_write_204 I A = some o2) : WOu I0 A0 o2 := by
  unfold f_write_204 at hf
  obtain ⟨v1, e1, hf⟩ := m_bndE hf
  obtain ⟨-, hf⟩ := m_chkE hf
  obtain ⟨v2, -, hf⟩ := m_bndE hf
  rcases m_ifE hf with ⟨-, hf⟩ | ⟨-, hf⟩
  · exact wo_238 hT h5 (wi_m w (by decide)) hf
  · obtain ⟨v3, e3, hf⟩ := m_bndE hf
    obtain ⟨⟨r4, Ic4, Ac4⟩, h_4, hf⟩ := m_clE hf
    have b5 : 0 ≤ (I 5).toInt ∧ (I 5).toInt ≤ 1 := w.1.1 5
    have t3 : v3.toInt = 301 * (I 5).toInt := ti_mul e3 (show (301 : Int32).toInt = 301 from rfl) rfl (by omega) (by omega)
    obtain ⟨a1, a2, a3⟩ := ok_of (t_sayRemark (cc := 1730) w.1.1 w.1.2 (by omega) ⟨w.2.1, by decide⟩) h_4
    have w4 : WIn I0 A0 Ic4 Ac4 1932 := wi_f w a1 a2 (fw_sayRemark h_4) (by decide) (by decide) (by decide) a3
    obtain ⟨⟨r5, Ic5, Ac5⟩, h_5, hf⟩ := m_clE hf
    exact wo_238 hT h5 (wi_m (wi_ink w4 h_5) (by decide)) hf
theorem wo_94 {self12 : Int32 → (Nat → Int32) → (Nat → Nat → Int32) → Option (Int32 × MS)} (hs : ∀ (x1 : Int32) (I : Nat → Int32) (A : Nat → Nat → Int32), (0 ≤ x1.toInt ∧ x1.toInt ≤ 8) → WIn I0 A0 I A (215 * x1.toInt) → self12 x1 I A = some o2 → WOu I0 A0 o2) (h1 : 0 ≤ x1.toInt ∧ x1.toInt ≤ 7) : ∀ (n : Nat) (x2 : Int32) (I : Nat → Int32) (A : Nat → Nat → Int32), (0 ≤ x2.toInt ∧ x2.toInt ≤ 96) → WIn I0 A0 I A (215 * x1.toInt + 15 + 2 * x2.toInt) → f_write_94 self12 n x1 x2 I A = some o2 → WOu I0 A0 o2 := by
  intro n
  induction n with
  | zero => intro x2 I A _ _ hf; cases hf
  | succ n ih =>
    intro x2 I A h2 w hf
    have hf : f_write_94s self12 (f_write_94 self12 n) x1 x2 I A = some o2 := hf
    unfold f_write_94s at hf
    obtain ⟨v1, e1, hf⟩ := m_bndE hf
    obtain ⟨v2, e2, hf⟩ := m_bndE hf
    obtain ⟨-, hf⟩ := m_chkE hf
    obtain ⟨v3, e3, hf⟩ := m_bndE hf
    have b3 : 0 ≤ v3.toInt ∧ v3.toInt ≤ 96 := by rw [e3]; exact w.1.2 21 _
    have r151 : ∀ {I A}, x2.toInt < 96 → ∀ y : Int32, WIn I0 A0 I A (215 * x1.toInt + 15 + 2 * x2.toInt + 1) → f_write_151 self12 (f_write_94 self12 n) x1 x2 y I A = some o2 → WOu I0 A0 o2 := fun {I A} hx y w hh => by
      unfold f_write_151 at hh
      obtain ⟨⟨r1, Ic1, Ac1⟩, h_1, hh⟩ := m_clE hh
      obtain ⟨v9, e9, hh⟩ := m_bndE hh
      have t9 : v9.toInt = x2.toInt + 1 := ti_add e9 rfl (show (1 : Int32).toInt = 1 from rfl) (by omega) (by omega)
      exact ih v9 Ic1 Ac1 (by omega) (wi_m (wi_ink w h_1) (by omega)) hh
    have r145 : x2.toInt < 96 → ∀ y : Int32, f_write_145 self12 (f_write_94 self12 n) x1 x2 y I A = some o2 → WOu I0 A0 o2 := fun hx y hh => by
      unfold f_write_145 at hh
      obtain ⟨⟨r1, Ic1, Ac1⟩, h_1, hh⟩ := m_clE hh
      exact r151 hx y (wi_ink w h_1) hh
    rcases m_ifE hf with ⟨d, hf⟩ | ⟨d, hf⟩
    · obtain ⟨⟨r4, Ic4, Ac4⟩, h_4, hf⟩ := m_clE hf
      obtain ⟨⟨r5, Ic5, Ac5⟩, h_5, hf⟩ := m_clE hf
      obtain ⟨⟨r6, Ic6, Ac6⟩, h_6, hf⟩ := m_clE hf
      obtain ⟨v7, e7, hf⟩ := m_bndE hf
      have t7 : v7.toInt = x1.toInt + 1 := ti_add e7 rfl (show (1 : Int32).toInt = 1 from rfl) (by omega) (by omega)
      exact hs v7 Ic6 Ac6 (by omega) (wi_m (wi_ink (wi_ink (wi_ink w h_4) h_5) h_6) (by omega)) hf
    · replace d := ti_leN (a := v3) (b := x2) d rfl rfl
      obtain ⟨v8, -, hf⟩ := m_bndE hf
      obtain ⟨v9, -, hf⟩ := m_bndE hf
      obtain ⟨v10, -, hf⟩ := m_bndE hf
      obtain ⟨v11, -, hf⟩ := m_bndE hf
      obtain ⟨-, hf⟩ := m_chkE hf
      obtain ⟨v12, -, hf⟩ := m_bndE hf
      rcases m_ifE hf with ⟨-, hf⟩ | ⟨-, hf⟩
      · exact r145 (by omega) _ hf
      · rcases m_ifE hf with ⟨-, hf⟩ | ⟨-, hf⟩
        · exact r145 (by omega) _ hf
        · exact r151 (by omega) _ (wi_m w (by omega)) hf
theorem wo_33 {self12 : Int32 → (Nat → Int32) → (Nat → Nat → Int32) → Option (Int32 × MS)} (hs : ∀ (x1 : Int32) (I : Nat → Int32) (A : Nat → Nat → Int32), (0 ≤ x1.toInt ∧ x1.toInt ≤ 8) → WIn I0 A0 I A (215 * x1.toInt) → self12 x1 I A = some o2 → WOu I0 A0 o2) (h1 : 0 ≤ x1.toInt ∧ x1.toInt ≤ 7) : ∀ (n : Nat) (x2 : Int32) (I : Nat → Int32) (A : Nat → Nat → Int32), (0 ≤ x2.toInt ∧ x2.toInt ≤ 12) → WIn I0 A0 I A (215 * x1.toInt + 1 + x2.toInt) → f_write_33 self12 n x1 x2 I A = some o2 → WOu I0 A0 o2 := by
  intro n
  induction n with
  | zero => intro x2 I A _ _ hf; cases hf
  | succ n ih =>
    intro x2 I A h2 w hf
    have hf : f_write_33s self12 (f_write_33 self12 n) x1 x2 I A = some o2 := hf
    unfold f_write_33s at hf
    obtain ⟨v1, e1, hf⟩ := m_bndE hf
    obtain ⟨v2, e2, hf⟩ := m_bndE hf
    obtain ⟨-, hf⟩ := m_chkE hf
    obtain ⟨v3, e3, hf⟩ := m_bndE hf
    have b3 : 0 ≤ v3.toInt ∧ v3.toInt ≤ 12 := by rw [e3]; exact w.1.2 19 _
    rcases m_ifE hf with ⟨d, hf⟩ | ⟨d, hf⟩
    · obtain ⟨⟨r4, Ic4, Ac4⟩, h_4, hf⟩ := m_clE hf
      obtain ⟨⟨r5, Ic5, Ac5⟩, h_5, hf⟩ := m_clE hf
      have z0 : (0 : Int32).toInt = 0 := rfl
      exact wo_94 hs h1 mFuel 0 Ic5 Ac5 (by decide) (wi_m (wi_ink (wi_ink w h_4) h_5) (by omega)) hf
    · replace d := ti_leN (a := v3) (b := x2) d rfl rfl
      obtain ⟨v6, -, hf⟩ := m_bndE hf
      obtain ⟨v7, -, hf⟩ := m_bndE hf
      obtain ⟨v8, -, hf⟩ := m_bndE hf
      obtain ⟨v9, -, hf⟩ := m_bndE hf
      obtain ⟨-, hf⟩ := m_chkE hf
      obtain ⟨v10, -, hf⟩ := m_bndE hf
      obtain ⟨⟨r11, Ic11, Ac11⟩, h_11, hf⟩ := m_clE hf
      obtain ⟨v12, e12, hf⟩ := m_bndE hf
      have t12 : v12.toInt = x2.toInt + 1 := ti_add e12 rfl (show (1 : Int32).toInt = 1 from rfl) (by omega) (by omega)
      exact ih v12 Ic11 Ac11 (by omega) (wi_m (wi_ink w h_11) (by omega)) hf
theorem wo_12 (hT : TRE A0 (I0 5).toInt.toNat) (h5 : 0 ≤ (I0 5).toInt) : ∀ (n : Nat) (x1 : Int32) (I : Nat → Int32) (A : Nat → Nat → Int32), (0 ≤ x1.toInt ∧ x1.toInt ≤ 8) → WIn I0 A0 I A (215 * x1.toInt) → f_write_12 n x1 I A = some o2 → WOu I0 A0 o2 := by
  intro n
  induction n with
  | zero => intro x1 I A _ _ hf; cases hf
  | succ n ih =>
    intro x1 I A h1 w hf
    have hf : f_write_12s (f_write_12 n) x1 I A = some o2 := hf
    unfold f_write_12s at hf
    obtain ⟨-, hf⟩ := m_chkE hf
    obtain ⟨v1, e1, hf⟩ := m_bndE hf
    have b1 : 0 ≤ v1.toInt ∧ v1.toInt ≤ 8 := by rw [e1]; exact w.1.2 18 _
    rcases m_ifE hf with ⟨d, hf⟩ | ⟨d, hf⟩
    · obtain ⟨-, hf⟩ := m_chkE hf
      obtain ⟨v2, -, hf⟩ := m_bndE hf
      rcases m_ifE hf with ⟨-, hf⟩ | ⟨-, hf⟩
      · exact wo_204 hT h5 (wi_m w (by omega)) hf
      · obtain ⟨⟨r3, Ic3, Ac3⟩, h_3, hf⟩ := m_clE hf
        exact wo_204 hT h5 (wi_m (wi_ink w h_3) (by omega)) hf
    · replace d := ti_leN (a := v1) (b := x1) d rfl rfl
      obtain ⟨⟨r4, Ic4, Ac4⟩, h_4, hf⟩ := m_clE hf
      have z0 : (0 : Int32).toInt = 0 := rfl
      exact wo_33 ih (by omega) mFuel 0 Ic4 Ac4 (by decide) (wi_m (wi_ink w h_4) (by omega)) hf
/-- write brings the reference back to its node -/
theorem vq_write (hR : RIt I A) (gr : GMr A (I 5).toInt.toNat L st T r) (h6 : (I 6).toInt = (c : Int)) (hc : c ≤ tn T) (hf : f_write I A = some o2) : QS o2.2.1 o2.2.2 (posT st T c) := by
  have hf : f_write_0 I A = some o2 := hf
  have b5 : 0 ≤ (I 5).toInt ∧ (I 5).toInt ≤ 1 := hR.1 5
  unfold f_write_0 at hf
  obtain ⟨I1, e1, hf⟩ := m_bndE hf
  obtain ⟨I2, e2, hf⟩ := m_bndE hf
  have t1 : TJ I1 := by rw [e1]; exact tj_u hR.1 (show (0 : Int) ≤ (0 : Int32).toInt by decide) (show (0 : Int32).toInt ≤ (2 : Int) by decide)
  have t2 : TJ I2 := by rw [e2]; exact tj_u t1 (show (0 : Int) ≤ (0 : Int32).toInt by decide) (show (0 : Int32).toInt ≤ (80000 : Int) by decide)
  have w : WIn I A I2 A (215 * (0 : Int32).toInt) := by
    refine ⟨⟨t2, hR.2.1⟩, ?_, ⟨?_, ?_⟩, fun _ _ _ => rfl⟩
    · rw [e2, upd_self]; decide
    · rw [e2, upd_ne (by decide), e1, upd_ne (by decide)]
    · rw [e2, upd_ne (by decide), e1, upd_ne (by decide)]
  obtain ⟨I3, A3, o3, w3, h3, eo⟩ := wo_12 hR.2.2.1 b5.1 mFuel 0 I2 A (by decide) w hf
  obtain ⟨⟨j1, j2⟩, -, ⟨j5, j6⟩, jA⟩ := w3
  obtain ⟨qn, -⟩ := qs_place (k := c) j1 j2 (by rw [j5]; exact b5) (by rw [j5]; exact gmr_7 (by omega) gr jA) (by rw [j6]; exact h6) hc h3
  rw [eo]
  exact qn
/-- read ends with its way to the node -/
theorem vq_read (hR : RIt I A) (hf : f_read I A = some o2) : ∃ I1 A1 o3, (TJ I1 ∧ TK A1) ∧ f_place (I1 5) (I1 6) I1 A1 = some o3 ∧ o2.2 = o3.2 := by
  obtain ⟨hI, hA, ht, -⟩ := hR
  have b5 : 0 ≤ (I 5).toInt ∧ (I 5).toInt ≤ 1 := hI 5
  have hf : f_read_0 I A = some o2 := hf
  unfold f_read_0 at hf
  obtain ⟨I1, e1, hf⟩ := m_bndE hf
  have hI1 : TJ I1 := by rw [e1]; exact tj_u hI (show (0 : Int) ≤ (0 : Int32).toInt by decide) (show (0 : Int32).toInt ≤ (2 : Int) by decide)
  have j5 : I1 5 = I 5 := by rw [e1, upd_ne (by decide)]
  obtain ⟨v2, e2, hf⟩ := m_bndE hf
  have t2 : v2.toInt = 1 - (I1 5).toInt := ti_sub e2 (show (1 : Int32).toInt = 1 from rfl) rfl (by rw [j5]; omega) (by rw [j5]; omega)
  rw [j5] at t2
  obtain ⟨⟨r3, Ic3, Ac3⟩, h_r3, hf⟩ := m_clE hf
  obtain ⟨hI3, hA3, c0, cH, c2, c3⟩ := ok_of (t_clearGame2 (gg := 1 - (I 5).toInt.toNat) (x1 := v2) hI1 hA (by omega) (by omega)) h_r3
  dsimp only at hI3 hA3 c0 cH c2 c3 hf
  have th3 : TRH Ac3 (I 5).toInt.toNat (aK A (I 5).toInt.toNat) := cH _ _ (by omega) (by omega) ⟨ht, rfl⟩
  obtain ⟨⟨r4, Ic4, Ac4⟩, h_r4, hf⟩ := m_clE hf
  obtain ⟨hI4, hA4, u0⟩ := ok_of (t_usual (x1 := v2) hI3 hA3 (by omega)) h_r4
  have f_r4 := fw_usual h_r4
  dsimp only at hI4 hA4 u0 f_r4 hf
  have k41 : TRE Ac4 (1 - (I 5).toInt.toNat) := TRE_fr (f_r4.2 7 (by decide)) (f_r4.2 8 (by decide)) (f_r4.2 9 (by decide)) (f_r4.2 10 (by decide)) (f_r4.2 11 (by decide)) c0
  have k42 : lnk Ac4 (1 - (I 5).toInt.toNat) 0 0 := lnk_fr (f_r4.2 7 (by decide)) (f_r4.2 8 (by decide)) (f_r4.2 10 (by decide)) c2
  have k43 : leaf Ac4 (1 - (I 5).toInt.toNat) 0 := leaf_fr (f_r4.2 10 (by decide)) c3
  have k44 : TRH Ac4 (I 5).toInt.toNat (aK A (I 5).toInt.toNat) := TRH_fr (f_r4.2 7 (by decide)) (f_r4.2 8 (by decide)) (f_r4.2 9 (by decide)) (f_r4.2 10 (by decide)) (f_r4.2 11 (by decide)) th3
  obtain ⟨⟨r5, Ic5, Ac5⟩, h_r5, hf⟩ := m_clE hf
  obtain ⟨hI5, hA5, -⟩ := ok_of (t_readGame (x1 := v2) (gg := 1 - (I 5).toInt.toNat) (hh := (I 5).toInt.toNat) (nb := aK A (I 5).toInt.toNat) hI4 hA4 (by omega) (by omega) k41 k44 (by omega) ⟨by omega, by omega⟩ k42 k43) h_r5
  dsimp only at hI5 hA5 hf
  have fin : ∀ {I9 : Nat → Int32}, TJ I9 → f_read_47 r5 I9 Ac5 = some o2 → ∃ I1 A1 o3, (TJ I1 ∧ TK A1) ∧ f_place (I1 5) (I1 6) I1 A1 = some o3 ∧ o2.2 = o3.2 := fun {I9} h9 hh => by
    unfold f_read_47 at hh
    obtain ⟨⟨r1, Ic1, Ac1⟩, h_1, hh⟩ := m_clE hh
    have eo := (Option.some.inj hh).symm
    exact ⟨I9, Ac5, _, ⟨h9, hA5⟩, h_1, by rw [eo]⟩
  rcases m_ifE hf with ⟨-, hf⟩ | ⟨-, hf⟩
  · obtain ⟨I6, e6, hf⟩ := m_bndE hf
    obtain ⟨I7, e7, hf⟩ := m_bndE hf
    obtain ⟨I8, e8, hf⟩ := m_bndE hf
    have t6 : TJ I6 := by rw [e6]; exact tj_u hI5 (show (0 : Int) ≤ v2.toInt by omega) (show v2.toInt ≤ (1 : Int) by omega)
    have t7 : TJ I7 := by rw [e7]; exact tj_u t6 (show (0 : Int) ≤ (0 : Int32).toInt by decide) (show (0 : Int32).toInt ≤ (300 : Int) by decide)
    have t8 : TJ I8 := by rw [e8]; exact tj_u t7 (show (0 : Int) ≤ (0 : Int32).toInt by decide) (show (0 : Int32).toInt ≤ (2000 : Int) by decide)
    exact fin t8 hf
  · exact fin hI5 hf
/-- the other game of the reference, while one is read -/
theorem gmr_rdf {g0 : Nat} (h : GMr A g0 L st T r) (hg0 : g0 ≤ 1) (hg : g ≤ 1) (hne : g0 ≠ g) (D : RDf A A' g) : GMr A' g0 L st T r := by
  obtain ⟨⟨⟨t1, t2, t3⟩, hw, hl⟩, ⟨sp, sp2⟩, tg, hr⟩ := h
  have h3 := hw.1
  have E : ∀ j, 8 ≤ j → j ≤ 14 → j ≠ 13 → ∀ k, k ≤ tn T → A' j (301 * g0 + k) = A j (301 * g0 + k) := fun j j1 j2 j3 k hk => by
    refine D.2 j (by omega) (by omega) _ ?_
    have e : sz j = 301 := by
      unfold sz
      rw [if_neg (by omega), if_neg (by omega), if_neg (by omega), if_neg (by omega), if_neg (by omega), if_neg (by omega), if_neg (by omega), if_neg (by omega)]
    rw [e]
    omega
  have e8 : ∀ k, k ≤ tn T → aP A' g0 k = aP A g0 k := fun k hk => by unfold aP; rw [E 8 (by decide) (by decide) (by decide) k hk]
  have e9 : ∀ k, k ≤ tn T → aM A' g0 k = aM A g0 k := fun k hk => by unfold aM; rw [E 9 (by decide) (by decide) (by decide) k hk]
  have e10 : ∀ k, k ≤ tn T → aC A' g0 k = aC A g0 k := fun k hk => by unfold aC; rw [E 10 (by decide) (by decide) (by decide) k hk]
  have e11 : ∀ k, k ≤ tn T → aN A' g0 k = aN A g0 k := fun k hk => by unfold aN; rw [E 11 (by decide) (by decide) (by decide) k hk]
  refine ⟨⟨⟨?_, fun p hp => ?_, fun k hk => ?_⟩, hw, hl⟩, ⟨?_, sp2⟩, tgr_rdf tg hg0 hg hne D, ?_⟩
  · unfold aK
    rw [D.2 7 (by decide) (by decide) g0 (by rw [show sz 7 = 1 from rfl, Nat.div_one]; exact hne)]
    exact t1
  · obtain ⟨a1, a2, a3⟩ := t2 p hp
    refine ⟨?_, a2, fun k => (a3 k).trans ⟨fun ⟨b1, b2, b3⟩ => ⟨b1, b2, by rw [e8 k b2]; exact b3⟩, fun ⟨b1, b2, b3⟩ => ⟨b1, b2, by rw [← e8 k b2]; exact b3⟩⟩⟩
    rw [e10 p hp]
    exact chn_congr (fun k hk => e11 k ((a3 k).1 hk).2.1) a1
  · obtain ⟨b1, ⟨b2, b3⟩, b4, b5⟩ := t3 k hk
    have l4 := hw.2.2.1 k
    rw [e8 k hk, e9 k hk]
    refine ⟨b1, ⟨by rw [E 12 (by decide) (by decide) (by decide) k hk]; exact b2, fun i hi => ?_⟩, by rw [E 14 (by decide) (by decide) (by decide) k hk]; exact b4, fun i hi => ?_⟩
    · rw [D.2 13 (by decide) (by decide) _ (by rw [show sz 13 = 1204 from rfl]; omega)]
      exact b3 i hi
    · rw [D.2 15 (by decide) (by decide) _ (by rw [show sz 15 = 60200 from rfl]; omega)]
      exact b5 i hi
  · obtain ⟨s1, s2, s3, s4, s5⟩ := sp
    have E17 : ∀ i : Int, 0 ≤ i → i < 5 → A' 17 (5 * (g0 : Int) + i).toNat = A 17 (5 * (g0 : Int) + i).toNat := fun i i0 i1 => D.2 17 (by decide) (by decide) _ (by rw [show sz 17 = 5 from rfl]; omega)
    refine ⟨fun s q0 q1 => ?_, ?_, ?_, ?_, ?_⟩
    · rw [D.2 16 (by decide) (by decide) _ (by rw [show sz 16 = 64 from rfl]; omega)]
      exact s1 s q0 q1
    · have := E17 0 (by decide) (by decide)
      rw [Int.add_zero] at this
      rw [this]; exact s2
    · rw [E17 1 (by decide) (by decide)]; exact s3
    · rw [E17 2 (by decide) (by decide)]; exact s4
    · rw [E17 4 (by decide) (by decide)]; exact s5
  · rw [D.2 23 (by decide) (by decide) g0 (by rw [show sz 23 = 1 from rfl, Nat.div_one]; exact hne)]
    exact hr
/-- the game that stands, while another is read: the class -/
theorem gmc_kp (hC : CG S) (hg : g = 35 ∨ g = 99) (h : GMc S g L st T r) (hE : ∀ a, zK S a < 18 → a ≠ 23 → KPc S g a → EQc S S' a) : GMc S' g L st T r := by
  obtain ⟨⟨tr, hw, hl⟩, bo, tg, lb, hr⟩ := h
  obtain ⟨⟨kg, -⟩, ⟨kb, ka, k3, k4, k5, k6, -⟩, -⟩ := fx_g hC.2.2.1 hg
  have K : ∀ a, g ≤ a → a ≤ g + 7 → KPc S g a := fun a h1 h2 => Or.inr (Or.inr (Or.inr (Or.inr (Or.inl ⟨h1, h2⟩))))
  have eg := hE g (by rw [kg]; decide) (by omega) (K _ (by omega) (by omega))
  refine ⟨⟨trc_e hC hg tr (fun a ha => ?_), hw, hl⟩, bo_e bo (hE _ (by rw [kb]; decide) (by omega) (K _ (by omega) (by omega))) (hE (g + 2) (by rw [ka]; decide) (by omega) (K _ (by omega) (by omega))), tgk_e hC hg tg eg (hE _ (by rw [k6]; decide) (by omega) (K _ (by omega) (by omega))) (fun i t ht => ?_), lb, by rw [eg.2.2.1]; exact hr⟩
  · have lt := tc_lt hC hg ha
    rcases ha with e | e | e | e | ⟨i, n, e1, e2⟩
    · exact hE a lt (by omega) (K _ (by omega) (by omega))
    · exact hE a lt (by omega) (K _ (by omega) (by omega))
    · exact hE a lt (by omega) (K _ (by omega) (by omega))
    · exact hE a lt (by omega) (K _ (by omega) (by omega))
    · have := ((gm_of hC hg).1 i n e1).1
      exact hE a lt (by omega) (Or.inr (Or.inr (Or.inr (Or.inr (Or.inr (Or.inl ⟨i, n, e1, e2⟩))))))
  · obtain ⟨b1, -, -, -, b5, b6⟩ := (gm_of hC hg).2 i t ht
    exact ⟨hE _ (by rw [b5]; decide) (by omega) (Or.inr (Or.inr (Or.inr (Or.inr (Or.inr (Or.inr ⟨i, t, ht, by omega⟩)))))), hE _ (by rw [b6]; decide) (by omega) (Or.inr (Or.inr (Or.inr (Or.inr (Or.inr (Or.inr ⟨i, t, ht, by omega⟩))))))⟩
/-- read on both sides -/
theorem fm_read {o : Int32 × ZS} (hC : CG S) (hR : RIt I A) (h : FM I A S) (h2 : f_read I A = some o2) (ho : d_X11_read 1 S = some o) : FM o2.2.1 o2.2.2 o.2 := by
  obtain ⟨hm, g', L0, st0, T0, r0, c, w⟩ := h
  obtain ⟨⟨p7, gc⟩, gr, ⟨c1, c2, c3⟩, bo, qs⟩ := id w
  have hI := hR.1
  have hA := hR.2.1
  have hs := sm_read hC hI hA hm h2 ho
  refine ⟨hs, ?_⟩
  obtain ⟨g, g2, hg, p3, p72⟩ := hm.1.2
  rw [p7] at p72
  cases p72
  have wb := hm.2.2.2
  have b5 : 0 ≤ (I 5).toInt ∧ (I 5).toInt ≤ 1 := hI 5
  have hgr : g' = 35 ∨ g' = 99 := gg_g (gg_s hg)
  obtain ⟨I1, A1, o3, ⟨t1, t2⟩, hp, eo⟩ := vq_read hR h2
  have fp := fw_place hp
  have e5 : o2.2.1 5 = I1 5 := by rw [eo]; exact fp.1 5 (by decide)
  have e6 : o2.2.1 6 = I1 6 := by rw [eo]; exact fp.1 6 (by decide)
  have eA : ∀ j, 7 ≤ j → j ≤ 23 → A1 j = o2.2.2 j := fun j j1 j2 => by
    rw [eo]
    exact (fp.2 j (by simp only [List.mem_cons, List.not_mem_nil, or_false]; omega)).symm
  have pl : ∀ {L st T r} {k : Nat}, GMr o2.2.2 (o2.2.1 5).toInt.toNat L st T r → (o2.2.1 6).toInt = (k : Int) → k ≤ tn T → QS o2.2.1 o2.2.2 (posT st T k) := fun {L st T r k} G h6 hk => by
    have b15 : 0 ≤ (I1 5).toInt ∧ (I1 5).toInt ≤ 1 := t1 5
    obtain ⟨qn, -⟩ := qs_place (k := k) t1 t2 b15 (by rw [e5] at G; exact gmr_7 (by omega) G eA) (by rw [← e6]; exact h6) hk hp
    rw [eo]
    exact qn
  rcases p_read hC hg p3 p7 hm.2 ho with ⟨L, st, T, r, a1, a2, a3, a4, a5, a6, a7, a8, a9⟩ | ⟨a1, a2, a3⟩
  · rcases v_read (g := 1 - (I 5).toInt.toNat) hI hA rfl rfl wb.1 wb.2 (by omega) (by omega) h2 with ⟨L', st', T', r', b1, b2, b3, b4, b5', b6⟩ | ⟨b1, -⟩
    · rw [a1] at b1
      cases b1
      have e5' : (o2.2.1 5).toInt.toNat = 1 - (I 5).toInt.toNat := by omega
      rw [← e5'] at b6
      exact ⟨g, L, st, T, r, 0, ⟨a5, a7⟩, b6, ⟨a8, b5', Nat.zero_le _⟩, a9, pl b6 b5' (Nat.zero_le _)⟩
    · rw [a1] at b1; cases b1
  · rcases v_read (g := 1 - (I 5).toInt.toNat) hI hA rfl rfl wb.1 wb.2 (by omega) (by omega) h2 with ⟨L', st', T', r', b1, -⟩ | ⟨b1, b2, b3, b4, b5', b6'⟩
    · rw [a1] at b1; cases b1
    · have D := rdt_read (g := 1 - (I 5).toInt.toNat) hI hA rfl rfl wb.1 wb.2 (by omega) (by omega) h2
      have K : ∀ a, zK S a < 18 → a ≠ 23 → KPc S g' a → EQc S o.2 a := fun a ha hn hk => eqc_t (eqc_P rfl hn) (fr_e a3 ha (fun hh => hh hk))
      have k1 : zK S 1 = 11 := fx_k hC.2.2.1 (by decide) (by decide)
      have ee := K 1 (by rw [k1]; decide) (by decide) (Or.inl ⟨by decide, by decide⟩)
      have k107 : zK S 107 = 0 := fx_k hC.2.2.1 (by decide) (by decide)
      have k108 : zK S 108 = 14 := fx_k hC.2.2.1 (by decide) (by decide)
      have G : GMr o2.2.2 (o2.2.1 5).toInt.toNat L0 st0 T0 r0 := by
        rw [b5']
        exact gmr_rdf gr (by omega) (by omega) (by omega) D
      exact ⟨g', L0, st0, T0, r0, c, ⟨(ee.2.2.2.1 7).trans p7, gmc_kp hC hgr gc K⟩, G, ⟨by rw [ee.2.2.1 8]; exact c1, by rw [b6']; exact c2, c3⟩, bo_e bo (K 107 (by rw [k107]; decide) (by decide) (Or.inr (Or.inr (Or.inl rfl)))) (K 108 (by rw [k108]; decide) (by decide) (Or.inr (Or.inr (Or.inr (Or.inl rfl))))), pl G (by rw [b6']; exact c2) c3⟩
end RDQ
end
section
section ANS
variable {S S' : ZS} {g g' c k p : Nat} {I I' : Nat → Int32} {A A' : Nat → Nat → Int32} {L : List (List Int × List Int)} {st P : PO} {T T' : TRa} {r v : Int} {x1 x2 x3 : Int32} {o2 : Int32 × MS}
theorem ke_type {x : Int64} {o : Int32 × ZS} (hC : CG S) (hs : SM I A S) (ho : d_X11_type 1 x x3 S = some o) : KE S o.2 := by
  obtain ⟨w, hw, -, -⟩ := tx_l hC hs.2
  rcases p_type hC hw ho with ⟨-, -, -, -, F⟩ | ⟨-, -, e⟩
  · exact ke_2 F
  · rw [e]; exact ke_0
theorem ke_cut {o : Int32 × ZS} (hC : CG S) (hs : SM I A S) (ho : f_X11_cut 1 x1 S = some o) : KE S o.2 := by
  rcases p_cut hC hs.2 ho with ⟨-, -, -, -, F⟩ | ⟨-, -, e⟩
  · exact ke_2 F
  · rw [e]; exact ke_0
theorem an_nodes {o : Int32 × ZS} (hC : CG S) (hR : RIt I A) (h : FM I A S) (h2 : f_nodes I A = some o2) (ho : f_X11_nodes 1 S = some o) : o.1 = o2.1 := by
  obtain ⟨hm, g, L, st, T, r, c, w⟩ := h
  obtain ⟨⟨p7, gc⟩, gr, -⟩ := id w
  have hgg := (sc_7 hm.1 p7).1
  have b5 : 0 ≤ (I 5).toInt ∧ (I 5).toInt ≤ 1 := hR.1 5
  have kg := (fx_g hC.2.2.1 hgg).1.1
  have hn := (cn_le hC.1 kg).2
  rw [gc.1.1.1] at hn
  have hf : f_X11_nodes_0 1 S = some o := ho
  have hr : f_nodes_0 I A = some o2 := h2
  unfold f_X11_nodes_0 at hf
  unfold f_nodes_0 at hr
  obtain ⟨-, hf⟩ := m_chkE hf
  replace hf := m_calY hf p7
  obtain ⟨-, hf⟩ := m_chkE hf
  obtain ⟨I1, e1, hr⟩ := m_bndE hr
  obtain ⟨-, hr⟩ := m_chkE hr
  obtain ⟨v2, e2, hr⟩ := m_bndE hr
  have j5 : I1 5 = I 5 := by rw [e1, upd_ne (by decide)]
  rw [j5, cl_n (n := (I 5).toInt.toNat) (by omega)] at e2
  cases hf
  cases hr
  exact Int32.toInt_inj.1 (by show (zI S 3 g).toInt = v2.toInt; rw [hn, e2]; exact (aK_i hR.2.1 gr.1.1).symm)
theorem an_here {o : Int32 × ZS} (h : FM I A S) (h2 : f_here I A = some o2) (ho : f_X11_here 1 S = some o) : o.1 = o2.1 := by
  obtain ⟨hm, g, L, st, T, r, c, w⟩ := h
  obtain ⟨-, -, ⟨c1, c2, -⟩, -⟩ := id w
  have hf : f_X11_here_0 1 S = some o := ho
  have hr : f_here_0 I A = some o2 := h2
  unfold f_X11_here_0 at hf
  unfold f_here_0 at hr
  obtain ⟨-, hf⟩ := m_chkE hf
  obtain ⟨I1, e1, hr⟩ := m_bndE hr
  have j6 : I1 6 = I 6 := by rw [e1, upd_ne (by decide)]
  cases hf
  cases hr
  exact Int32.toInt_inj.1 (by show (zI S 8 1).toInt = (I1 6).toInt; rw [j6, c1, c2])
theorem an_man {o : (Nat × Int32) × ZS} (hC : CG S) (h : FM I A S) (h2 : f_man x1 I A = some o2) (ho : d_X11_man 1 x1 S = some o) : (o.1.1 = 0 ∧ o2.2.1 0 = 0 ∧ o.1.2 = o2.1) ∨ (o.1.1 = 2 ∧ o2.2.1 0 = 1) := by
  obtain ⟨hm, g, L, st, T, r, c, w⟩ := h
  obtain ⟨-, -, -, bo, qs⟩ := id w
  have hf : d_X11_man_0 1 x1 S = some o := ho
  have hr : f_man_0 x1 I A = some o2 := h2
  have z0 : (0 : Int32).toInt = 0 := rfl
  have z63 : (63 : Int32).toInt = 63 := rfl
  have z64 : (64 : Int32).toInt = 64 := rfl
  have bad : d_X11_man_10 S = some o → f_man_11 x1 I A = some o2 → (o.1.1 = 0 ∧ o2.2.1 0 = 0 ∧ o.1.2 = o2.1) ∨ (o.1.1 = 2 ∧ o2.2.1 0 = 1) := fun ha hb => by
    unfold d_X11_man_10 at ha
    unfold f_man_11 f_man_16 at hb
    obtain ⟨I1, e1, hb⟩ := m_bndE hb
    rcases m_ifE hb with ⟨d, hb⟩ | ⟨-, hb⟩
    · rw [e1, upd_self] at d
      exact absurd d (by decide)
    · unfold f_man_36 at hb
      have e := (Option.some.inj ha).symm
      have e2 := (Option.some.inj hb).symm
      rw [e, e2]
      exact Or.inr ⟨rfl, by show I1 0 = 1; rw [e1, upd_self]⟩
  unfold d_X11_man_0 at hf
  unfold f_man_0 at hr
  rcases m_ifE hf with ⟨d, hf⟩ | ⟨d, hf⟩
  · rcases m_ifE hr with ⟨-, hr⟩ | ⟨d2, hr⟩
    · exact bad hf hr
    · exact absurd d d2
  · rcases m_ifE hr with ⟨d2, hr⟩ | ⟨-, hr⟩
    · exact absurd d2 d
    · replace d := ti_ltN (a := x1) (b := (0 : Int32)) d rfl z0
      rcases m_ifE hf with ⟨d3, hf⟩ | ⟨d3, hf⟩
      · replace d3 := ti_ltP (a := x1) (b := (64 : Int32)) d3 rfl z64
        rcases m_ifE hr with ⟨-, hr⟩ | ⟨d4, hr⟩
        · obtain ⟨-, hf⟩ := m_chkE hf
          replace hf := m_calY hf (show zP S 9 1 = some 107 from fx_p hC.2.2.1 (by decide))
          obtain ⟨-, hf⟩ := m_chkE hf
          replace hf := m_calY hf (show zP S 0 107 = some 108 from fx_p hC.2.2.1 (by decide))
          obtain ⟨-, hf⟩ := m_chkE hf
          obtain ⟨-, hf⟩ := m_chkE hf
          obtain ⟨v3, e3, hf⟩ := m_bndE hf
          unfold f_man_16 at hr
          obtain ⟨I1, e1, hr⟩ := m_bndE hr
          have j0 : I1 0 = 0 := by rw [e1, upd_self]
          rcases m_ifE hr with ⟨-, hr⟩ | ⟨d5, hr⟩
          · obtain ⟨-, hr⟩ := m_chkE hr
            obtain ⟨v2, e2, hr⟩ := m_bndE hr
            unfold f_man_36 at hr
            have eo := (Option.some.inj hf).symm
            have eo2 := (Option.some.inj hr).symm
            have xn : x1.toNatClampNeg = x1.toInt.toNat := cl_n (by omega)
            rw [xn] at e3 e2
            have q1 : mCb S 107 x1.toInt = v3.toInt := by
              unfold mCb
              rw [if_pos ⟨d, d3⟩, bo.1.2.1, e3]
            have q2 : mR A x1.toInt = v2.toInt := by
              unfold mR
              rw [if_pos ⟨d, d3⟩, e2]
            rw [bo.2.1] at q1
            rw [qs.1.1] at q2
            rw [eo, eo2]
            exact Or.inl ⟨rfl, j0, Int32.toInt_inj.1 (q1.symm.trans q2)⟩
          · exact absurd (show I1 0 ≤ 0 by rw [j0]; decide) d5
        · replace d4 := ti_leN (a := x1) (b := (63 : Int32)) d4 rfl z63
          omega
      · replace d3 := ti_ltN (a := x1) (b := (64 : Int32)) d3 rfl z64
        rcases m_ifE hr with ⟨d4, hr⟩ | ⟨-, hr⟩
        · replace d4 := ti_leP (a := x1) (b := (63 : Int32)) d4 rfl z63
          omega
        · exact bad hf hr
theorem an_remark {o : (Nat × Int32) × ZS} (hC : CG S) (hR : RIt I A) (h : FM I A S) (h2 : f_remark x1 x2 I A = some o2) (ho : d_X11_remark 1 x1 x2 S = some o) : (o.1.1 = 0 ∧ o2.2.1 0 = 0 ∧ o.1.2 = o2.1) ∨ (o.1.1 = 2 ∧ o2.2.1 0 = 1) := by
  obtain ⟨hm, g, L, st, T, r, c, w⟩ := h
  obtain ⟨⟨p7, gc⟩, gr, -⟩ := id w
  obtain ⟨hw, -, -, h3⟩ := fw_w w
  have hgg := (sc_7 hm.1 p7).1
  have h5b : 0 ≤ (I 5).toInt ∧ (I 5).toInt ≤ 1 := hR.1 5
  have hf : d_X11_remark_0 1 x1 x2 S = some o := ho
  have hr : f_remark_0 x1 x2 I A = some o2 := h2
  have z0 : (0 : Int32).toInt = 0 := rfl
  have bad : ∀ {S1 : ZS}, d_X11_remark_33 S1 = some o → f_remark_32 x1 x2 I A = some o2 → (o.1.1 = 0 ∧ o2.2.1 0 = 0 ∧ o.1.2 = o2.1) ∨ (o.1.1 = 2 ∧ o2.2.1 0 = 1) := fun {S1} ha hb => by
    unfold d_X11_remark_33 at ha
    unfold f_remark_32 f_remark_37 at hb
    obtain ⟨I1, e1, hb⟩ := m_bndE hb
    rcases m_ifE hb with ⟨d, hb⟩ | ⟨-, hb⟩
    · rw [e1, upd_self] at d
      exact absurd d (by decide)
    · unfold f_remark_72 at hb
      have e := (Option.some.inj ha).symm
      have e2 := (Option.some.inj hb).symm
      rw [e, e2]
      exact Or.inr ⟨rfl, by show I1 0 = 1; rw [e1, upd_self]⟩
  unfold d_X11_remark_0 at hf
  unfold f_remark_0 at hr
  obtain ⟨-, hf⟩ := m_chkE hf
  replace hf := m_calY hf p7
  obtain ⟨-, hf⟩ := m_chkE hf
  obtain ⟨⟨y2, S2⟩, h_2, hf⟩ := m_calE hf
  obtain ⟨-, hf⟩ := m_chkE hf
  obtain ⟨e2, q2⟩ := fm_has hC hgg gc.1.1 h_2
  dsimp only at e2 q2 hf
  rw [e2] at hf
  obtain ⟨⟨r1, Ic1, Ac1⟩, h_r1, hr⟩ := m_clE hr
  dsimp only at hr
  obtain ⟨e1, q1⟩ := fm_isNode h5b hR.2.1 gr.1.1 h_r1
  have i1 : Ic1 = I := congrArg Prod.fst e1
  have a1 : Ac1 = A := congrArg Prod.snd e1
  rw [i1, a1] at hr
  dsimp only at q1
  rcases m_ifE hf with ⟨d, hf⟩ | ⟨d, hf⟩
  · rw [d] at q2
    have hn : ¬ (0 ≤ x1.toInt ∧ x1.toInt ≤ (tn T : Int)) := by
      rcases q2 with ⟨q, -⟩ | ⟨-, q⟩
      · exact absurd q (by decide)
      · exact q
    rcases m_ifE hr with ⟨-, hr⟩ | ⟨d2, hr⟩
    · exact bad hf hr
    · rcases q1 with ⟨-, q⟩ | ⟨q, -⟩
      · exact absurd q hn
      · exact absurd (i32_of q) d2
  · have hn : 0 ≤ x1.toInt ∧ x1.toInt ≤ (tn T : Int) := by
      rcases q2 with ⟨-, q⟩ | ⟨q, -⟩
      · exact q
      · exact absurd (i32_of q) d
    obtain ⟨nd, hx⟩ : ∃ nd : Nat, x1.toInt = (nd : Int) := ⟨x1.toInt.toNat, by omega⟩
    have hnd : nd ≤ tn T := by omega
    have ex : x1.toInt.toNat = nd := by omega
    rcases m_ifE hr with ⟨d2, hr⟩ | ⟨-, hr⟩
    · rw [d2] at q1
      rcases q1 with ⟨q, -⟩ | ⟨-, q⟩
      · exact absurd q (by decide)
      · exact absurd hn q
    · rcases m_ifE hf with ⟨d3, hf⟩ | ⟨d3, hf⟩
      · rcases m_ifE hr with ⟨-, hr⟩ | ⟨d4, hr⟩
        · exact bad hf hr
        · exact absurd d3 d4
      · rcases m_ifE hr with ⟨d4, hr⟩ | ⟨-, hr⟩
        · exact absurd d4 d3
        · replace d3 := ti_ltN (a := x2) (b := (0 : Int32)) d3 rfl z0
          obtain ⟨-, -, RW⟩ := gc.1.1.2.2.2 nd hnd
          obtain ⟨-, -, RR⟩ := gr.1.1.2.2 nd hnd
          have l2 := (hw.2.2.1 nd).1
          obtain ⟨nk4, nk6, nkr, -⟩ := nk_nd hC hgg nd
          obtain ⟨-, hf⟩ := m_chkE hf
          replace hf := m_calY hf p7
          obtain ⟨-, hf⟩ := m_chkE hf
          obtain ⟨⟨n4, S4⟩, h_4, hf⟩ := m_calE hf
          obtain ⟨e4, q4⟩ := p_at hC hgg gc.1.1 hn.1 hn.2 h_4
          rw [ex] at q4
          obtain ⟨-, hf⟩ := m_chkE hf
          dsimp only at hf
          rw [e4, q4] at hf
          obtain ⟨-, hf⟩ := m_chkE hf
          replace hf := m_calY hf nk6
          obtain ⟨-, hf⟩ := m_chkE hf
          obtain ⟨⟨y6, S6⟩, h_6, hf⟩ := m_calE hf
          have q6 := pc_X6_size h_6
          have e6 : S6 = S := ro_X6_size h_6
          obtain ⟨-, hf⟩ := m_chkE hf
          dsimp only at q6 hf
          rw [e6] at hf
          have t6 : y6.toInt = ((tR T nd).length : Int) := by rw [q6]; exact RW.1
          obtain ⟨v2, f2, hr⟩ := m_bndE hr
          obtain ⟨v3, f3, hr⟩ := m_bndE hr
          have s2 : v2.toInt = 301 * (I 5).toInt := ti_mul f2 (show (301 : Int32).toInt = 301 from rfl) rfl (by omega) (by omega)
          have s3 : v3.toInt = v2.toInt + x1.toInt := ti_add f3 rfl rfl (by omega) (by omega)
          obtain ⟨-, hr⟩ := m_chkE hr
          obtain ⟨v4, f4, hr⟩ := m_bndE hr
          rw [cl_n (n := 301 * (I 5).toInt.toNat + nd) (by omega)] at f4
          have s4 : v4.toInt = ((tR T nd).length : Int) := by rw [f4]; exact RR.1
          rcases m_ifE hf with ⟨d5, hf⟩ | ⟨d5, hf⟩
          · replace d5 := ti_ltP (a := x2) (b := y6) d5 rfl rfl
            rcases m_ifE hr with ⟨-, hr⟩ | ⟨d6, hr⟩
            · obtain ⟨-, hf⟩ := m_chkE hf
              replace hf := m_calY hf p7
              obtain ⟨-, hf⟩ := m_chkE hf
              obtain ⟨⟨n8, S8⟩, h_8, hf⟩ := m_calE hf
              obtain ⟨e8, q8⟩ := p_at hC hgg gc.1.1 hn.1 hn.2 h_8
              rw [ex] at q8
              obtain ⟨-, hf⟩ := m_chkE hf
              dsimp only at hf
              rw [e8, q8] at hf
              obtain ⟨-, hf⟩ := m_chkE hf
              replace hf := m_calY hf nk6
              obtain ⟨-, hf⟩ := m_chkE hf
              obtain ⟨⟨y10, S10⟩, h_10, hf⟩ := m_calE hf
              have q10 := pc_X6_at h_10
              obtain ⟨-, hf⟩ := m_chkE hf
              dsimp only at q10
              rw [RW.2] at q10
              unfold f_remark_37 at hr
              obtain ⟨I1, g1, hr⟩ := m_bndE hr
              have j0 : I1 0 = 0 := by rw [g1, upd_self]
              have j5 : I1 5 = I 5 := by rw [g1, upd_ne (by decide)]
              rcases m_ifE hr with ⟨-, hr⟩ | ⟨d7, hr⟩
              · obtain ⟨u2, g2, hr⟩ := m_bndE hr
                obtain ⟨u3, g3, hr⟩ := m_bndE hr
                obtain ⟨u4, g4, hr⟩ := m_bndE hr
                obtain ⟨u5, g5, hr⟩ := m_bndE hr
                rw [j5] at g2
                have w2 : u2.toInt = 301 * (I 5).toInt := ti_mul g2 (show (301 : Int32).toInt = 301 from rfl) rfl (by omega) (by omega)
                have w3 : u3.toInt = u2.toInt + x1.toInt := ti_add g3 rfl rfl (by omega) (by omega)
                have w4 : u4.toInt = 200 * u3.toInt := ti_mul g4 (show (200 : Int32).toInt = 200 from rfl) rfl (by omega) (by omega)
                have w5 : u5.toInt = u4.toInt + x2.toInt := ti_add g5 rfl rfl (by omega) (by omega)
                obtain ⟨-, hr⟩ := m_chkE hr
                obtain ⟨u6, g6, hr⟩ := m_bndE hr
                rw [cl_n (n := 200 * (301 * (I 5).toInt.toNat + nd) + x2.toInt.toNat) (by omega)] at g6
                unfold f_remark_72 at hr
                have eo := (Option.some.inj hf).symm
                have eo2 := (Option.some.inj hr).symm
                have q := RR.2 x2.toInt.toNat (by omega)
                rw [← g6, show ((x2.toInt.toNat : Nat) : Int) = x2.toInt by omega] at q
                rw [eo, eo2]
                exact Or.inl ⟨rfl, j0, Int32.toInt_inj.1 (by show y10.toInt = u6.toInt; rw [q10, q])⟩
              · exact absurd (show I1 0 ≤ 0 by rw [j0]; decide) d7
            · replace d6 := ti_ltN (a := x2) (b := v4) d6 rfl rfl
              omega
          · replace d5 := ti_ltN (a := x2) (b := y6) d5 rfl rfl
            rcases m_ifE hr with ⟨d6, hr⟩ | ⟨-, hr⟩
            · replace d6 := ti_ltP (a := x2) (b := v4) d6 rfl rfl
              omega
            · exact bad hf hr
end ANS
end
section
section MKA
variable {S S' : ZS} {g c k : Nat} {I I' : Nat → Int32} {A A' : Nat → Nat → Int32} {T : TRa} {x1 x2 : Int32} {o2 : Int32 × MS}
theorem pk_1 : ∀ n : Nat, n < 256 → (Int32.ofInt (n : Int)).toBitVec.toNat = n := by decide +kernel
theorem pk_m {m : Int} (h : 0 ≤ m ∧ m ≤ 255) : (Int32.ofInt m).toBitVec.toNat = m.toNat := by
  have := pk_1 m.toNat (by omega)
  rw [show ((m.toNat : Nat) : Int) = m by omega] at this
  exact this
theorem pk_sh {M : Int32} (hM : M.toBitVec.toNat < 256) : ∀ i : Nat, i ≤ 3 → (M <<< (Int32.ofInt (8 * (i : Int)) &&& 31)).toBitVec.toNat = 2 ^ (8 * i) * M.toBitVec.toNat := by
  have sh : ∀ n : Nat, n ≤ 24 → (M.toBitVec <<< n).toNat = 2 ^ n * M.toBitVec.toNat := fun n hn => by
    rw [BitVec.toNat_shiftLeft, Nat.shiftLeft_eq, Nat.mul_comm]
    apply Nat.mod_eq_of_lt
    have : 2 ^ n ≤ 2 ^ 24 := Nat.pow_le_pow_right (by decide) hn
    have h2 : 2 ^ n * M.toBitVec.toNat ≤ 2 ^ 24 * 255 := Nat.mul_le_mul this (by omega)
    exact Nat.lt_of_le_of_lt h2 (by decide)
  intro i hi
  rcases (show i = 0 ∨ i = 1 ∨ i = 2 ∨ i = 3 by omega) with e | e | e | e
  · subst e; exact sh 0 (by decide)
  · subst e; exact sh 8 (by decide)
  · subst e; exact sh 16 (by decide)
  · subst e; exact sh 24 (by decide)
theorem pk_or {a M : Int32} {i : Nat} (hi : i ≤ 3) (ha : a.toBitVec.toNat < 2 ^ (8 * i)) (hM : M.toBitVec.toNat < 256) : (a ||| (M <<< (Int32.ofInt (8 * (i : Int)) &&& 31))).toBitVec.toNat = 2 ^ (8 * i) * M.toBitVec.toNat + a.toBitVec.toNat := by
  have e : (a ||| (M <<< (Int32.ofInt (8 * (i : Int)) &&& 31))).toBitVec = a.toBitVec ||| (M <<< (Int32.ofInt (8 * (i : Int)) &&& 31)).toBitVec := rfl
  rw [e, BitVec.toNat_or, pk_sh hM i hi, Nat.two_pow_add_eq_or_of_lt ha, Nat.or_comm]
theorem pkA_n : ∀ (l : List Int) (i : Nat) (a : Int32), i + l.length ≤ 4 → a.toBitVec.toNat < 2 ^ (8 * i) → (∀ m ∈ l, 0 ≤ m ∧ m ≤ 255) → (pkA i a l).toBitVec.toNat % 2 ^ (8 * i) = a.toBitVec.toNat ∧ ∀ (j : Nat) (hj : j < l.length), (pkA i a l).toBitVec.toNat / 2 ^ (8 * (i + j)) % 256 = (l[j]).toNat
  | [], i, a, _, ha, _ => ⟨Nat.mod_eq_of_lt ha, fun j hj => absurd hj (Nat.not_lt_zero _)⟩
  | m :: l, i, a, hl, ha, hm => by
    have hl2 : i + (l.length + 1) ≤ 4 := hl
    have hm0 := hm m List.mem_cons_self
    have hmn : (Int32.ofInt m).toBitVec.toNat = m.toNat := pk_m hm0
    have q := pk_or (a := a) (M := Int32.ofInt m) (i := i) (by omega) ha (by omega)
    rw [hmn] at q
    have hlt : (a ||| (Int32.ofInt m <<< (Int32.ofInt (8 * (i : Int)) &&& 31))).toBitVec.toNat < 2 ^ (8 * (i + 1)) := by
      rw [q]
      rcases (show i = 0 ∨ i = 1 ∨ i = 2 ∨ i = 3 by omega) with e | e | e | e <;> subst e <;> simp only [Nat.reduceMul, Nat.reduceAdd, Nat.reducePow] at ha ⊢ <;> omega
    obtain ⟨r1, r2⟩ := pkA_n l (i + 1) _ (by omega) hlt (fun x hx => hm x (List.mem_cons_of_mem _ hx))
    have e : pkA i a (m :: l) = pkA (i + 1) (a ||| (Int32.ofInt m <<< (Int32.ofInt (8 * (i : Int)) &&& 31))) l := rfl
    rw [e]
    rw [q] at r1
    generalize (pkA (i + 1) (a ||| (Int32.ofInt m <<< (Int32.ofInt (8 * (i : Int)) &&& 31))) l).toBitVec.toNat = R at r1 r2 ⊢
    generalize a.toBitVec.toNat = an at ha r1 ⊢
    refine ⟨?_, fun j hj => ?_⟩
    · rcases (show i = 0 ∨ i = 1 ∨ i = 2 ∨ i = 3 by omega) with e | e | e | e <;> subst e <;> simp only [Nat.reduceMul, Nat.reduceAdd, Nat.reducePow] at ha r1 ⊢ <;> omega
    · cases j with
      | zero =>
        show R / 2 ^ (8 * (i + 0)) % 256 = m.toNat
        rcases (show i = 0 ∨ i = 1 ∨ i = 2 ∨ i = 3 by omega) with e | e | e | e <;> subst e <;> simp only [Nat.reduceMul, Nat.reduceAdd, Nat.reducePow] at ha r1 ⊢ <;> omega
      | succ j =>
        have := r2 j (Nat.lt_of_succ_lt_succ hj)
        rw [show i + 1 + j = i + (j + 1) by omega] at this
        exact this
/-- a mark out of the class's int -/
theorem c_markAt {K : List Int} {o : Int32 × ZS} {x : Nat} (h : NMk S x K) (hl : K.length ≤ 4) (hK : ∀ m ∈ K, 0 ≤ m ∧ m ≤ 255) (hx : x2.toInt = (k : Int)) (hk : k < K.length) (hf : f_X4_markAt x x2 S = some o) : o.1.toInt = wA K (k : Int) := by
  have hf : f_X4_markAt_0 x x2 S = some o := hf
  unfold f_X4_markAt_0 at hf
  obtain ⟨-, hf⟩ := m_chkE hf
  obtain ⟨v1, e1, hf⟩ := m_bndE hf
  obtain ⟨v2, e2, hf⟩ := m_bndE hf
  obtain ⟨v3, e3, hf⟩ := m_bndE hf
  cases hf
  have e8 : x2 = Int32.ofInt (k : Int) := Int32.toInt_inj.1 (by
    rw [hx]
    have : ∀ k : Nat, k < 4 → (Int32.ofInt (k : Int)).toInt = (k : Int) := by decide
    exact (this k (by omega)).symm)
  rw [h.2] at e2
  rw [wA_in hk]
  obtain ⟨-, q⟩ := pkA_n K 0 0 (by omega) (by decide) hK
  have q := q k hk
  rw [Nat.zero_add] at q
  have e9 : v3 = Int32.ofInt ((((pkL K).toBitVec.toNat / 2 ^ (8 * k) % 256 : Nat)) : Int) := by
    rw [e3, e2, e1, e8]
    generalize pkL K = X
    have key : ∀ (X : Int32) (s : Nat), s < 32 → ((X.toUInt32 >>> (UInt32.ofNat s)).toInt32 &&& (255 : Int32)).toBitVec.toNat = X.toBitVec.toNat / 2 ^ s % 256 := fun X s hs => by
      have e : ((X.toUInt32 >>> (UInt32.ofNat s)).toInt32 &&& (255 : Int32)).toBitVec = (X.toBitVec >>> ((UInt32.ofNat s).toBitVec % 32)) &&& 255#32 := rfl
      have en : ((UInt32.ofNat s).toBitVec % 32).toNat = s := by
        have : ∀ s : Nat, s < 32 → ((UInt32.ofNat s).toBitVec % 32).toNat = s := by decide
        exact this s hs
      rw [e, BitVec.toNat_and]
      have e2 : (X.toBitVec >>> ((UInt32.ofNat s).toBitVec % 32)).toNat = X.toBitVec.toNat / 2 ^ s := by
        show (X.toBitVec >>> ((UInt32.ofNat s).toBitVec % 32).toNat).toNat = _
        rw [en, BitVec.toNat_ushiftRight, Nat.shiftRight_eq_div_pow]
      rw [e2]
      show X.toBitVec.toNat / 2 ^ s &&& (2 ^ 8 - 1) = _
      rw [Nat.and_two_pow_sub_one_eq_mod]
    have inj : ∀ (a : Int32) (n : Nat), n < 256 → a.toBitVec.toNat = n → a = Int32.ofInt (n : Int) := fun a n hn he => by
      apply Int32.toBitVec_inj.1
      apply BitVec.eq_of_toNat_eq
      rw [he, pk_1 n hn]
    apply inj _ _ (Nat.mod_lt _ (by decide))
    rcases (show k = 0 ∨ k = 1 ∨ k = 2 ∨ k = 3 by omega) with e | e | e | e
    · subst e; exact key X 0 (by decide)
    · subst e; exact key X 8 (by decide)
    · subst e; exact key X 16 (by decide)
    · subst e; exact key X 24 (by decide)
  have q2 : (pkL K).toBitVec.toNat / 2 ^ (8 * k) % 256 = (K[k]).toNat := q
  have hb := hK _ (List.getElem_mem hk)
  show v3.toInt = K[k]
  rw [e9, q2]
  have : ∀ n : Nat, n < 256 → (Int32.ofInt (n : Int)).toInt = (n : Int) := by decide +kernel
  rw [this _ (by omega)]
  omega
theorem an_mark {o : (Nat × Int32) × ZS} (hC : CG S) (hR : RIt I A) (h : FM I A S) (h2 : f_mark x1 x2 I A = some o2) (ho : d_X11_mark 1 x1 x2 S = some o) : (o.1.1 = 0 ∧ o2.2.1 0 = 0 ∧ o.1.2 = o2.1) ∨ (o.1.1 = 2 ∧ o2.2.1 0 = 1) := by
  obtain ⟨hm, g, L, st, T, r, c, w⟩ := h
  obtain ⟨⟨p7, gc⟩, gr, -⟩ := id w
  obtain ⟨hw, -, -, h3⟩ := fw_w w
  have hgg := (sc_7 hm.1 p7).1
  have h5b : 0 ≤ (I 5).toInt ∧ (I 5).toInt ≤ 1 := hR.1 5
  have hf : d_X11_mark_0 1 x1 x2 S = some o := ho
  have hr : f_mark_0 x1 x2 I A = some o2 := h2
  have z0 : (0 : Int32).toInt = 0 := rfl
  have bad : ∀ {S1 : ZS}, d_X11_mark_30 S1 = some o → f_mark_32 x1 x2 I A = some o2 → (o.1.1 = 0 ∧ o2.2.1 0 = 0 ∧ o.1.2 = o2.1) ∨ (o.1.1 = 2 ∧ o2.2.1 0 = 1) := fun {S1} ha hb => by
    unfold d_X11_mark_30 at ha
    unfold f_mark_32 f_mark_37 at hb
    obtain ⟨I1, e1, hb⟩ := m_bndE hb
    rcases m_ifE hb with ⟨d, hb⟩ | ⟨-, hb⟩
    · rw [e1, upd_self] at d
      exact absurd d (by decide)
    · unfold f_mark_70 at hb
      have e := (Option.some.inj ha).symm
      have e2 := (Option.some.inj hb).symm
      rw [e, e2]
      exact Or.inr ⟨rfl, by show I1 0 = 1; rw [e1, upd_self]⟩
  unfold d_X11_mark_0 at hf
  unfold f_mark_0 at hr
  obtain ⟨-, hf⟩ := m_chkE hf
  replace hf := m_calY hf p7
  obtain ⟨-, hf⟩ := m_chkE hf
  obtain ⟨⟨y2, S2⟩, h_2, hf⟩ := m_calE hf
  obtain ⟨-, hf⟩ := m_chkE hf
  obtain ⟨e2, q2⟩ := fm_has hC hgg gc.1.1 h_2
  dsimp only at e2 q2 hf
  rw [e2] at hf
  obtain ⟨⟨r1, Ic1, Ac1⟩, h_r1, hr⟩ := m_clE hr
  dsimp only at hr
  obtain ⟨e1, q1⟩ := fm_isNode h5b hR.2.1 gr.1.1 h_r1
  have i1 : Ic1 = I := congrArg Prod.fst e1
  have a1 : Ac1 = A := congrArg Prod.snd e1
  rw [i1, a1] at hr
  dsimp only at q1
  rcases m_ifE hf with ⟨d, hf⟩ | ⟨d, hf⟩
  · rw [d] at q2
    have hn : ¬ (0 ≤ x1.toInt ∧ x1.toInt ≤ (tn T : Int)) := by
      rcases q2 with ⟨q, -⟩ | ⟨-, q⟩
      · exact absurd q (by decide)
      · exact q
    rcases m_ifE hr with ⟨-, hr⟩ | ⟨d2, hr⟩
    · exact bad hf hr
    · rcases q1 with ⟨-, q⟩ | ⟨q, -⟩
      · exact absurd q hn
      · exact absurd (i32_of q) d2
  · have hn : 0 ≤ x1.toInt ∧ x1.toInt ≤ (tn T : Int) := by
      rcases q2 with ⟨-, q⟩ | ⟨q, -⟩
      · exact q
      · exact absurd (i32_of q) d
    obtain ⟨nd, hx⟩ : ∃ nd : Nat, x1.toInt = (nd : Int) := ⟨x1.toInt.toNat, by omega⟩
    have hnd : nd ≤ tn T := by omega
    have ex : x1.toInt.toNat = nd := by omega
    rcases m_ifE hr with ⟨d2, hr⟩ | ⟨-, hr⟩
    · rw [d2] at q1
      rcases q1 with ⟨q, -⟩ | ⟨-, q⟩
      · exact absurd q (by decide)
      · exact absurd hn q
    · rcases m_ifE hf with ⟨d3, hf⟩ | ⟨d3, hf⟩
      · rcases m_ifE hr with ⟨-, hr⟩ | ⟨d4, hr⟩
        · exact bad hf hr
        · exact absurd d3 d4
      · rcases m_ifE hr with ⟨d4, hr⟩ | ⟨-, hr⟩
        · exact absurd d4 d3
        · replace d3 := ti_ltN (a := x2) (b := (0 : Int32)) d3 rfl z0
          obtain ⟨-, NM, -⟩ := gc.1.1.2.2.2 nd hnd
          obtain ⟨-, NK, -⟩ := gr.1.1.2.2 nd hnd
          have l4 := (hw.2.2.1 nd).2
          obtain ⟨-, hf⟩ := m_chkE hf
          replace hf := m_calY hf p7
          obtain ⟨-, hf⟩ := m_chkE hf
          obtain ⟨⟨n4, S4⟩, h_4, hf⟩ := m_calE hf
          obtain ⟨e4, q4⟩ := p_at hC hgg gc.1.1 hn.1 hn.2 h_4
          rw [ex] at q4
          obtain ⟨-, hf⟩ := m_chkE hf
          dsimp only at hf
          rw [e4, q4] at hf
          obtain ⟨-, hf⟩ := m_chkE hf
          obtain ⟨v2, f2, hr⟩ := m_bndE hr
          obtain ⟨v3, f3, hr⟩ := m_bndE hr
          have s2 : v2.toInt = 301 * (I 5).toInt := ti_mul f2 (show (301 : Int32).toInt = 301 from rfl) rfl (by omega) (by omega)
          have s3 : v3.toInt = v2.toInt + x1.toInt := ti_add f3 rfl rfl (by omega) (by omega)
          obtain ⟨-, hr⟩ := m_chkE hr
          obtain ⟨v4, f4, hr⟩ := m_bndE hr
          rw [cl_n (n := 301 * (I 5).toInt.toNat + nd) (by omega)] at f4
          have s4 : v4.toInt = ((tK T nd).length : Int) := by rw [f4]; exact NK.1
          have t4 : (zI S 4 (nk S (g + 3) (g + 5) nd)).toInt = ((tK T nd).length : Int) := NM.1
          rcases m_ifE hf with ⟨d5, hf⟩ | ⟨d5, hf⟩
          · replace d5 := ti_ltP (a := x2) (b := zI S 4 (nk S (g + 3) (g + 5) nd)) d5 rfl rfl
            rcases m_ifE hr with ⟨-, hr⟩ | ⟨d6, hr⟩
            · obtain ⟨-, hf⟩ := m_chkE hf
              replace hf := m_calY hf p7
              obtain ⟨-, hf⟩ := m_chkE hf
              obtain ⟨⟨n8, S8⟩, h_8, hf⟩ := m_calE hf
              obtain ⟨e8, q8⟩ := p_at hC hgg gc.1.1 hn.1 hn.2 h_8
              rw [ex] at q8
              obtain ⟨-, hf⟩ := m_chkE hf
              dsimp only at hf
              rw [e8, q8] at hf
              obtain ⟨-, hf⟩ := m_chkE hf
              obtain ⟨⟨y10, S10⟩, h_10, hf⟩ := m_calE hf
              obtain ⟨-, hf⟩ := m_chkE hf
              have hK : ∀ m ∈ tK T nd, 0 ≤ m ∧ m ≤ 255 := fun m hm9 => by
                obtain ⟨i, hi, ei⟩ := List.mem_iff_getElem.1 hm9
                have q := NK.2 i hi
                rw [wA_in hi, ei] at q
                have b : 0 ≤ (A 13 (4 * (301 * (I 5).toInt.toNat + nd) + i)).toInt ∧ (A 13 (4 * (301 * (I 5).toInt.toNat + nd) + i)).toInt ≤ 255 := hR.2.1 13 _
                omega
              have q10 := c_markAt (k := x2.toInt.toNat) NM l4 hK (by omega) (by omega) h_10
              unfold f_mark_37 at hr
              obtain ⟨I1, g1, hr⟩ := m_bndE hr
              have j0 : I1 0 = 0 := by rw [g1, upd_self]
              have j5 : I1 5 = I 5 := by rw [g1, upd_ne (by decide)]
              rcases m_ifE hr with ⟨-, hr⟩ | ⟨d7, hr⟩
              · obtain ⟨u2, g2, hr⟩ := m_bndE hr
                obtain ⟨u3, g3, hr⟩ := m_bndE hr
                obtain ⟨u4, g4, hr⟩ := m_bndE hr
                obtain ⟨u5, g5, hr⟩ := m_bndE hr
                rw [j5] at g2
                have w2 : u2.toInt = 301 * (I 5).toInt := ti_mul g2 (show (301 : Int32).toInt = 301 from rfl) rfl (by omega) (by omega)
                have w3 : u3.toInt = u2.toInt + x1.toInt := ti_add g3 rfl rfl (by omega) (by omega)
                have w4 : u4.toInt = 4 * u3.toInt := ti_mul g4 (show (4 : Int32).toInt = 4 from rfl) rfl (by omega) (by omega)
                have w5 : u5.toInt = u4.toInt + x2.toInt := ti_add g5 rfl rfl (by omega) (by omega)
                obtain ⟨-, hr⟩ := m_chkE hr
                obtain ⟨u6, g6, hr⟩ := m_bndE hr
                rw [cl_n (n := 4 * (301 * (I 5).toInt.toNat + nd) + x2.toInt.toNat) (by omega)] at g6
                unfold f_mark_70 at hr
                have eo := (Option.some.inj hf).symm
                have eo2 := (Option.some.inj hr).symm
                have q := NK.2 x2.toInt.toNat (by omega)
                rw [← g6] at q
                rw [eo, eo2]
                exact Or.inl ⟨rfl, j0, Int32.toInt_inj.1 (by show y10.toInt = u6.toInt; exact q10.trans q.symm)⟩
              · exact absurd (show I1 0 ≤ 0 by rw [j0]; decide) d7
            · replace d6 := ti_ltN (a := x2) (b := v4) d6 rfl rfl
              omega
          · replace d5 := ti_ltN (a := x2) (b := zI S 4 (nk S (g + 3) (g + 5) nd)) d5 rfl rfl
            rcases m_ifE hr with ⟨d6, hr⟩ | ⟨-, hr⟩
            · replace d6 := ti_ltP (a := x2) (b := v4) d6 rfl rfl
              omega
            · exact bad hf hr
end MKA
end
section
/-- the k-th legal move -/
noncomputable def LMo (m : Int → Int) (sd rt ps ko : Int) (k : Nat) (v : Int) : Prop := (∃ key, key < 32768 ∧ LR m sd rt ps ko key ∧ cnt (LR m sd rt ps ko) key = k ∧ v = mvk key) ∨ (cnt (LR m sd rt ps ko) 32768 ≤ k ∧ v = -1)
section LGM
variable {S S0 : ZS} {x0 tb bb a t p kk : Nat} {m : Int → Int} {sd rt ps kw kb ko : Int} {o : Int32 × ZS} {x1 x2 x3 x4 x5 : Int32} {I : Nat → Int32} {A : Nat → Nat → Int32} {o2 : Int32 × MS}
theorem lgm_k (hP : POS m sd rt ps kw kb) (hko : ko = if sd = 0 then kw else kb) (ha : a < 64) (ht : t < 64) (hp : p < 8) : LR m sd rt ps ko ((a * 64 + t) * 8 + p) ↔ (rch m sd rt ps (a : Int) (t : Int) ∧ safC m sd ps ko (a : Int) (t : Int) 0 ∧ PRo m (a : Int) (t : Int) (p : Int)) := by
  obtain ⟨a1, a2, a3⟩ := key_e (a := a) (t := t) (p := p) (by omega) (by omega)
  have h := lr_lc (key := (a * 64 + t) * 8 + p) hP hko (by omega)
  rw [a1, a2, a3] at h
  exact h
theorem lgm_0 (hP : POS m sd rt ps kw kb) (hko : ko = if sd = 0 then kw else kb) (ha : a < 64) (ht : t < 64) (h : ¬ (rch m sd rt ps (a : Int) (t : Int) ∧ safC m sd ps ko (a : Int) (t : Int) 0)) : cnt (LR m sd rt ps ko) ((a * 64 + t) * 8 + 8) = cnt (LR m sd rt ps ko) ((a * 64 + t) * 8) :=
  cnt_gap (by omega) (fun j h1 h2 hq => by
    obtain ⟨p, rfl⟩ : ∃ p, j = (a * 64 + t) * 8 + p := ⟨j - (a * 64 + t) * 8, by omega⟩
    have := (lgm_k hP hko ha ht (by omega)).1 hq
    exact h ⟨this.1, this.2.1⟩)
theorem lgm_1 (hP : POS m sd rt ps kw kb) (hko : ko = if sd = 0 then kw else kb) (ha : a < 64) (ht : t < 64) (hr : rch m sd rt ps (a : Int) (t : Int)) (hs : safC m sd ps ko (a : Int) (t : Int) 0) (hn : ¬ (m (a : Int) % 8 = 1 ∧ ((t : Int) < 8 ∨ 56 ≤ (t : Int)))) : LR m sd rt ps ko ((a * 64 + t) * 8) ∧ cnt (LR m sd rt ps ko) ((a * 64 + t) * 8 + 8) = cnt (LR m sd rt ps ko) ((a * 64 + t) * 8) + 1 := by
  have q0 : LR m sd rt ps ko ((a * 64 + t) * 8) := by
    have := (lgm_k (p := 0) hP hko ha ht (by decide)).2 ⟨hr, hs, Or.inl ⟨rfl, hn⟩⟩
    exact this
  refine ⟨q0, ?_⟩
  rw [cnt_gap (n := (a * 64 + t) * 8 + 1) (by omega) (fun j h1 h2 hq => by
    obtain ⟨p, rfl⟩ : ∃ p, j = (a * 64 + t) * 8 + p := ⟨j - (a * 64 + t) * 8, by omega⟩
    have := (lgm_k hP hko ha ht (by omega)).1 hq
    rcases this.2.2 with ⟨h, -⟩ | ⟨-, -, h, h'⟩
    · omega
    · exact hn ⟨h, h'⟩)]
  exact cnt_y q0
theorem lgm_4 (hP : POS m sd rt ps kw kb) (hko : ko = if sd = 0 then kw else kb) (ha : a < 64) (ht : t < 64) (hr : rch m sd rt ps (a : Int) (t : Int)) (hs : safC m sd ps ko (a : Int) (t : Int) 0) (hn : m (a : Int) % 8 = 1 ∧ ((t : Int) < 8 ∨ 56 ≤ (t : Int))) : (∀ i, i < 4 → LR m sd rt ps ko ((a * 64 + t) * 8 + 2 + i) ∧ cnt (LR m sd rt ps ko) ((a * 64 + t) * 8 + 2 + i) = cnt (LR m sd rt ps ko) ((a * 64 + t) * 8) + i) ∧ cnt (LR m sd rt ps ko) ((a * 64 + t) * 8 + 8) = cnt (LR m sd rt ps ko) ((a * 64 + t) * 8) + 4 := by
  have q : ∀ i, i < 4 → LR m sd rt ps ko ((a * 64 + t) * 8 + 2 + i) := fun i hi => by
    have := (lgm_k (p := 2 + i) hP hko ha ht (by omega)).2 ⟨hr, hs, Or.inr ⟨by omega, by omega, hn.1, hn.2⟩⟩
    rw [← Nat.add_assoc] at this
    exact this
  have no : ∀ p, p < 8 → (p < 2 ∨ 5 < p) → ¬ LR m sd rt ps ko ((a * 64 + t) * 8 + p) := fun p hp h hq => by
    have := (lgm_k hP hko ha ht hp).1 hq
    rcases this.2.2 with ⟨-, h9⟩ | ⟨h1, h2, -⟩
    · exact h9 hn
    · omega
  have c0 : cnt (LR m sd rt ps ko) ((a * 64 + t) * 8 + 2) = cnt (LR m sd rt ps ko) ((a * 64 + t) * 8) := cnt_gap (by omega) (fun j h1 h2 hq => by
    obtain ⟨p, rfl⟩ : ∃ p, j = (a * 64 + t) * 8 + p := ⟨j - (a * 64 + t) * 8, by omega⟩
    exact no p (by omega) (by omega) hq)
  have c1 := cnt_y (q 0 (by decide))
  have c2 := cnt_y (q 1 (by decide))
  have c3 := cnt_y (q 2 (by decide))
  have c4 := cnt_y (q 3 (by decide))
  have c5 : cnt (LR m sd rt ps ko) ((a * 64 + t) * 8 + 8) = cnt (LR m sd rt ps ko) ((a * 64 + t) * 8 + 6) := cnt_gap (by omega) (fun j h1 h2 hq => by
    obtain ⟨p, rfl⟩ : ∃ p, j = (a * 64 + t) * 8 + p := ⟨j - (a * 64 + t) * 8, by omega⟩
    exact no p (by omega) (by omega) hq)
  have e0 : (a * 64 + t) * 8 + 2 + 0 = (a * 64 + t) * 8 + 2 := rfl
  have e1 : (a * 64 + t) * 8 + 2 + 1 = (a * 64 + t) * 8 + 3 := rfl
  have e2 : (a * 64 + t) * 8 + 2 + 2 = (a * 64 + t) * 8 + 4 := rfl
  have e3 : (a * 64 + t) * 8 + 2 + 3 = (a * 64 + t) * 8 + 5 := rfl
  rw [e0] at c1
  rw [e1] at c2
  rw [e2] at c3
  rw [e3] at c4
  have f1 : (a * 64 + t) * 8 + 2 + 1 = (a * 64 + t) * 8 + 3 := rfl
  have f2 : (a * 64 + t) * 8 + 3 + 1 = (a * 64 + t) * 8 + 4 := rfl
  have f3 : (a * 64 + t) * 8 + 4 + 1 = (a * 64 + t) * 8 + 5 := rfl
  have f4 : (a * 64 + t) * 8 + 5 + 1 = (a * 64 + t) * 8 + 6 := rfl
  rw [f1] at c1
  rw [f2] at c2
  rw [f3] at c3
  rw [f4] at c4
  refine ⟨fun i hi => ⟨q i hi, ?_⟩, by omega⟩
  rcases (show i = 0 ∨ i = 1 ∨ i = 2 ∨ i = 3 by omega) with e | e | e | e
  · rw [e, e0]; omega
  · rw [e, e1]; omega
  · rw [e, e2]; omega
  · rw [e, e3]; omega
theorem mvk_e (ha : a < 64) (ht : t < 64) (hp : p < 8) : mvk ((a * 64 + t) * 8 + p) = (a : Int) + 64 * (t : Int) + 4096 * (p : Int) := by
  obtain ⟨a1, a2, a3⟩ := key_e (a := a) (t := t) (p := p) (by omega) (by omega)
  unfold mvk
  rw [a1, a2, a3]
theorem lgm_21 {self11 : Nat → Nat → Int32 → Int32 → ZS → Option (Int32 × ZS)} {G : Int32 × ZS → Prop} (hP : POS m sd rt ps kw kb) (hko : ko = if sd = 0 then kw else kb) (ha : a < 64) (h4 : x4.toInt = (a : Int)) (H : ∀ (x3 v : Int32) (S : ZS), v.toInt = (a : Int) + 1 → 0 ≤ x3.toInt → (kk : Int) = (cnt (LR m sd rt ps ko) ((a + 1) * 64 * 8) : Int) + x3.toInt → BX S x0 tb bb m sd rt ps kw kb → SB S0 S tb → self11 x0 bb x3 v S = some o → G o) (Hr : ∀ (v : Int32) (S : ZS), LMo m sd rt ps ko kk v.toInt → SB S0 S tb → G (v, S)) : ∀ (n : Nat) (x3 x5 : Int32) (S : ZS) (t : Nat), x5.toInt = (t : Int) → t ≤ 64 → 0 ≤ x3.toInt → (kk : Int) = (cnt (LR m sd rt ps ko) ((a * 64 + t) * 8) : Int) + x3.toInt → BX S x0 tb bb m sd rt ps kw kb → SB S0 S tb → f_X7_legalMove_21 self11 n x0 bb x3 x4 x5 S = some o → G o := by
  intro n
  have hM := hP.2.1
  induction n with
  | zero => intro x3 x5 S t _ _ _ _ _ _ hf; cases hf
  | succ n ih =>
    intro x3 x5 S t h5 ht h3 hk hB hs hf
    have hf : f_X7_legalMove_21s self11 (f_X7_legalMove_21 self11 n) x0 bb x3 x4 x5 S = some o := hf
    have bx3 : x3.toInt ≤ 2147483647 := (tf_b x3).2
    have z1 : (1 : Int32).toInt = 1 := rfl
    have z64 : (64 : Int32).toInt = 64 := rfl
    have nxt : t < 64 → ∀ {x3 : Int32} {S : ZS}, 0 ≤ x3.toInt → (kk : Int) = (cnt (LR m sd rt ps ko) ((a * 64 + t) * 8 + 8) : Int) + x3.toInt → BX S x0 tb bb m sd rt ps kw kb → SB S0 S tb → f_X7_legalMove_110 self11 (f_X7_legalMove_21 self11 n) x0 bb x3 x4 x5 S = some o → G o := fun htl {x3 S} h3 hk hB hs hh => by
      unfold f_X7_legalMove_110 at hh
      obtain ⟨v1, e1, hh⟩ := m_bndE hh
      have t1 : v1.toInt = x5.toInt + 1 := ti_add e1 rfl z1 (by omega) (by omega)
      refine ih x3 v1 S (t + 1) (by omega) (by omega) h3 ?_ hB hs hh
      rw [show (a * 64 + (t + 1)) * 8 = (a * 64 + t) * 8 + 8 by omega]
      exact hk
    unfold f_X7_legalMove_21s at hf
    rcases m_ifE hf with ⟨d, hf⟩ | ⟨d, hf⟩
    · replace d := ti_leP (a := (64 : Int32)) (b := x5) d z64 rfl
      obtain ⟨v1, e1, hf⟩ := m_bndE hf
      have t1 : v1.toInt = x4.toInt + 1 := ti_add e1 rfl z1 (by omega) (by omega)
      refine H x3 v1 S (by omega) h3 ?_ hB hs hf
      have e64 : t = 64 := by omega
      rw [e64] at hk
      rw [show (a + 1) * 64 * 8 = (a * 64 + 64) * 8 by omega]
      exact hk
    · replace d := ti_leN (a := (64 : Int32)) (b := x5) d z64 rfl
      have htl : t < 64 := by omega
      obtain ⟨v2, e2, hf⟩ := m_bndE hf
      obtain ⟨v3, e3, hf⟩ := m_bndE hf
      have s2 : v2.toInt = 64 * x5.toInt := ti_mul e2 z64 rfl (by omega) (by omega)
      have s3 : v3.toInt = x4.toInt + v2.toInt := ti_add e3 rfl rfl (by omega) (by omega)
      obtain ⟨-, hf⟩ := m_chkE hf
      obtain ⟨r4, h_4, hf⟩ := m_calR hf (fun _ h => ro_X0_reaches h)
      obtain ⟨-, b4, q4⟩ := bx_reach hB hM hP.2.2.2.2.2.2.1 (by omega) (by omega) h_4
      dsimp only at b4 q4 hf
      rw [h4, h5] at q4
      rcases m_ifE hf with ⟨d4, hf⟩ | ⟨d4, hf⟩
      · refine nxt htl h3 ?_ hB hs hf
        rw [lgm_0 hP hko ha htl (fun hh => by have := q4.2 hh.1; rw [d4] at this; exact absurd this (by decide))]
        exact hk
      · have hr : rch m sd rt ps (a : Int) (t : Int) := q4.1 (by
          rcases b4 with b | b
          · exact absurd (i32_of b) d4
          · exact b)
        obtain ⟨-, hf⟩ := m_chkE hf
        obtain ⟨⟨r5, S5⟩, h_5, hf⟩ := m_calE hf
        obtain ⟨B5, sb5, b5, q5⟩ := bx_safe hB hM (by omega) h_5
        dsimp only at hf
        have hs5 : SB S0 S5 tb := sb_t hs sb5
        rw [← hko, show v3.toInt % 64 = (a : Int) by omega, show v3.toInt / 64 % 64 = (t : Int) by omega, show v3.toInt / 4096 = 0 by omega] at q5
        rcases m_ifE hf with ⟨d5, hf⟩ | ⟨d5, hf⟩
        · refine nxt htl h3 ?_ B5 hs5 hf
          rw [lgm_0 hP hko ha htl (fun hh => by have := q5.2 hh.2; rw [d5] at this; exact absurd this (by decide))]
          exact hk
        · have hsf : safC m sd ps ko (a : Int) (t : Int) 0 := q5.1 (by
            rcases b5 with b | b
            · exact absurd (i32_of b) d5
            · exact b)
          obtain ⟨-, hf⟩ := m_chkE hf
          obtain ⟨r6, h_6, hf⟩ := m_calR hf (fun _ h => ro_X0_becomesAnother h)
          obtain ⟨-, b6, q6⟩ := bx_another B5 hM (by omega) h_6
          dsimp only at b6 q6 hf
          rw [h4, h5] at q6
          rcases m_ifE hf with ⟨d6, hf⟩ | ⟨d6, hf⟩
          · have hn : ¬ (m (a : Int) % 8 = 1 ∧ ((t : Int) < 8 ∨ 56 ≤ (t : Int))) := fun hh => by
              have := q6.2 hh
              rw [d6] at this
              exact absurd this (by decide)
            obtain ⟨l1, l2⟩ := lgm_1 hP hko ha htl hr hsf hn
            unfold f_X7_legalMove_75 at hf
            rcases m_ifE hf with ⟨d7, hf⟩ | ⟨d7, hf⟩
            · replace d7 := ti_leP (a := (1 : Int32)) (b := x3) d7 z1 rfl
              obtain ⟨w1, g1, hf⟩ := m_bndE hf
              have u1 : w1.toInt = x3.toInt - 1 := ti_sub g1 rfl z1 (by omega) (by omega)
              exact nxt htl (by omega) (by rw [l2]; omega) B5 hs5 hf
            · replace d7 := ti_leN (a := (1 : Int32)) (b := x3) d7 z1 rfl
              rcases m_ifE hf with ⟨-, hf⟩ | ⟨d8, hf⟩
              · unfold f_X7_legalMove_104 at hf
                cases hf
                refine Hr v3 S5 (Or.inl ⟨(a * 64 + t) * 8, by omega, l1, by omega, ?_⟩) hs5
                have := mvk_e (p := 0) ha htl (by decide)
                rw [Nat.add_zero] at this
                rw [this]
                omega
              · exact absurd rfl d8
          · have hn : m (a : Int) % 8 = 1 ∧ ((t : Int) < 8 ∨ 56 ≤ (t : Int)) := q6.1 (by
              rcases b6 with b | b
              · exact absurd (i32_of b) d6
              · exact b)
            obtain ⟨l1, l2⟩ := lgm_4 hP hko ha htl hr hsf hn
            have z4 : (4 : Int32).toInt = 4 := rfl
            unfold f_X7_legalMove_75 at hf
            rcases m_ifE hf with ⟨d7, hf⟩ | ⟨d7, hf⟩
            · replace d7 := ti_leP (a := (4 : Int32)) (b := x3) d7 z4 rfl
              obtain ⟨w1, g1, hf⟩ := m_bndE hf
              have u1 : w1.toInt = x3.toInt - 4 := ti_sub g1 rfl z4 (by omega) (by omega)
              exact nxt htl (by omega) (by rw [l2]; omega) B5 hs5 hf
            · replace d7 := ti_leN (a := (4 : Int32)) (b := x3) d7 z4 rfl
              rcases m_ifE hf with ⟨d8, hf⟩ | ⟨-, hf⟩
              · exact absurd d8 (by decide)
              · obtain ⟨w2, g2, hf⟩ := m_bndE hf
                obtain ⟨w3, g3, hf⟩ := m_bndE hf
                obtain ⟨w4, g4, hf⟩ := m_bndE hf
                have u2 : w2.toInt = 2 + x3.toInt := ti_add g2 (show (2 : Int32).toInt = 2 from rfl) rfl (by omega) (by omega)
                have u3 : w3.toInt = 4096 * w2.toInt := ti_mul g3 (show (4096 : Int32).toInt = 4096 from rfl) rfl (by omega) (by omega)
                have u4 : w4.toInt = v3.toInt + w3.toInt := ti_add g4 rfl rfl (by omega) (by omega)
                unfold f_X7_legalMove_104 at hf
                cases hf
                obtain ⟨k1, k2⟩ := l1 x3.toInt.toNat (by omega)
                refine Hr w4 S5 (Or.inl ⟨(a * 64 + t) * 8 + 2 + x3.toInt.toNat, by omega, k1, by omega, ?_⟩) hs5
                have := mvk_e (p := 2 + x3.toInt.toNat) ha htl (by omega)
                rw [← Nat.add_assoc] at this
                rw [this]
                omega
theorem lgm_11 (hP : POS m sd rt ps kw kb) (hko : ko = if sd = 0 then kw else kb) : ∀ (n : Nat) (x3 x4 : Int32) (S : ZS) (a : Nat), x4.toInt = (a : Int) → a ≤ 64 → 0 ≤ x3.toInt → (kk : Int) = (cnt (LR m sd rt ps ko) (a * 64 * 8) : Int) + x3.toInt → BX S x0 tb bb m sd rt ps kw kb → SB S0 S tb → f_X7_legalMove_11 n x0 bb x3 x4 S = some o → LMo m sd rt ps ko kk o.1.toInt ∧ SB S0 o.2 tb := by
  intro n
  induction n with
  | zero => intro x3 x4 S a _ _ _ _ _ _ hf; cases hf
  | succ n ih =>
    intro x3 x4 S a h4 ha h3 hk hB hs hf
    have hf : f_X7_legalMove_11s (f_X7_legalMove_11 n) x0 bb x3 x4 S = some o := hf
    have z64 : (64 : Int32).toInt = 64 := rfl
    unfold f_X7_legalMove_11s at hf
    rcases m_ifE hf with ⟨d, hf⟩ | ⟨d, hf⟩
    · replace d := ti_leP (a := (64 : Int32)) (b := x4) d z64 rfl
      have e64 : a = 64 := by omega
      rw [e64] at hk
      cases hf
      exact ⟨Or.inr ⟨by have : 64 * 64 * 8 = 32768 := rfl; rw [this] at hk; omega, rfl⟩, hs⟩
    · replace d := ti_leN (a := (64 : Int32)) (b := x4) d z64 rfl
      exact lgm_21 (kk := kk) (S0 := S0) (G := fun o => LMo m sd rt ps ko kk o.1.toInt ∧ SB S0 o.2 tb) hP hko (by omega) h4 (fun x3 v S h1 h2 h5 hB hs hf => ih x3 v S (a + 1) (by omega) (by omega) h2 h5 hB hs hf) (fun v S hl hs => ⟨hl, hs⟩) mFuel x3 0 S 0 rfl (by decide) h3 (by rw [Nat.add_zero]; exact hk) hB hs hf
theorem p_legalMove (hB : BX S x0 tb bb m sd rt ps kw kb) (hP : POS m sd rt ps kw kb) (hko : ko = if sd = 0 then kw else kb) (hf : f_X7_legalMove x0 bb x2 S = some o) : (0 ≤ x2.toInt ∧ LMo m sd rt ps ko x2.toInt.toNat o.1.toInt) ∨ (x2.toInt < 0 ∧ o.1.toInt = -1) := by
  have hf : f_X7_legalMove_0 x0 bb x2 S = some o := hf
  have z0 : (0 : Int32).toInt = 0 := rfl
  unfold f_X7_legalMove_0 at hf
  rcases m_ifE hf with ⟨d, hf⟩ | ⟨d, hf⟩
  · replace d := ti_leP (a := (0 : Int32)) (b := x2) d z0 rfl
    exact Or.inl ⟨d, (lgm_11 (kk := x2.toInt.toNat) (S0 := S) hP hko mFuel x2 0 S 0 rfl (by decide) d (by
      have : cnt (LR m sd rt ps ko) (0 * 64 * 8) = 0 := by rw [show 0 * 64 * 8 = 0 from rfl]; exact cnt_0 (fun j hj => absurd hj (Nat.not_lt_zero _))
      rw [this]; omega) hB sb_0 hf).1⟩
  · replace d := ti_leN (a := (0 : Int32)) (b := x2) d z0 rfl
    cases hf
    exact Or.inr ⟨d, rfl⟩
theorem an_move {o : Int32 × ZS} (hC : CG S) (hR : RIt I A) (h : FM I A S) (h2 : f_move x1 I A = some o2) (ho : f_X11_move 1 x1 S = some o) : o.1 = o2.1 := by
  obtain ⟨hm, g, L, st, T, r, c, w⟩ := h
  obtain ⟨-, -, -, bo, qs⟩ := id w
  obtain ⟨pg, pn1, pn2⟩ := fw_pg w
  have hf : f_X11_move_0 1 x1 S = some o := ho
  have hr : f_move_0 x1 I A = some o2 := h2
  have z0 : (0 : Int32).toInt = 0 := rfl
  have k5 : zK S 5 = 0 := fx_k hC.2.2.1 (by decide) (by decide)
  have B := bx_of (x0 := 4) (tb := 5) hC (fx_k hC.2.2.1 (by decide) (by decide)) (fx_p hC.2.2.1 (by decide)) k5 (fx_p hC.2.2.1 (by decide)) (by decide) bo pg ⟨by omega, by omega⟩
  unfold f_X11_move_0 at hf
  obtain ⟨-, hf⟩ := m_chkE hf
  replace hf := m_calY hf (show zP S 2 1 = some 4 from fx_p hC.2.2.1 (by decide))
  obtain ⟨-, hf⟩ := m_chkE hf
  replace hf := m_calY hf (show zP S 9 1 = some 107 from fx_p hC.2.2.1 (by decide))
  obtain ⟨-, hf⟩ := m_chkE hf
  obtain ⟨⟨y3, S3⟩, h_3, hf⟩ := m_calE hf
  have V := p_legalMove (ko := oko (posT st T c)) B pg rfl h_3
  dsimp only at V
  have eo := (Option.some.inj hf).symm
  unfold f_move_0 at hr
  obtain ⟨I1, e1, hr⟩ := m_bndE hr
  have j33 : I1 33 = I 33 := by rw [e1, upd_ne (by decide)]
  have m1 := qs.2.1
  have neg : f_move_17 I1 A = some o2 → y3.toInt = -1 → o.1 = o2.1 := fun hh hy => by
    unfold f_move_17 f_move_27 at hh
    have e2 := (Option.some.inj hh).symm
    rw [eo, e2]
    exact Int32.toInt_inj.1 (by show y3.toInt = (-1 : Int32).toInt; rw [hy]; rfl)
  rcases m_ifE hr with ⟨d, hr⟩ | ⟨d, hr⟩
  · replace d := ti_ltP (a := x1) (b := (0 : Int32)) d rfl z0
    refine neg hr ?_
    rcases V with ⟨h1, -⟩ | ⟨-, h1⟩
    · omega
    · exact h1
  · replace d := ti_ltN (a := x1) (b := (0 : Int32)) d rfl z0
    have LM : LMo (om (posT st T c)) (osd (posT st T c)) (ort (posT st T c)) (ops (posT st T c)) (oko (posT st T c)) x1.toInt.toNat y3.toInt := by
      rcases V with ⟨-, h1⟩ | ⟨h1, -⟩
      · exact h1
      · omega
    rcases m_ifE hr with ⟨d2, hr⟩ | ⟨d2, hr⟩
    · replace d2 := ti_ltP (a := x1) (b := I1 33) d2 rfl rfl
      rw [j33] at d2
      obtain ⟨-, hr⟩ := m_chkE hr
      obtain ⟨v2, e2, hr⟩ := m_bndE hr
      rw [cl_n (n := x1.toInt.toNat) (by omega)] at e2
      unfold f_move_27 at hr
      have eo2 := (Option.some.inj hr).symm
      rcases LM with ⟨key, q1, q2, q3, q4⟩ | ⟨q1, -⟩
      · have := qs.2.2 key q1 q2
        rw [q3] at this
        rw [eo, eo2]
        exact Int32.toInt_inj.1 (by show y3.toInt = v2.toInt; rw [q4, e2]; exact this.symm)
      · omega
    · replace d2 := ti_ltN (a := x1) (b := I1 33) d2 rfl rfl
      rw [j33] at d2
      refine neg hr ?_
      rcases LM with ⟨key, q1, q2, q3, -⟩ | ⟨-, q2⟩
      · have := cnt_lt q2 q1
        omega
      · exact q2
end LGM
end
section
/-- no sign of the text is 0 -/
noncomputable def NZ (I : Nat → Int32) (A : Nat → Nat → Int32) : Prop := ∀ i, 0 ≤ i → i < (I 1).toInt → txR I A i ≠ 0
/-- the full relation, and a text without 0 -/
noncomputable def FN (I : Nat → Int32) (A : Nat → Nat → Int32) (S : ZS) : Prop := FM I A S ∧ NZ I A
section FND
variable {S S' : ZS} {I I' : Nat → Int32} {A A' : Nat → Nat → Int32} {P : PO} {x1 x3 : Int32} {o2 : Int32 × MS}
theorem fn_c (hK : zK S' = zK S) (hI : zI S' = zI S) (hP : zP S' = zP S) (hN : zN S' = zN S) (hA : zA S' = zA S) (hB : zB S' = zB S) (h : FN I A S) : FN I A S' := ⟨fm_c hK hI hP hN hA hB h.1, h.2⟩
theorem nz_e (h : NZ I A) (h1 : I' 1 = I 1) (h2 : A' 2 = A 2) : NZ I' A' := fun i i0 i1 => by
  rw [tx_fr h1 h2]
  rw [h1] at i1
  exact h i i0 i1
theorem nz_0 (h : (I 1).toInt = 0) : NZ I A := fun i i0 i1 => by omega
theorem bys_z {x : Int64} {n : Int} (h : GBs x n) (hn : n ≤ 8) : ∀ k : Nat, (k : Int) ≤ n → ∀ c ∈ bys x k, c ≠ 0
  | 0, _ => fun c hc => by cases hc
  | k + 1, hk => fun c hc => by
    have hc : c ∈ bys x k ++ [(tyB x (Int32.ofInt (k : Int))).toInt] := hc
    rcases List.mem_append.1 hc with hc | hc
    · exact bys_z h hn k (by omega) c hc
    · rw [List.mem_singleton.1 hc]
      have e8 : ∀ k : Nat, k < 8 → (Int32.ofInt (k : Int)).toInt = (k : Int) := by decide
      have e := e8 k (by omega)
      have q := h (Int32.ofInt (k : Int)) (by omega) (by omega)
      unfold GBy at q
      omega
theorem nz_l {w : List Int} (h : TXl I A w) : NZ I A ↔ ∀ c ∈ w, c ≠ 0 := by
  obtain ⟨h1, h2⟩ := h
  constructor
  · intro hz c hc
    obtain ⟨i, hi, e⟩ := List.mem_iff_getElem.1 hc
    have := hz (i : Int) (by omega) (by omega)
    rw [h2, wA_in hi, e] at this
    exact this
  · intro hz i i0 i1
    obtain ⟨k, rfl⟩ : ∃ k : Nat, i = (k : Int) := ⟨i.toNat, by omega⟩
    rw [h2, wA_in (show k < w.length by omega)]
    exact hz _ (List.getElem_mem _)
theorem nz_type {x : Int64} (hC : CG S) (hs : SM I A S) (hz : NZ I A) (h2 : f_type x x3 I A = some o2) : NZ o2.2.1 o2.2.2 := by
  obtain ⟨w, hw, hl, hcw⟩ := tx_l hC hs.2
  have tl : TXl I A w := ⟨hl.symm, fun i => (hcw i).symm⟩
  have wb := hs.2.2.2
  have wl : w.length ≤ 2000 := by omega
  have hzw := (nz_l tl).1 hz
  rcases v_type tl wl h2 with ⟨⟨⟨n1, n2⟩, n3, n4⟩, b2, b3⟩ | ⟨b1, b2, b3⟩
  · refine (nz_l b3).2 (fun c hc => ?_)
    rcases List.mem_append.1 hc with hc | hc
    · exact hzw c hc
    · exact bys_z n4 n2 _ (by omega) c hc
  · exact (nz_l b3).2 hzw
theorem nz_cut (hz : NZ I A) (h2 : f_cut x1 I A = some o2) : NZ o2.2.1 o2.2.2 := by
  have e2 : o2.2.2 2 = A 2 := (fw_cut h2).2 2 (by decide)
  have key : (o2.2.1 1).toInt ≤ (I 1).toInt := by
    rcases v_cut (N := (I 1).toInt) rfl rfl h2 with ⟨⟨b0, b1⟩, -, -, b4⟩ | ⟨-, -, -, b4⟩
    · omega
    · omega
  intro i i0 i1
  have q := hz i i0 (by omega)
  unfold txR at q ⊢
  rw [if_pos ⟨i0, by omega⟩] at q
  rw [if_pos ⟨i0, i1⟩, e2]
  exact q
theorem nz_say (hN : 0 ≤ (I 1).toInt ∧ (I 1).toInt ≤ 2000) (hz : NZ I A) (h2 : f_say I A = some o2) : NZ o2.2.1 o2.2.2 := by
  rcases v_say (N := (I 1).toInt) rfl rfl hN h2 with ⟨-, -, -, b4⟩ | ⟨-, -, -, b4⟩
  · exact nz_0 b4
  · exact nz_e hz b4 ((fw_say h2).2 2 (by decide))
theorem nz_read (hR : RIt I A) (hs : SM I A S) (hz : NZ I A) (h2 : f_read I A = some o2) : NZ o2.2.1 o2.2.2 := by
  have wb := hs.2.2.2
  have b5 : 0 ≤ (I 5).toInt ∧ (I 5).toInt ≤ 1 := hR.1 5
  rcases v_read (g := 1 - (I 5).toInt.toNat) hR.1 hR.2.1 rfl rfl wb.1 wb.2 (by omega) (by omega) h2 with ⟨L', st', T', r', b1, b2, b3, -⟩ | ⟨b1, b2, b3, b4, -⟩
  · exact nz_0 b3
  · exact nz_e hz b3 b4
/-- the class's own reader of signs and a board -/
theorem srr_9 {bb : Nat} (hC : CG S) (hb : BO S bb P) (hG : PGd P) (hn : 0 ≤ onb P ∧ onb P ≤ 99999) (h1 : bb ≠ 11 ∧ bb ≠ 13) : SRr S 9 10 15 16 11 13 bb (om P) (osd P) (ort P) (ops P) (okw P) (okb P) := by
  have hx := hC.2.2.1
  have k := fun a h1 h2 => fx_k (a := a) hx h1 h2
  obtain ⟨⟨k0, p0, k1⟩, hm, h3, h4, h5, i1, i2, h6⟩ := hb
  have hs := hG.1
  have nb : ∀ a, (a = 16 ∨ a = 12 ∨ a = 14) → zK S a = 14 := fun a ha => by
    rcases ha with e | e | e <;> subst e
    · exact k 16 (by decide) (by decide)
    · exact k 12 (by decide) (by decide)
    · exact k 14 (by decide) (by decide)
  have n16 : (16 : Nat) ≠ bb + 1 := fun e => by
    have : bb = 15 := by omega
    rw [this, show zK S 15 = 6 from k 15 (by decide) (by decide)] at k0
    omega
  refine ⟨⟨⟨hC.1, ⟨k 10 (by decide) (by decide), fx_p hx (by decide)⟩, ⟨k 11 (by decide) (by decide), fx_p hx (by decide)⟩, ⟨k0, p0⟩, h1.1, ?_, hm, h3, h4, h5, i1, i2⟩, ⟨fx_p hx (by decide), k 13 (by decide) (by decide), fx_p hx (by decide)⟩, ⟨fun e => h1.2 e.symm, by decide⟩, by omega⟩, ⟨k 9 (by decide) (by decide), fx_p hx (by decide), fx_p hx (by decide), fx_p hx (by decide)⟩, ⟨k 15 (by decide) (by decide), by decide⟩, ⟨k 16 (by decide) (by decide), hx.2.2.2.2.2.2.2.2⟩, ⟨nb 12 (by omega), nb 14 (by omega), k1⟩, by decide, by decide, n16⟩
  unfold BN
  omega
theorem an_find {o : Int32 × ZS} (hC : CG S) (hR : RIt I A) (h : FM I A S) (hz : NZ I A) (h2 : f_find I A = some o2) (ho : d_X11_find 1 S = some o) : o.1 = o2.1 := by
  obtain ⟨hm, g, L, st, T, r, c, w⟩ := h
  obtain ⟨-, -, -, bo, qs⟩ := id w
  obtain ⟨pg, pn1, pn2⟩ := fw_pg w
  obtain ⟨tx, tN, tb, tc⟩ := id hm.2
  have hx := hC.2.2.1
  obtain ⟨-, RS⟩ := vq_find hR qs pg tb h2
  have hf : d_X11_find_0 1 S = some o := ho
  have k2 : zK S 2 = 6 := fx_k hx (by decide) (by decide)
  unfold d_X11_find_0 at hf
  obtain ⟨-, hf⟩ := m_chkE hf
  replace hf := m_calY hf (show zP S 3 1 = some 9 from fx_p hx (by decide))
  obtain ⟨-, hf⟩ := m_chkE hf
  replace hf := m_calY hf (show zP S 9 1 = some 107 from fx_p hx (by decide))
  obtain ⟨-, hf⟩ := m_chkE hf
  replace hf := m_calY hf (show zP S 0 1 = some 2 from fx_p hx (by decide))
  obtain ⟨-, hf⟩ := m_chkE hf
  replace hf := m_calY hf (show zP S 0 1 = some 2 from fx_p hx (by decide))
  obtain ⟨-, hf⟩ := m_chkE hf
  obtain ⟨⟨y5, S5⟩, h_5, hf⟩ := m_calE hf
  have q5 := pc_X6_size h_5
  have e5 : S5 = S := ro_X6_size h_5
  obtain ⟨-, hf⟩ := m_chkE hf
  dsimp only at q5 hf
  rw [e5] at hf
  obtain ⟨-, hf⟩ := m_chkE hf
  obtain ⟨⟨r7, S8⟩, h_7, hf⟩ := m_cal2E hf
  have eo := (Option.some.inj hf).symm
  have y5N : y5.toInt = (I 1).toInt := by rw [q5]; exact tN
  have z0 : (0 : Int32).toInt = 0 := rfl
  obtain ⟨-, -, RC⟩ := p_matched (ko := oko (posT st T c)) (srr_9 hC bo pg ⟨by omega, by omega⟩ (by decide)) k2 (by decide) tx tc (by decide) (by omega) rfl pg.2.1 pg.2.2.2.2.2.2.1 pg.1 h_7
  dsimp only at RC
  rw [y5N, z0] at RC
  have e := sgV_c pg (fun i i0 i1 => hz i i0 i1) RC
  have e2 := sgV_r RS
  rw [eo]
  exact Int32.toInt_inj.1 (e.1.trans e2.symm)
end FND
end
section
/-- while a move's signs are written -/
noncomputable def PSt (S0 S : ZS) (x0 bb : Nat) (P : PO) (w : List Int) : Prop := ZT S ∧ FIX S ∧ BO S bb P ∧ RWL S 3 w ∧ FR (fun a => a = 3 ∨ (x0 + 2 ≤ a ∧ a ≤ x0 + 5)) S0 S
/-- another man of the same sort that may go there -/
noncomputable def OTh (P : PO) (a t b : Int) : Prop := b ≠ a ∧ om P b = om P a ∧ rch (om P) (osd P) (ort P) (ops P) b t ∧ safC (om P) (osd P) (ops P) (oko P) b t 0
noncomputable def exO (P : PO) (a t n : Int) : Prop := ∃ b, 0 ≤ b ∧ b < n ∧ OTh P a t b
noncomputable def exF (P : PO) (a t n : Int) : Prop := ∃ b, 0 ≤ b ∧ b < n ∧ OTh P a t b ∧ b % 8 = a % 8
noncomputable def exR (P : PO) (a t n : Int) : Prop := ∃ b, 0 ≤ b ∧ b < n ∧ OTh P a t b ∧ b / 8 = a / 8
/-- how a man is told apart -/
noncomputable def apP (P : PO) (a t : Int) : Int := @ite _ (exO P a t 64) (Classical.propDecidable _) (@ite _ (exF P a t 64) (Classical.propDecidable _) (@ite _ (exR P a t 64) (Classical.propDecidable _) 3 2) 1) 0
noncomputable def tkV (P : PO) (a t : Int) : Int := @ite _ (tkg (om P) a t) (Classical.propDecidable _) 1 0
noncomputable def apW (P : PO) (x : Int) : Int := if om P (x % 64) % 8 = 1 then tkV P (x % 64) (x / 64 % 64) else apP P (x % 64) (x / 64 % 64)
noncomputable def apL (a ap : Int) : List Int := (if 0 ≤ (if ap % 2 = 1 then a % 8 else -1) then [97 + (if ap % 2 = 1 then a % 8 else -1)] else []) ++ (if 0 ≤ (if 1 < ap then a / 8 else -1) then [49 + (if 1 < ap then a / 8 else -1)] else [])
section PSG
variable {S S0 S' : ZS} {x0 bb : Nat} {P : PO} {w : List Int} {x1 x2 x3 x4 x5 x6 x7 x8 v y c : Int32} {a t n : Int} {o : Int32 × ZS}
theorem fr_bt {b c : Nat} (hT : ZT S) (hk : zK S (b + 1) = 14) (hk2 : zK S (c + 1) = 14) (h : SBt S S' b c) : FR (fun a => a = b ∨ a = b + 1 ∨ a = c ∨ a = c + 1) S S' := fun a _ => by
  obtain ⟨⟨-, -, e1, e2, e3⟩, h2, h3, h4, -⟩ := h
  refine ⟨⟨by rw [e1], by rw [e2], fun _ _ => by rw [h2], fun _ => by rw [e3]⟩, fun hw => ⟨by rw [e1], by rw [e2], fun j => h3 j a (fun e => hw (Or.inl e)) (fun e => hw (Or.inr (Or.inr (Or.inl e)))), fun _ => by rw [h2], by rw [e3], fun _ => h4 a (fun e => hw (Or.inr (Or.inl e))) (fun e => hw (Or.inr (Or.inr (Or.inr e)))), fun h6 d hd => h4 d (row_n hT h6 hd (by rw [hk]; decide) (by rw [hk]; decide)) (row_n hT h6 hd (by rw [hk2]; decide) (by rw [hk2]; decide))⟩⟩
theorem ps_cx (hx : x0 = 17 ∨ x0 = 78) (hb : 84 < bb) (h : PSt S0 S x0 bb P w) (pg : PGd P) (hn : 0 ≤ onb P ∧ onb P ≤ 99999) : CXr S (x0 + 1) (x0 + 2) (x0 + 4) bb (om P) (osd P) (ort P) (ops P) (okw P) (okb P) := by
  obtain ⟨hT, X, ⟨⟨b1, b2, b3⟩, b4, b5, b6, b7, b8, b9, b10⟩, -, -⟩ := h
  have s := pg.1
  rcases hx with e | e
  · subst e
    exact ⟨⟨hT, ⟨fx_k X (by decide) (by decide), fx_p X (by decide)⟩, ⟨fx_k X (by decide) (by decide), fx_p X (by decide)⟩, ⟨b1, b2⟩, by omega, ⟨by omega, by omega⟩, b4, b5, b6, b7, b8, b9⟩, ⟨fx_p X (by decide), fx_k X (by decide) (by decide), fx_p X (by decide)⟩, ⟨by omega, by decide⟩, by omega⟩
  · subst e
    exact ⟨⟨hT, ⟨fx_k X (by decide) (by decide), fx_p X (by decide)⟩, ⟨fx_k X (by decide) (by decide), fx_p X (by decide)⟩, ⟨b1, b2⟩, by omega, ⟨by omega, by omega⟩, b4, b5, b6, b7, b8, b9⟩, ⟨fx_p X (by decide), fx_k X (by decide) (by decide), fx_p X (by decide)⟩, ⟨by omega, by decide⟩, by omega⟩
theorem ps_k (hx : x0 = 17 ∨ x0 = 78) (X : FIX S) : zK S (x0 + 2 + 1) = 14 ∧ zK S (x0 + 4 + 1) = 14 ∧ zK S 3 = 6 ∧ zP S 0 x0 = some (x0 + 1) := by
  rcases hx with e | e
  · subst e
    exact ⟨fx_k X (by decide) (by decide), fx_k X (by decide) (by decide), fx_k X (by decide) (by decide), fx_p X (by decide)⟩
  · subst e
    exact ⟨fx_k X (by decide) (by decide), fx_k X (by decide) (by decide), fx_k X (by decide) (by decide), fx_p X (by decide)⟩
theorem ps_put (hx : x0 = 17 ∨ x0 = 78) (hb : 84 < bb) (h : PSt S0 S x0 bb P w) (hl : w.length ≤ 80000) (hc : 0 ≤ c.toInt ∧ c.toInt ≤ 65535) (hf : d_X6_put 3 c S = some (y, S')) : PSt S0 S' x0 bb P (w ++ [c.toInt]) := by
  obtain ⟨hT, X, bo, hr, F⟩ := h
  have k3 : zK S 3 = 6 := fx_k X (by decide) (by decide)
  obtain ⟨g1, g2⟩ := p_rput hT k3 hr (by omega) hc hf
  have r3 : rL 3 = 90000 := by decide
  have T' : ZT S' := (ok_of (p_d_X6_put (SZ := S) hT (rpc_of (rp_0 S)) k3 hc (by rw [hr.1, r3]; omega)) hf).1
  have F1 : FR (fun a => a = 3) S S' := fr_r g2 k3
  exact ⟨T', fix_fr X F1, bo_fr bo F1 (by omega) (by omega), g1, fr_t F (fr_m F1 (fun a _ e => Or.inl e))⟩
theorem ps_safe (hx : x0 = 17 ∨ x0 = 78) (hb : 84 < bb) (h : PSt S0 S x0 bb P w) (pg : PGd P) (hn : 0 ≤ onb P ∧ onb P ≤ 99999) (hv : 0 ≤ v.toInt ∧ v.toInt ≤ 24575) (hf : f_X7_isSafe (x0 + 1) bb v S = some (y, S')) : PSt S0 S' x0 bb P w ∧ (y.toInt = 0 ∨ y.toInt = 1) ∧ (y.toInt = 1 ↔ safC (om P) (osd P) (ops P) (oko P) (v.toInt % 64) (v.toInt / 64 % 64) (v.toInt / 4096)) := by
  have cx := ps_cx hx hb h pg hn
  obtain ⟨b1, b2, b3, b4⟩ := bx_safe cx.1 pg.2.1 hv hf
  obtain ⟨hT, X, bo, hr, F⟩ := h
  obtain ⟨k1, -, k3, -⟩ := ps_k hx X
  have F1 := fr_b hT k1 b2
  refine ⟨⟨b1.1, fix_fr X F1, bo_fr bo F1 (by omega) (by omega), eqc_rl (fr_e F1 (by rw [k3]; decide) (by omega)) k3 hr, fr_t F (fr_m F1 (fun a _ e => Or.inr (by omega)))⟩, b3, b4⟩
theorem ps_check (hx : x0 = 17 ∨ x0 = 78) (hb : 84 < bb) (h : PSt S0 S x0 bb P w) (pg : PGd P) (hn : 0 ≤ onb P ∧ onb P ≤ 99999) (LG : LGo P v.toInt) (hf : f_X7_checkSign (x0 + 1) bb v S = some o) : PSt S0 o.2 x0 bb P w ∧ csF (om P) (osd P) (ort P) (ops P) (okw P) (okb P) v.toInt o.1.toInt := by
  have cx := ps_cx hx hb h pg hn
  have pa := pgd_af pg LG
  obtain ⟨b1, b2, b3⟩ := p_checkSign cx pg.2.1 LG.1 pg.1 pa.2.2.2.2.2.2.1 pa.2.1 hf
  obtain ⟨hT, X, bo, hr, F⟩ := h
  obtain ⟨k1, k2, k3, -⟩ := ps_k hx X
  have F1 := fr_bt hT k1 k2 b2
  exact ⟨⟨b1.1.1, fix_fr X F1, bo_fr bo F1 (by omega) (by omega), eqc_rl (fr_e F1 (by rw [k3]; decide) (by omega)) k3 hr, fr_t F (fr_m F1 (fun a _ e => Or.inr (by omega)))⟩, b3⟩
theorem pc_fl (h : 0 ≤ x1.toInt ∧ x1.toInt ≤ 63) (hf : f_X11_fileLetter x1 S = some o) : o.2 = S ∧ o.1.toInt = 97 + x1.toInt % 8 := by
  have hf : f_X11_fileLetter_0 x1 S = some o := hf
  unfold f_X11_fileLetter_0 at hf
  obtain ⟨v1, e1, hf⟩ := m_bndE hf
  obtain ⟨v2, e2, hf⟩ := m_bndE hf
  obtain ⟨v3, e3, hf⟩ := m_bndE hf
  have t1 : v1.toInt = x1.toInt % 8 := sq_7 e1 (by omega)
  have t2 : v2.toInt = 97 + v1.toInt := ti_add e2 (show (97 : Int32).toInt = 97 from rfl) rfl (by omega) (by omega)
  have t3 : v3.toInt = v2.toInt := by rw [e3]; exact nar_ci rfl (by omega) (by omega)
  obtain ⟨-, hf⟩ := m_chkE hf
  cases hf
  exact ⟨rfl, by show v3.toInt = _; omega⟩
theorem pc_rd (h : 0 ≤ x1.toInt ∧ x1.toInt ≤ 63) (hf : f_X11_rankDigit x1 S = some o) : o.2 = S ∧ o.1.toInt = 49 + x1.toInt / 8 := by
  have hf : f_X11_rankDigit_0 x1 S = some o := hf
  unfold f_X11_rankDigit_0 at hf
  obtain ⟨v1, e1, hf⟩ := m_bndE hf
  obtain ⟨v2, e2, hf⟩ := m_bndE hf
  obtain ⟨v3, e3, hf⟩ := m_bndE hf
  have t1 : v1.toInt = x1.toInt / 8 := b_sh3 e1 h
  have t2 : v2.toInt = 49 + v1.toInt := ti_add e2 (show (49 : Int32).toInt = 49 from rfl) rfl (by omega) (by omega)
  have t3 : v3.toInt = v2.toInt := by rw [e3]; exact nar_ci rfl (by omega) (by omega)
  obtain ⟨-, hf⟩ := m_chkE hf
  cases hf
  exact ⟨rfl, by show v3.toInt = _; omega⟩
theorem pc_lt (h : 2 ≤ x1.toInt ∧ x1.toInt ≤ 6) (hf : f_X11_letterOf x1 S = some o) : o.2 = S ∧ o.1.toInt = ltK x1.toInt := by
  have e0 : o.2 = S := ro_X11_letterOf hf
  have hf : f_X11_letterOf_0 x1 S = some o := hf
  have z1 : (1 : Int32).toInt = 1 := rfl
  unfold f_X11_letterOf_0 at hf
  rcases m_ifE hf with ⟨d, hf⟩ | ⟨-, hf⟩
  · replace d := ti_ltP (a := x1) (b := (1 : Int32)) d rfl z1
    omega
  · rcases m_ifE hf with ⟨d, hf⟩ | ⟨-, hf⟩
    · replace d := ti_ltP (a := (6 : Int32)) (b := x1) d (show (6 : Int32).toInt = 6 from rfl) rfl
      omega
    · obtain ⟨v1, e1, hf⟩ := m_bndE hf
      have t1 : v1.toInt = x1.toInt - 1 := ti_sub e1 rfl z1 (by omega) (by omega)
      obtain ⟨-, hf⟩ := m_chkE hf
      obtain ⟨⟨r2, S2⟩, h_2, hf⟩ := m_calE hf
      obtain ⟨-, -, -, q⟩ := pc_J0_charAt_5068e h_2
      unfold f_X11_letterOf_25 at hf
      obtain ⟨-, hf⟩ := m_chkE hf
      cases hf
      refine ⟨e0, ?_⟩
      show r2.toInt = _
      dsimp only at q
      rw [q]
      have key : ∀ k : Nat, k < 7 → 2 ≤ k → (strL 9).getD (k - 1) 0 = ltK (k : Int) := by decide +kernel
      have := key x1.toInt.toNat (by omega) (by omega)
      rw [show ((x1.toInt.toNat : Nat) : Int) = x1.toInt by omega] at this
      rw [← this, show v1.toInt.toNat = x1.toInt.toNat - 1 by omega]
theorem ex_s {Q : Int → Prop} {n : Int} (hn : 0 ≤ n) : (∃ b, 0 ≤ b ∧ b < n + 1 ∧ Q b) ↔ ((∃ b, 0 ≤ b ∧ b < n ∧ Q b) ∨ Q n) := by
  constructor
  · rintro ⟨b, b0, b1, hb⟩
    by_cases e : b = n
    · exact Or.inr (by rw [← e]; exact hb)
    · exact Or.inl ⟨b, b0, by omega, hb⟩
  · rintro (⟨b, b0, b1, hb⟩ | h)
    · exact ⟨b, b0, by omega, hb⟩
    · exact ⟨n, hn, by omega, h⟩
theorem apP_v {x5 x6 x7 : Prop} (h5 : x5 ↔ exO P a t 64) (h6 : x6 ↔ exF P a t 64) (h7 : x7 ↔ exR P a t 64) : (¬ x5 → apP P a t = 0) ∧ (x5 → ¬ x6 → apP P a t = 1) ∧ (x5 → x6 → ¬ x7 → apP P a t = 2) ∧ (x5 → x6 → x7 → apP P a t = 3) := by
  unfold apP
  refine ⟨fun h => if_neg (fun e => h (h5.2 e)), fun h g => ?_, fun h g f => ?_, fun h g f => ?_⟩
  · rw [if_pos (h5.1 h)]; exact if_neg (fun e => g (h6.2 e))
  · rw [if_pos (h5.1 h), if_pos (h6.1 g)]; exact if_neg (fun e => f (h7.2 e))
  · rw [if_pos (h5.1 h), if_pos (h6.1 g)]; exact if_pos (h7.1 f)
theorem exF_O (h : exF P a t n) : exO P a t n := h.elim (fun b h => ⟨b, h.1, h.2.1, h.2.2.1⟩)
/-- the class tells men apart -/
theorem pa_12 (hx : x0 = 17 ∨ x0 = 78) (hb : 84 < bb) (pg : PGd P) (hn : 0 ≤ onb P ∧ onb P ≤ 99999) (hl : w.length ≤ 79000) (h2 : x2.toInt = a) (h3 : x3.toInt = t) (ha : 0 ≤ a ∧ a ≤ 63) (ht : 0 ≤ t ∧ t ≤ 63) : ∀ (n : Nat) (x5 x6 x7 x8 : Int32) (S : ZS), (0 ≤ x8.toInt ∧ x8.toInt ≤ 64) → (x5.toInt = 0 ∨ x5.toInt = 1) → (x6.toInt = 0 ∨ x6.toInt = 1) → (x7.toInt = 0 ∨ x7.toInt = 1) → (x5.toInt = 1 ↔ exO P a t x8.toInt) → (x6.toInt = 1 ↔ exF P a t x8.toInt) → (x7.toInt = 1 ↔ exR P a t x8.toInt) → PSt S0 S x0 bb P w → d_X9_putApart_12 n x0 bb x2 x3 3 x5 x6 x7 x8 S = some o → PSt S0 o.2 x0 bb P (w ++ apL a (apP P a t)) := by
  have z0 : (0 : Int32).toInt = 0 := rfl
  have z1 : (1 : Int32).toInt = 1 := rfl
  have z64 : (64 : Int32).toInt = 64 := rfl
  have hM := pg.2.1
  have p148 : ∀ {w : List Int} {S : ZS} {x6 : Int32}, w.length ≤ 79010 → PSt S0 S x0 bb P w → d_X9_putApart_148 x2 3 x6 S = some o → (x6.toInt = 0 → PSt S0 o.2 x0 bb P w) ∧ (x6.toInt ≠ 0 → PSt S0 o.2 x0 bb P (w ++ [49 + a / 8])) := fun {w S x6} hl h hh => by
    unfold d_X9_putApart_148 d_X9_putApart_162 at hh
    rcases m_ifE hh with ⟨d, hh⟩ | ⟨d, hh⟩
    · cases hh
      exact ⟨fun _ => h, fun e => absurd (by rw [d]; rfl) e⟩
    · obtain ⟨⟨r1, S1⟩, h_1, hh⟩ := m_calE hh
      obtain ⟨e1, q1⟩ := pc_rd (by omega) h_1
      obtain ⟨-, hh⟩ := m_chkE hh
      dsimp only at e1 q1 hh
      rw [e1] at hh
      obtain ⟨-, hh⟩ := m_chkE hh
      obtain ⟨⟨r3, S4⟩, h_3, hh⟩ := m_cal2E hh
      have P4 := ps_put hx hb h (by omega) (by omega) h_3
      rw [q1, h2] at P4
      cases hh
      exact ⟨fun e => absurd (i32_of e) d, fun _ => P4⟩
  have p139 : ∀ {S : ZS} {x6 : Int32}, PSt S0 S x0 bb P w → d_X9_putApart_139 x2 3 x6 S = some o → (x6.toInt = 0 → PSt S0 o.2 x0 bb P (w ++ [97 + a % 8])) ∧ (x6.toInt ≠ 0 → PSt S0 o.2 x0 bb P (w ++ [97 + a % 8] ++ [49 + a / 8])) := fun {S x6} h hh => by
    unfold d_X9_putApart_139 at hh
    obtain ⟨⟨r1, S1⟩, h_1, hh⟩ := m_calE hh
    obtain ⟨e1, q1⟩ := pc_fl (by omega) h_1
    obtain ⟨-, hh⟩ := m_chkE hh
    dsimp only at e1 q1 hh
    rw [e1] at hh
    obtain ⟨-, hh⟩ := m_chkE hh
    obtain ⟨⟨r3, S4⟩, h_3, hh⟩ := m_cal2E hh
    have P4 := ps_put hx hb h (by omega) (by omega) h_3
    rw [q1, h2] at P4
    exact p148 (by rw [List.length_append]; show w.length + 1 ≤ 79010; omega) P4 hh
  have e0 : apL a 0 = [] := by
    unfold apL
    rw [if_neg (show ¬ (0 : Int) ≤ (if (0 : Int) % 2 = 1 then a % 8 else -1) by rw [if_neg (by decide)]; decide), if_neg (show ¬ (0 : Int) ≤ (if (1 : Int) < 0 then a / 8 else -1) by rw [if_neg (by decide)]; decide)]
    rfl
  have e1 : apL a 1 = [97 + a % 8] := by
    unfold apL
    rw [if_pos (show (1 : Int) % 2 = 1 by decide), if_pos (by omega), if_neg (show ¬ (0 : Int) ≤ (if (1 : Int) < 1 then a / 8 else -1) by rw [if_neg (by decide)]; decide)]
    rfl
  have e2 : apL a 2 = [49 + a / 8] := by
    unfold apL
    rw [if_neg (show ¬ (0 : Int) ≤ (if (2 : Int) % 2 = 1 then a % 8 else -1) by rw [if_neg (by decide)]; decide), if_pos (show (1 : Int) < 2 by decide), if_pos (by omega)]
    rfl
  have e3 : apL a 3 = [97 + a % 8] ++ [49 + a / 8] := by
    unfold apL
    rw [if_pos (show (3 : Int) % 2 = 1 by decide), if_pos (by omega), if_pos (show (1 : Int) < 3 by decide), if_pos (by omega)]
  intro n
  induction n with
  | zero => intro x5 x6 x7 x8 S _ _ _ _ _ _ _ _ hf; cases hf
  | succ n ih =>
    intro x5 x6 x7 x8 S h8 b5 b6 b7 q5 q6 q7 h hf
    have hf : d_X9_putApart_12s (d_X9_putApart_12 n) x0 bb x2 x3 3 x5 x6 x7 x8 S = some o := hf
    unfold d_X9_putApart_12s at hf
    rcases m_ifE hf with ⟨d, hf⟩ | ⟨d, hf⟩
    · replace d := ti_leP (a := (64 : Int32)) (b := x8) d z64 rfl
      have e64 : x8.toInt = 64 := by omega
      rw [e64] at q5 q6 q7
      obtain ⟨v0, v1, v2, v3⟩ := apP_v q5 q6 q7
      rcases m_ifE hf with ⟨d5, hf⟩ | ⟨d5, hf⟩
      · have d5' : x5.toInt = 0 := by rw [d5]; rfl
        have n6 : x6.toInt = 0 := by
          rcases b6 with b | b
          · exact b
          · have := q5.2 (exF_O (q6.1 b))
            omega
        rw [v0 (by omega), e0, List.append_nil]
        exact (p148 (by omega) h hf).1 n6
      · have d5' : x5.toInt = 1 := by
          rcases b5 with b | b
          · exact absurd (i32_of b) d5
          · exact b
        rcases m_ifE hf with ⟨d6, hf⟩ | ⟨d6, hf⟩
        · have d6' : x6.toInt = 0 := by rw [d6]; rfl
          rw [v1 d5' (by omega), e1]
          exact (p139 h hf).1 d6'
        · have d6' : x6.toInt = 1 := by
            rcases b6 with b | b
            · exact absurd (i32_of b) d6
            · exact b
          rcases m_ifE hf with ⟨d7, hf⟩ | ⟨d7, hf⟩
          · have d7' : x7.toInt = 0 := by rw [d7]; rfl
            rw [v2 d5' d6' (by omega), e2]
            exact (p148 (by omega) h hf).2 (by omega)
          · have d7' : x7.toInt = 1 := by
              rcases b7 with b | b
              · exact absurd (i32_of b) d7
              · exact b
            rw [v3 d5' d6' d7', e3, ← List.append_assoc]
            exact (p139 h hf).2 (by omega)
    · replace d := ti_leN (a := (64 : Int32)) (b := x8) d z64 rfl
      have nxt : ∀ {x5 x6 x7 : Int32} {S : ZS}, (x5.toInt = 0 ∨ x5.toInt = 1) → (x6.toInt = 0 ∨ x6.toInt = 1) → (x7.toInt = 0 ∨ x7.toInt = 1) → (x5.toInt = 1 ↔ exO P a t (x8.toInt + 1)) → (x6.toInt = 1 ↔ exF P a t (x8.toInt + 1)) → (x7.toInt = 1 ↔ exR P a t (x8.toInt + 1)) → PSt S0 S x0 bb P w → d_X9_putApart_118 (d_X9_putApart_12 n) x0 bb x2 x3 3 x5 x6 x7 x8 S = some o → PSt S0 o.2 x0 bb P (w ++ apL a (apP P a t)) := fun {x5 x6 x7 S} b5 b6 b7 q5 q6 q7 h hh => by
        unfold d_X9_putApart_118 at hh
        obtain ⟨v1, g1, hh⟩ := m_bndE hh
        have u1 : v1.toInt = x8.toInt + 1 := ti_add g1 rfl z1 (by omega) (by omega)
        exact ih x5 x6 x7 v1 S (by omega) b5 b6 b7 (by rw [u1]; exact q5) (by rw [u1]; exact q6) (by rw [u1]; exact q7) h hh
      have s5 : exO P a t (x8.toInt + 1) ↔ (exO P a t x8.toInt ∨ OTh P a t x8.toInt) := ex_s h8.1
      have s6 : exF P a t (x8.toInt + 1) ↔ (exF P a t x8.toInt ∨ (OTh P a t x8.toInt ∧ x8.toInt % 8 = a % 8)) := ex_s h8.1
      have s7 : exR P a t (x8.toInt + 1) ↔ (exR P a t x8.toInt ∨ (OTh P a t x8.toInt ∧ x8.toInt / 8 = a / 8)) := ex_s h8.1
      have no : ∀ {S : ZS}, ¬ OTh P a t x8.toInt → PSt S0 S x0 bb P w → d_X9_putApart_118 (d_X9_putApart_12 n) x0 bb x2 x3 3 x5 x6 x7 x8 S = some o → PSt S0 o.2 x0 bb P (w ++ apL a (apP P a t)) := fun {S} hno h hh =>
        nxt b5 b6 b7 (q5.trans ⟨fun e => s5.2 (Or.inl e), fun e => (s5.1 e).resolve_right hno⟩) (q6.trans ⟨fun e => s6.2 (Or.inl e), fun e => (s6.1 e).resolve_right (fun g => hno g.1)⟩) (q7.trans ⟨fun e => s7.2 (Or.inl e), fun e => (s7.1 e).resolve_right (fun g => hno g.1)⟩) h hh
      rcases m_ifE hf with ⟨d8, hf⟩ | ⟨d8, hf⟩
      · exact no (fun e => e.1 (by rw [d8]; exact h2)) h hf
      · have d8' := ti_eqN (a := x8) (b := x2) d8 rfl rfl
        obtain ⟨hT, X, bo, hr, F⟩ := id h
        have hm := bo.2.1
        have k1 := bo.1.1
        have pb := bo.1.2.1
        obtain ⟨-, hf⟩ := m_chkE hf
        replace hf := m_calY hf pb
        obtain ⟨-, hf⟩ := m_chkE hf
        obtain ⟨-, hf⟩ := m_chkE hf
        obtain ⟨v2, g2, hf⟩ := m_bndE hf
        obtain ⟨-, hf⟩ := m_chkE hf
        replace hf := m_calY hf pb
        obtain ⟨-, hf⟩ := m_chkE hf
        obtain ⟨-, hf⟩ := m_chkE hf
        obtain ⟨v4, g4, hf⟩ := m_bndE hf
        have mm : ∀ {x v : Int32}, 0 ≤ x.toInt → x.toInt < 64 → v = zA S (bb + 1) x.toNatClampNeg → om P x.toInt = v.toInt := fun {x v} y0 y1 e => by
          rw [← hm]
          unfold mCb
          rw [if_pos ⟨y0, y1⟩, pb, e, cl_n (n := x.toInt.toNat) (by omega)]
        have u2 := mm h8.1 (by omega) g2
        have u4 := mm (x := x2) (by omega) (by omega) g4
        rw [h2] at u4
        rcases m_ifE hf with ⟨d9, hf⟩ | ⟨d9, hf⟩
        · obtain ⟨-, hf⟩ := m_chkE hf
          obtain ⟨⟨r5, S5⟩, h_5, hf⟩ := m_calE hf
          have cx := ps_cx hx hb h pg hn
          obtain ⟨e5, c5, l5⟩ := bx_reach cx.1 hM pg.2.2.2.2.2.2.1 (by omega) (by omega) h_5
          obtain ⟨-, hf⟩ := m_chkE hf
          dsimp only at hf
          rw [e5] at hf
          rw [h3] at l5
          rcases m_ifE hf with ⟨da, hf⟩ | ⟨da, hf⟩
          · exact no (fun e => by have := l5.2 e.2.2.1; rw [da] at this; exact absurd this (by decide)) h hf
          · have hre := l5.1 (by
              rcases c5 with b | b
              · exact absurd (i32_of b) da
              · exact b)
            obtain ⟨-, hf⟩ := m_chkE hf
            replace hf := m_calY hf (ps_k hx X).2.2.2
            obtain ⟨v7, g7, hf⟩ := m_bndE hf
            obtain ⟨v8, g8, hf⟩ := m_bndE hf
            have u7 : v7.toInt = 64 * x3.toInt := ti_mul g7 z64 rfl (by omega) (by omega)
            have u8 : v8.toInt = x8.toInt + v7.toInt := ti_add g8 rfl rfl (by omega) (by omega)
            obtain ⟨-, hf⟩ := m_chkE hf
            obtain ⟨⟨r9, S9⟩, h_9, hf⟩ := m_calE hf
            obtain ⟨P9, c9, l9⟩ := ps_safe hx hb h pg hn (by omega) h_9
            obtain ⟨-, hf⟩ := m_chkE hf
            dsimp only at hf
            rw [show v8.toInt % 64 = x8.toInt by omega, show v8.toInt / 64 % 64 = t by omega, show v8.toInt / 4096 = 0 by omega] at l9
            rcases m_ifE hf with ⟨db, hf⟩ | ⟨db, hf⟩
            · exact no (fun e => by have := l9.2 e.2.2.2; rw [db] at this; exact absurd this (by decide)) P9 hf
            · have yes : OTh P a t x8.toInt := ⟨by omega, by rw [u2, u4, d9], hre, l9.1 (by
                rcases c9 with b | b
                · exact absurd (i32_of b) db
                · exact b)⟩
              -- the rank, once the file is known
              have rk : ∀ t0 : Int32, (t0.toInt = 0 ∨ t0.toInt = 1) → (t0.toInt = 1 ↔ exF P a t (x8.toInt + 1)) → d_X9_putApart_94 (d_X9_putApart_12 n) x0 bb x2 x3 3 1 x7 x8 t0 S9 = some o → PSt S0 o.2 x0 bb P (w ++ apL a (apP P a t)) := fun t0 b0 l0 hh => by
                have o5 : ((1 : Int32).toInt = 1 ↔ exO P a t (x8.toInt + 1)) := ⟨fun _ => s5.2 (Or.inr yes), fun _ => rfl⟩
                unfold d_X9_putApart_94 at hh
                rcases m_ifE hh with ⟨dc, hh⟩ | ⟨dc, hh⟩
                · have dc' : x7.toInt = 0 := by rw [dc]; rfl
                  obtain ⟨w1, k1', hh⟩ := m_bndE hh
                  obtain ⟨w2, k2', hh⟩ := m_bndE hh
                  have y1 : w1.toInt = x8.toInt / 8 := b_sh3 k1' (by omega)
                  have y2 : w2.toInt = x2.toInt / 8 := b_sh3 k2' (by omega)
                  rw [h2] at y2
                  rcases m_ifE hh with ⟨dd, hh⟩ | ⟨dd, hh⟩
                  · replace dd := ti_eqP (a := w1) (b := w2) dd rfl rfl
                    unfold d_X9_putApart_111 d_X9_putApart_116 at hh
                    exact nxt (Or.inr rfl) b0 (Or.inr rfl) o5 l0 ⟨fun _ => s7.2 (Or.inr ⟨yes, by omega⟩), fun _ => rfl⟩ P9 hh
                  · replace dd := ti_eqN (a := w1) (b := w2) dd rfl rfl
                    unfold d_X9_putApart_116 at hh
                    refine nxt (Or.inr rfl) b0 (Or.inl rfl) o5 l0 ⟨fun e => absurd e (by decide), fun e => ?_⟩ P9 hh
                    rcases s7.1 e with e | e
                    · have := q7.2 e
                      omega
                    · omega
                · have dc' : x7.toInt = 1 := by
                    rcases b7 with b | b
                    · exact absurd (i32_of b) dc
                    · exact b
                  unfold d_X9_putApart_111 d_X9_putApart_116 at hh
                  exact nxt (Or.inr rfl) b0 (Or.inr rfl) o5 l0 ⟨fun _ => s7.2 (Or.inl (q7.1 dc')), fun _ => rfl⟩ P9 hh
              rcases m_ifE hf with ⟨dc, hf⟩ | ⟨dc, hf⟩
              · have dc' : x6.toInt = 0 := by rw [dc]; rfl
                obtain ⟨w1, k1', hf⟩ := m_bndE hf
                obtain ⟨w2, k2', hf⟩ := m_bndE hf
                have y1 : w1.toInt = x8.toInt % 8 := sq_7 k1' (by omega)
                have y2 : w2.toInt = x2.toInt % 8 := sq_7 k2' (by omega)
                rw [h2] at y2
                rcases m_ifE hf with ⟨dd, hf⟩ | ⟨dd, hf⟩
                · replace dd := ti_eqP (a := w1) (b := w2) dd rfl rfl
                  unfold d_X9_putApart_89 at hf
                  exact rk 1 (Or.inr rfl) ⟨fun _ => s6.2 (Or.inr ⟨yes, by omega⟩), fun _ => rfl⟩ hf
                · replace dd := ti_eqN (a := w1) (b := w2) dd rfl rfl
                  refine rk 0 (Or.inl rfl) ⟨fun e => absurd e (by decide), fun e => ?_⟩ hf
                  rcases s6.1 e with e | e
                  · have := q6.2 e
                    omega
                  · omega
              · have dc' : x6.toInt = 1 := by
                  rcases b6 with b | b
                  · exact absurd (i32_of b) dc
                  · exact b
                unfold d_X9_putApart_89 at hf
                exact rk 1 (Or.inr rfl) ⟨fun _ => s6.2 (Or.inl (q6.1 dc')), fun _ => rfl⟩ hf
        · exact no (fun e => d9 (Int32.toInt_inj.1 (by rw [← u2, ← u4]; exact e.2.1))) h hf
end PSG
end
section
/-- the sign behind a move -/
noncomputable def ckL (ck : Int) : List Int := if ck = 0 then [] else [ck]
/-- the signs of a move -/
noncomputable def sgW (P : PO) (x ck : Int) : List Int := spW (om P) x (apW P x) (tkV P (x % 64) (x / 64 % 64)) ++ ckL ck
section PSH
variable {S S0 S' : ZS} {x0 bb : Nat} {P : PO} {w : List Int} {x1 x2 x3 x4 x5 x6 x7 x8 v y c : Int32} {a t n : Int} {o : Int32 × ZS} {I : Nat → Int32} {A : Nat → Nat → Int32} {o2 : Int32 × MS}
theorem getD_in {l : List Int} {j : Nat} (h : j < l.length) : l.getD j 0 = l[j] := by
  rw [List.getD_eq_getElem?_getD, List.getElem?_eq_getElem h]
  rfl
theorem csF_b {ck : Int} (h : csF (om P) (osd P) (ort P) (ops P) (okw P) (okb P) x2.toInt ck) : ck = 0 ∨ ck = 43 ∨ ck = 35 := by
  rcases h with ⟨-, h⟩ | ⟨-, -, h⟩ | ⟨-, -, h⟩
  · exact Or.inl h
  · exact Or.inr (Or.inl h)
  · exact Or.inr (Or.inr h)
theorem csF_u {m : Int → Int} {sd rt ps kw kb x c1 c2 : Int} (h : csF m sd rt ps kw kb x c1) (g : csF m sd rt ps kw kb x c2) : c1 = c2 := by
  rcases h with ⟨h1, h⟩ | ⟨h1, h2, h⟩ | ⟨h1, h2, h⟩ <;> rcases g with ⟨g1, g⟩ | ⟨g1, g2, g⟩ | ⟨g1, g2, g⟩
  · rw [h, g]
  · exact absurd g1 h1
  · exact absurd g1 h1
  · exact absurd h1 g1
  · rw [h, g]
  · exact absurd h2 g2
  · exact absurd h1 g1
  · exact absurd g2 h2
  · rw [h, g]
theorem pt_2 (hx : x0 = 17 ∨ x0 = 78) (hb : 84 < bb) {k : Nat} (hl : w.length ≤ 79000) (hs : (strL k).length ≤ 20) (hc : ∀ c ∈ strL k, 0 ≤ c ∧ c ≤ 65535) : ∀ (n : Nat) (x2 : Int32) (S : ZS) (j : Nat), x2.toInt = (j : Int) → j ≤ (strL k).length → PSt S0 S x0 bb P (w ++ (strL k).take j) → d_X6_putText_2 n 3 k x2 S = some o → PSt S0 o.2 x0 bb P (w ++ strL k) := by
  intro n
  induction n with
  | zero => intro x2 S j _ _ _ hf; cases hf
  | succ n ih =>
    intro x2 S j hx2 hj h hf
    have hf : d_X6_putText_2s (d_X6_putText_2 n) 3 k x2 S = some o := hf
    unfold d_X6_putText_2s at hf
    obtain ⟨-, hf⟩ := m_chkE hf
    obtain ⟨⟨r1, S1⟩, h_1, hf⟩ := m_calE hf
    obtain ⟨-, q1⟩ := pc_J0_length_8abf5 h_1
    have e1 : S1 = S := ro_J0_length_8abf5 h_1
    obtain ⟨-, hf⟩ := m_chkE hf
    dsimp only at q1 hf
    rw [e1] at hf
    rcases m_ifE hf with ⟨d, hf⟩ | ⟨d, hf⟩
    · replace d := ti_leP (a := r1) (b := x2) d rfl rfl
      have ej : j = (strL k).length := by omega
      rw [ej, List.take_length] at h
      cases hf
      exact h
    · replace d := ti_leN (a := r1) (b := x2) d rfl rfl
      have jl : j < (strL k).length := by omega
      obtain ⟨-, hf⟩ := m_chkE hf
      obtain ⟨⟨r2, S2⟩, h_2, hf⟩ := m_calE hf
      obtain ⟨-, -, -, q2⟩ := pc_J0_charAt_5068e h_2
      have e2 : S2 = S := ro_J0_charAt_5068e h_2
      obtain ⟨-, hf⟩ := m_chkE hf
      dsimp only at q2 hf
      rw [e2] at hf
      rw [show x2.toInt.toNat = j by omega, getD_in jl] at q2
      obtain ⟨-, hf⟩ := m_chkE hf
      obtain ⟨⟨r4, S5⟩, h_4, hf⟩ := m_cal2E hf
      have hcj := hc _ (List.getElem_mem jl)
      have P5 := ps_put hx hb h (by rw [List.length_append, List.length_take]; omega) (by rw [q2]; exact hcj) h_4
      rw [q2, List.append_assoc] at P5
      have et : (strL k).take j ++ [(strL k)[j]] = (strL k).take (j + 1) := by
        first | exact List.take_append_getElem jl | exact (List.take_succ_eq_append_getElem jl).symm | (rw [List.take_succ]; simp [jl])
      rw [et] at P5
      obtain ⟨v8, g8, hf⟩ := m_bndE hf
      have u8 : v8.toInt = x2.toInt + 1 := ti_add g8 rfl (show (1 : Int32).toInt = 1 from rfl) (by omega) (by omega)
      exact ih v8 S5 (j + 1) (by omega) (by omega) P5 hf
theorem c_160 (hx : x0 = 17 ∨ x0 = 78) (hb : 84 < bb) (pg : PGd P) (hn : 0 ≤ onb P ∧ onb P ≤ 99999) (hl : w.length ≤ 79000) (LG : LGo P x2.toInt) (h : PSt S0 S x0 bb P w) (hf : d_X9_putSigns_160 x0 bb x2 3 S = some o) : ∃ ck, csF (om P) (osd P) (ort P) (ops P) (okw P) (okb P) x2.toInt ck ∧ PSt S0 o.2 x0 bb P (w ++ ckL ck) := by
  unfold d_X9_putSigns_160 at hf
  obtain ⟨-, hf⟩ := m_chkE hf
  replace hf := m_calY hf (ps_k hx h.2.1).2.2.2
  obtain ⟨-, hf⟩ := m_chkE hf
  obtain ⟨⟨r2, S2⟩, h_2, hf⟩ := m_calE hf
  obtain ⟨P2, q2⟩ := ps_check hx hb h pg hn LG h_2
  obtain ⟨-, hf⟩ := m_chkE hf
  dsimp only at P2 q2 hf
  refine ⟨r2.toInt, q2, ?_⟩
  have b := csF_b q2
  rcases m_ifE hf with ⟨d, hf⟩ | ⟨d, hf⟩
  · unfold d_X9_putSigns_182 at hf
    cases hf
    have e0 : ckL r2.toInt = [] := by rw [d]; rfl
    rw [e0, List.append_nil]
    exact P2
  · obtain ⟨-, hf⟩ := m_chkE hf
    obtain ⟨⟨r4, S5⟩, h_4, hf⟩ := m_cal2E hf
    have P5 := ps_put hx hb P2 (by omega) (by omega) h_4
    unfold d_X9_putSigns_182 at hf
    cases hf
    have e0 : ckL r2.toInt = [r2.toInt] := if_neg (fun e => d (i32_of e))
    rw [e0]
    exact P5
theorem c_136 (hx : x0 = 17 ∨ x0 = 78) (hb : 84 < bb) (pg : PGd P) (hn : 0 ≤ onb P ∧ onb P ≤ 99999) (hl : w.length ≤ 78990) (LG : LGo P x2.toInt) (h : PSt S0 S x0 bb P w) (hf : d_X9_putSigns_136 x0 bb x2 3 S = some o) : ∃ ck, csF (om P) (osd P) (ort P) (ops P) (okw P) (okb P) x2.toInt ck ∧ PSt S0 o.2 x0 bb P (w ++ ((if 2 ≤ x2.toInt / 4096 then [61, ltK (x2.toInt / 4096)] else []) ++ ckL ck)) := by
  have hxb := LG.1
  have hpr : x2.toInt / 4096 = 0 ∨ (2 ≤ x2.toInt / 4096 ∧ x2.toInt / 4096 ≤ 5) := by
    have := LG.2.2.1
    unfold PRo at this
    omega
  unfold d_X9_putSigns_136 at hf
  rcases m_ifE hf with ⟨d, hf⟩ | ⟨d, hf⟩
  · replace d := ti_ltP (a := x2) (b := (4096 : Int32)) d rfl (show (4096 : Int32).toInt = 4096 from rfl)
    rw [if_neg (by omega)]
    simp only [List.nil_append]
    exact c_160 hx hb pg hn (by omega) LG h hf
  · replace d := ti_ltN (a := x2) (b := (4096 : Int32)) d rfl (show (4096 : Int32).toInt = 4096 from rfl)
    rw [if_pos (by omega)]
    obtain ⟨-, hf⟩ := m_chkE hf
    obtain ⟨⟨r2, S3⟩, h_2, hf⟩ := m_cal2E hf
    have P3 := ps_put hx hb h (by omega) (by decide) h_2
    obtain ⟨v6, g6, hf⟩ := m_bndE hf
    have u6 : v6.toInt = x2.toInt / 4096 := by rw [g6]; exact sr12 x2
    obtain ⟨⟨r7, S7⟩, h_7, hf⟩ := m_calE hf
    obtain ⟨e7, q7⟩ := pc_lt (by omega) h_7
    obtain ⟨-, hf⟩ := m_chkE hf
    dsimp only at e7 q7 hf
    rw [e7] at hf
    rw [u6] at q7
    obtain ⟨-, hf⟩ := m_chkE hf
    obtain ⟨⟨r9, S10⟩, h_9, hf⟩ := m_cal2E hf
    have lb : 0 ≤ r7.toInt ∧ r7.toInt ≤ 65535 := by
      rw [q7]
      unfold ltK
      repeat' split
      all_goals omega
    have P10 := ps_put hx hb P3 (by rw [List.length_append]; show w.length + 1 ≤ 80000; omega) lb h_9
    obtain ⟨ck, k1, k2⟩ := c_160 hx hb pg hn (by rw [List.length_append, List.length_append]; show w.length + 1 + 1 ≤ 79000; omega) LG P10 hf
    refine ⟨ck, k1, ?_⟩
    rw [q7] at k2
    have e : w ++ ([61, ltK (x2.toInt / 4096)] ++ ckL ck) = w ++ [(61 : Int32).toInt] ++ [ltK (x2.toInt / 4096)] ++ ckL ck := by simp
    rw [e]
    exact k2
theorem c_107 (hx : x0 = 17 ∨ x0 = 78) (hb : 84 < bb) (pg : PGd P) (hn : 0 ≤ onb P ∧ onb P ≤ 99999) (hl : w.length ≤ 78900) (LG : LGo P x2.toInt) (h5 : x5.toInt = t) (ht : 0 ≤ t ∧ t ≤ 63) (h6 : x6.toInt = 0 ∨ x6.toInt = 1) (h : PSt S0 S x0 bb P w) (hf : d_X9_putSigns_107 x0 bb x2 3 x5 x6 S = some o) : ∃ ck, csF (om P) (osd P) (ort P) (ops P) (okw P) (okb P) x2.toInt ck ∧ PSt S0 o.2 x0 bb P (w ++ ((if x6.toInt = 1 then [120] else []) ++ ([97 + t % 8, 49 + t / 8] ++ ((if 2 ≤ x2.toInt / 4096 then [61, ltK (x2.toInt / 4096)] else []) ++ ckL ck)))) := by
  have s118 : ∀ {w : List Int} {S : ZS}, w.length ≤ 78950 → PSt S0 S x0 bb P w → d_X9_putSigns_118 x0 bb x2 3 x5 S = some o → ∃ ck, csF (om P) (osd P) (ort P) (ops P) (okw P) (okb P) x2.toInt ck ∧ PSt S0 o.2 x0 bb P (w ++ ([97 + t % 8, 49 + t / 8] ++ ((if 2 ≤ x2.toInt / 4096 then [61, ltK (x2.toInt / 4096)] else []) ++ ckL ck))) := fun {w S} hl h hf => by
    unfold d_X9_putSigns_118 at hf
    obtain ⟨⟨r1, S1⟩, h_1, hf⟩ := m_calE hf
    obtain ⟨e1, q1⟩ := pc_fl (by omega) h_1
    obtain ⟨-, hf⟩ := m_chkE hf
    dsimp only at e1 q1 hf
    rw [e1] at hf
    obtain ⟨-, hf⟩ := m_chkE hf
    obtain ⟨⟨r3, S4⟩, h_3, hf⟩ := m_cal2E hf
    have P4 := ps_put hx hb h (by omega) (by omega) h_3
    obtain ⟨⟨r7, S7⟩, h_7, hf⟩ := m_calE hf
    obtain ⟨e7, q7⟩ := pc_rd (by omega) h_7
    obtain ⟨-, hf⟩ := m_chkE hf
    dsimp only at e7 q7 hf
    rw [e7] at hf
    obtain ⟨-, hf⟩ := m_chkE hf
    obtain ⟨⟨r9, S10⟩, h_9, hf⟩ := m_cal2E hf
    have P10 := ps_put hx hb P4 (by rw [List.length_append]; show w.length + 1 ≤ 80000; omega) (by omega) h_9
    rw [q1, q7, h5] at P10
    obtain ⟨ck, k1, k2⟩ := c_136 hx hb pg hn (by rw [List.length_append, List.length_append]; show w.length + 1 + 1 ≤ 78990; omega) LG P10 hf
    refine ⟨ck, k1, ?_⟩
    have e : ∀ l : List Int, w ++ ([97 + t % 8, 49 + t / 8] ++ l) = w ++ [97 + t % 8] ++ [49 + t / 8] ++ l := fun l => by simp
    rw [e]
    exact k2
  unfold d_X9_putSigns_107 at hf
  rcases m_ifE hf with ⟨d, hf⟩ | ⟨d, hf⟩
  · rw [if_neg (by rw [d]; decide)]
    simp only [List.nil_append]
    exact s118 (by omega) h hf
  · have e1 : x6.toInt = 1 := by
      rcases h6 with b | b
      · exact absurd (i32_of b) d
      · exact b
    rw [if_pos e1]
    obtain ⟨-, hf⟩ := m_chkE hf
    obtain ⟨⟨r2, S3⟩, h_2, hf⟩ := m_cal2E hf
    have P3 := ps_put hx hb h (by omega) (by decide) h_2
    obtain ⟨ck, k1, k2⟩ := s118 (by rw [List.length_append]; show w.length + 1 ≤ 78950; omega) P3 hf
    refine ⟨ck, k1, ?_⟩
    rw [← List.append_assoc]
    exact k2
/-- a king that goes two squares castles -/
theorem cas_2 (LG : LGo P x2.toInt) (h6 : om P (x2.toInt % 64) % 8 = 6) (h : x2.toInt / 64 % 64 = x2.toInt % 64 + 2 ∨ x2.toInt / 64 % 64 = x2.toInt % 64 - 2) : cas (om P) (x2.toInt % 64) (x2.toInt / 64 % 64) := by
  have hr := LG.2.1
  rcases hr.2.2 with ⟨h1, -⟩ | ⟨-, h1 | ⟨h1, -⟩⟩
  · omega
  · exfalso
    unfold attk kin lin at h1
    rcases h1 with ⟨h1, -⟩ | ⟨h1, -⟩ | ⟨-, h1⟩ | ⟨h1, -⟩
    · omega
    · omega
    · omega
    · omega
  · exact h1
/-- the class writes a move's signs -/
theorem c_putSigns (hx : x0 = 17 ∨ x0 = 78) (hb : 84 < bb) (pg : PGd P) (hn : 0 ≤ onb P ∧ onb P ≤ 99999) (hl : w.length ≤ 78000) (LG : LGo P x2.toInt) (h : PSt S0 S x0 bb P w) (hf : d_X9_putSigns x0 bb x2 3 S = some o) : ∃ ck, csF (om P) (osd P) (ort P) (ops P) (okw P) (okb P) x2.toInt ck ∧ PSt S0 o.2 x0 bb P (w ++ sgW P x2.toInt ck) := by
  have hf : d_X9_putSigns_0 x0 bb x2 3 S = some o := hf
  have hxb := LG.1
  have hM := pg.2.1
  have hpr := LG.2.2.1
  have hme := LG.2.1.1
  obtain ⟨hT, X, bo, hr, F⟩ := id h
  have kb := bo.1.1
  have hm := bo.2.1
  unfold d_X9_putSigns_0 at hf
  obtain ⟨v1, g1, hf⟩ := m_bndE hf
  obtain ⟨v2, g2, hf⟩ := m_bndE hf
  obtain ⟨v3, g3, hf⟩ := m_bndE hf
  obtain ⟨t1, t3, -, -⟩ := mv_bits hxb g1 g2 g3 rfl rfl
  obtain ⟨-, hf⟩ := m_chkE hf
  obtain ⟨⟨r4, S4⟩, h_4, hf⟩ := m_calE hf
  obtain ⟨e4, b4, q4⟩ := ok_of (x_f_X0_castles hT kb (by omega) (by omega) (by rw [hm]; exact hM)) h_4
  obtain ⟨-, hf⟩ := m_chkE hf
  dsimp only at e4 b4 q4 hf
  rw [e4] at hf
  rw [hm, t1, t3] at q4
  unfold sgW spW
  rcases m_ifE hf with ⟨d4, hf⟩ | ⟨d4, hf⟩
  · have nc : ¬ (om P (x2.toInt % 64) % 8 = 6 ∧ (x2.toInt / 64 % 64 = x2.toInt % 64 + 2 ∨ x2.toInt / 64 % 64 = x2.toInt % 64 - 2)) := fun e => by
      have := q4.2 (cas_2 LG e.1 e.2)
      rw [d4] at this
      exact absurd this (by decide)
    rw [if_neg nc]
    obtain ⟨-, hf⟩ := m_chkE hf
    obtain ⟨⟨r5, S5⟩, h_5, hf⟩ := m_calE hf
    obtain ⟨e5, b5, q5⟩ := ok_of (x_f_X0_takes hT kb (by omega) (by omega) (by rw [hm]; exact hM)) h_5
    obtain ⟨-, hf⟩ := m_chkE hf
    dsimp only at e5 b5 q5 hf
    rw [e5] at hf
    rw [hm, t1, t3] at q5
    have tk : r5.toInt = tkV P (x2.toInt % 64) (x2.toInt / 64 % 64) := by
      unfold tkV
      by_cases e : tkg (om P) (x2.toInt % 64) (x2.toInt / 64 % 64)
      · rw [if_pos e]; exact q5.2 e
      · rw [if_neg e]
        have : r5.toInt ≠ 1 := fun h => e (q5.1 h)
        omega
    obtain ⟨-, hf⟩ := m_chkE hf
    obtain ⟨⟨r6, S6⟩, h_6, hf⟩ := m_calE hf
    obtain ⟨e6, b6, q6⟩ := ok_of (x_f_X0_kindAt hT kb (by omega) (by rw [hm]; exact hM)) h_6
    obtain ⟨-, hf⟩ := m_chkE hf
    dsimp only at e6 b6 q6 hf
    rw [e6] at hf
    rw [hm, t1] at q6
    unfold rend
    rcases m_ifE hf with ⟨d6, hf⟩ | ⟨d6, hf⟩
    · replace d6 := ti_eqP (a := r6) (b := (1 : Int32)) d6 rfl (show (1 : Int32).toInt = 1 from rfl)
      have k1 : om P (x2.toInt % 64) % 8 = 1 := by omega
      have ea : apW P x2.toInt = tkV P (x2.toInt % 64) (x2.toInt / 64 % 64) := if_pos k1
      rw [k1, ea, ← tk]
      rcases m_ifE hf with ⟨d5, hf⟩ | ⟨d5, hf⟩
      · have z5 : r5.toInt = 0 := by rw [d5]; rfl
        obtain ⟨ck, c1, c2⟩ := c_107 (t := x2.toInt / 64 % 64) hx hb pg hn (by omega) LG t3 (by omega) (by omega) h hf
        refine ⟨ck, c1, ?_⟩
        rw [z5] at c2 ⊢
        simp only [show ¬ (2 : Int) ≤ 1 by decide, show ¬ (0 : Int) % 2 = 1 by decide, show ¬ (1 : Int) < 0 by decide, show ¬ (0 : Int) ≤ -1 by decide, show ¬ (0 : Int) = 1 by decide, if_false, List.nil_append, List.append_assoc] at c2 ⊢
        exact c2
      · have z5 : r5.toInt = 1 := by
          have : r5.toInt ≠ 0 := fun e => d5 (i32_of e)
          omega
        obtain ⟨⟨r7, S7⟩, h_7, hf⟩ := m_calE hf
        obtain ⟨e7, q7⟩ := pc_fl (by omega) h_7
        obtain ⟨-, hf⟩ := m_chkE hf
        dsimp only at e7 q7 hf
        rw [e7] at hf
        obtain ⟨-, hf⟩ := m_chkE hf
        obtain ⟨⟨r9, S10⟩, h_9, hf⟩ := m_cal2E hf
        have P10 := ps_put hx hb h (by omega) (by omega) h_9
        rw [q7, t1] at P10
        obtain ⟨ck, c1, c2⟩ := c_107 (t := x2.toInt / 64 % 64) hx hb pg hn (by rw [List.length_append]; show w.length + 1 ≤ 78900; omega) LG t3 (by omega) (by omega) P10 hf
        refine ⟨ck, c1, ?_⟩
        rw [z5] at c2 ⊢
        have f1 : (0 : Int) ≤ x2.toInt % 64 % 8 := by omega
        simp only [show ¬ (2 : Int) ≤ 1 by decide, show (1 : Int) % 2 = 1 by decide, show ¬ (1 : Int) < 1 by decide, show ¬ (0 : Int) ≤ -1 by decide, f1, if_true, if_false, List.nil_append, List.append_assoc] at c2 ⊢
        exact c2
    · replace d6 := ti_eqN (a := r6) (b := (1 : Int32)) d6 rfl (show (1 : Int32).toInt = 1 from rfl)
      have k1 : ¬ om P (x2.toInt % 64) % 8 = 1 := by omega
      have mb := hM (x2.toInt % 64)
      have k2 : 2 ≤ om P (x2.toInt % 64) % 8 ∧ om P (x2.toInt % 64) % 8 ≤ 6 := by
        have := hme.1
        omega
      have ea : apW P x2.toInt = apP P (x2.toInt % 64) (x2.toInt / 64 % 64) := if_neg k1
      rw [ea, ← tk]
      obtain ⟨-, hf⟩ := m_chkE hf
      obtain ⟨⟨r13, S13⟩, h_13, hf⟩ := m_calE hf
      obtain ⟨e13, b13, q13⟩ := ok_of (x_f_X0_kindAt hT kb (by omega) (by rw [hm]; exact hM)) h_13
      obtain ⟨-, hf⟩ := m_chkE hf
      dsimp only at e13 b13 q13 hf
      rw [e13] at hf
      rw [hm, t1] at q13
      obtain ⟨⟨r14, S14⟩, h_14, hf⟩ := m_calE hf
      obtain ⟨e14, q14⟩ := pc_lt (by omega) h_14
      obtain ⟨-, hf⟩ := m_chkE hf
      dsimp only at e14 q14 hf
      rw [e14] at hf
      rw [q13] at q14
      obtain ⟨-, hf⟩ := m_chkE hf
      obtain ⟨⟨r16, S17⟩, h_16, hf⟩ := m_cal2E hf
      have lb : 0 ≤ r14.toInt ∧ r14.toInt ≤ 65535 := by
        rw [q14]
        unfold ltK
        repeat' split
        all_goals omega
      have P17 := ps_put hx hb h (by omega) lb h_16
      rw [q14] at P17
      obtain ⟨-, hf⟩ := m_chkE hf
      obtain ⟨⟨r21, S22⟩, h_21, hf⟩ := m_cal2E hf
      have hA : d_X9_putApart_12 mFuel x0 bb v1 v3 3 0 0 0 0 S17 = some (r21, S22) := h_21
      have z0 : (0 : Int32).toInt = 0 := rfl
      have P22 := pa_12 (a := x2.toInt % 64) (t := x2.toInt / 64 % 64) hx hb pg hn (by rw [List.length_append]; show w.length + 1 ≤ 79000; omega) t1 t3 (by omega) (by omega) mFuel 0 0 0 0 S17 (by decide) (Or.inl rfl) (Or.inl rfl) (Or.inl rfl) ⟨fun e => absurd e (by decide), fun ⟨b, b0, b1, _⟩ => by rw [z0] at b1; omega⟩ ⟨fun e => absurd e (by decide), fun ⟨b, b0, b1, _⟩ => by rw [z0] at b1; omega⟩ ⟨fun e => absurd e (by decide), fun ⟨b, b0, b1, _⟩ => by rw [z0] at b1; omega⟩ P17 hA
      dsimp only at P22
      have al : (apL (x2.toInt % 64) (apP P (x2.toInt % 64) (x2.toInt / 64 % 64))).length ≤ 2 := by
        unfold apL
        rw [List.length_append]
        have h1 : ∀ (c : Prop) [Decidable c] (z : Int), (if c then [z] else []).length ≤ 1 := fun c _ z => by
          split
          · exact Nat.le_refl _
          · exact Nat.zero_le _
        have := h1 (0 ≤ (if apP P (x2.toInt % 64) (x2.toInt / 64 % 64) % 2 = 1 then x2.toInt % 64 % 8 else -1)) (97 + (if apP P (x2.toInt % 64) (x2.toInt / 64 % 64) % 2 = 1 then x2.toInt % 64 % 8 else -1))
        have := h1 (0 ≤ (if 1 < apP P (x2.toInt % 64) (x2.toInt / 64 % 64) then x2.toInt % 64 / 8 else -1)) (49 + (if 1 < apP P (x2.toInt % 64) (x2.toInt / 64 % 64) then x2.toInt % 64 / 8 else -1))
        omega
      obtain ⟨ck, c1, c2⟩ := c_107 (t := x2.toInt / 64 % 64) hx hb pg hn (by rw [List.length_append, List.length_append]; show w.length + 1 + _ ≤ 78900; omega) LG t3 (by omega) (by omega) P22 hf
      refine ⟨ck, c1, ?_⟩
      unfold apL at c2
      rw [if_pos k2.1]
      simp only [List.append_assoc] at c2 ⊢
      exact c2
  · have yc : cas (om P) (x2.toInt % 64) (x2.toInt / 64 % 64) := q4.1 (by
      have : r4.toInt ≠ 0 := fun e => d4 (i32_of e)
      omega)
    rw [if_pos ⟨yc.1, yc.2.2⟩]
    have p0 : ¬ 2 ≤ x2.toInt / 4096 := by
      unfold PRo at hpr
      have := yc.1
      omega
    have s41 : ∀ k : Nat, (k = 7 ∨ k = 8) → d_X9_putSigns_41 x0 bb x2 3 k 3 S = some o → ∃ ck, csF (om P) (osd P) (ort P) (ops P) (okw P) (okb P) x2.toInt ck ∧ PSt S0 o.2 x0 bb P (w ++ (strL k ++ ckL ck)) := fun k hk hh => by
      unfold d_X9_putSigns_41 at hh
      obtain ⟨-, hh⟩ := m_chkE hh
      obtain ⟨⟨r2, S3⟩, h_2, hh⟩ := m_cal2E hh
      have h_2 : d_X6_putText_2 mFuel 3 k 0 S = some (r2, S3) := h_2
      have sl : (strL k).length ≤ 20 ∧ ∀ c ∈ strL k, 0 ≤ c ∧ c ≤ 65535 := by
        rcases hk with e | e <;> subst e <;> decide +kernel
      have P3 := pt_2 (S0 := S0) (P := P) (w := w) (k := k) hx hb (by omega) sl.1 sl.2 mFuel 0 S 0 rfl (Nat.zero_le _) (by rw [List.take_zero, List.append_nil]; exact h) h_2
      obtain ⟨ck, c1, c2⟩ := c_136 hx hb pg hn (by rw [List.length_append]; omega) LG P3 hh
      refine ⟨ck, c1, ?_⟩
      rw [if_neg p0, List.nil_append, List.append_assoc] at c2
      exact c2
    rcases m_ifE hf with ⟨d, hf⟩ | ⟨d, hf⟩
    · replace d := ti_leP (a := v3) (b := v1) d rfl rfl
      rw [if_neg (by omega)]
      exact s41 8 (Or.inr rfl) hf
    · replace d := ti_leN (a := v3) (b := v1) d rfl rfl
      rw [if_pos (by omega)]
      exact s41 7 (Or.inl rfl) hf
end PSH
end
section
/-- what the reference finds of other men -/
noncomputable def APo (I : Nat → Int32) (A : Nat → Nat → Int32) (P : PO) (a t : Int) (o2 : Int32 × MS) : Prop := ∃ y4 y5 y6 : Int32, (y4.toInt = 0 ∨ y4.toInt = 1) ∧ (y5.toInt = 0 ∨ y5.toInt = 1) ∧ (y6.toInt = 0 ∨ y6.toInt = 1) ∧ (y4.toInt = 1 ↔ ∃ i : Nat, (i : Int) < (I 33).toInt ∧ (fun y : Int => y % 64 ≠ a ∧ y / 64 % 64 = t ∧ om P (y % 64) % 8 = om P a % 8 ∧ True) (A 32 i).toInt) ∧ (y5.toInt = 1 ↔ ∃ i : Nat, (i : Int) < (I 33).toInt ∧ (fun y : Int => y % 64 ≠ a ∧ y / 64 % 64 = t ∧ om P (y % 64) % 8 = om P a % 8 ∧ y % 64 % 8 = a % 8) (A 32 i).toInt) ∧ (y6.toInt = 1 ↔ ∃ i : Nat, (i : Int) < (I 33).toInt ∧ (fun y : Int => y % 64 ≠ a ∧ y / 64 % 64 = t ∧ om P (y % 64) % 8 = om P a % 8 ∧ y % 64 / 8 = a / 8) (A 32 i).toInt) ∧ o2.1.toInt = (if y4.toInt = 0 then 0 else if y5.toInt = 0 then 1 else if y6.toInt = 0 then 2 else 3)
section VAP
variable {S S0 S' : ZS} {P : PO} {w : List Int} {x1 x2 x3 x4 x5 x6 x7 : Int32} {a t : Int} {I : Nat → Int32} {A : Nat → Nat → Int32} {o2 : Int32 × MS}
theorem ls_ex (hm : MVs I A P) {Q : Int → Prop} : (∃ i : Nat, (i : Int) < (I 33).toInt ∧ Q (A 32 i).toInt) ↔ ∃ key, key < 32768 ∧ LR (om P) (osd P) (ort P) (ops P) (oko P) key ∧ Q (mvk key) := by
  constructor
  · rintro ⟨k, k1, k2⟩
    obtain ⟨key, q1, q2, q3⟩ := cnt_sur (P := LR (om P) (osd P) (ort P) (ops P) (oko P)) (k := k) (N := 32768) (by have := hm.1; omega)
    refine ⟨key, q1, q2, ?_⟩
    have := hm.2 key q1 q2
    rw [q3] at this
    rw [← this]
    exact k2
  · rintro ⟨key, k1, k2, k3⟩
    refine ⟨cnt (LR (om P) (osd P) (ort P) (ops P) (oko P)) key, ?_, ?_⟩
    · have := cnt_lt k2 k1
      have := hm.1
      omega
    · have := hm.2 key k1 k2
      have this : (A 32 (cnt (LR (om P) (osd P) (ort P) (ops P) (oko P)) key)).toInt = mvk key := this
      rw [this]
      exact k3
theorem lm_key_of {b : Int} (pg : PGd P) (b0 : 0 ≤ b) (b1 : b < 64) (ht : 0 ≤ t ∧ t ≤ 63) (h3 : rch (om P) (osd P) (ort P) (ops P) b t) (h4 : safC (om P) (osd P) (ops P) (oko P) b t 0) (hk : om P b % 8 ≠ 1) : ∃ key, key < 32768 ∧ LR (om P) (osd P) (ort P) (ops P) (oko P) key ∧ mvk key = b + 64 * t := by
  obtain ⟨bn, rfl⟩ : ∃ bn : Nat, b = (bn : Int) := ⟨b.toNat, by omega⟩
  obtain ⟨tm, rfl⟩ : ∃ tm : Nat, t = (tm : Int) := ⟨t.toNat, by omega⟩
  have q := (lgm_k (a := bn) (t := tm) (p := 0) pg rfl (by omega) (by omega) (by decide)).2 ⟨h3, h4, Or.inl ⟨rfl, fun e => hk e.1⟩⟩
  have e := mvk_e (a := bn) (t := tm) (p := 0) (by omega) (by omega) (by decide)
  exact ⟨_, by omega, q, by rw [e]; omega⟩
/-- the other men, out of the list of moves -/
theorem ap_key (pg : PGd P) (hk : om P a % 8 ≠ 1) (ha : 0 ≤ a ∧ a ≤ 63) (ht : 0 ≤ t ∧ t ≤ 63) (hme : om P a ≠ 0 ∧ om P a / 8 = osd P) {G : Int → Prop} : (∃ key, key < 32768 ∧ LR (om P) (osd P) (ort P) (ops P) (oko P) key ∧ (mvk key % 64 ≠ a ∧ mvk key / 64 % 64 = t ∧ om P (mvk key % 64) % 8 = om P a % 8 ∧ G (mvk key % 64))) ↔ ∃ b, 0 ≤ b ∧ b < 64 ∧ OTh P a t b ∧ G b := by
  constructor
  · rintro ⟨key, k1, k2, k3, k4, k5, k6⟩
    obtain ⟨⟨g0, g1, g2, g3⟩, e1, e2, e3⟩ := lg_key pg rfl k1 k2
    have hp0 : mvk key / 4096 = 0 := by
      unfold PRo at g2
      rw [k5] at g2
      rcases g2 with ⟨h, -⟩ | ⟨-, -, h, -⟩
      · exact h
      · exact absurd h hk
    rw [hp0, k4] at g3
    rw [k4] at g1
    refine ⟨mvk key % 64, by omega, by omega, ⟨k3, ?_, g1, g3⟩, k6⟩
    have := g1.1.2
    omega
  · rintro ⟨b, b0, b1, ⟨h1, h2, h3, h4⟩, h5⟩
    have ek := lm_key_of pg b0 b1 ht h3 h4 (by rw [h2]; exact hk)
    obtain ⟨key, q1, q2, q3⟩ := ek
    refine ⟨key, q1, q2, ?_⟩
    have e1 : mvk key % 64 = b := by omega
    have e2 : mvk key / 64 % 64 = t := by omega
    rw [e1, e2]
    exact ⟨h1, rfl, by rw [h2], h5⟩
/-- how the reference tells men apart -/
theorem va_46 (hI : TJ I) (hA : TK A) (hm : mR A = om P) (hM : MBd (om P)) (h1 : 0 ≤ x1.toInt ∧ x1.toInt ≤ 24575) (h2 : x2.toInt = a) (ha : 0 ≤ a ∧ a ≤ 63) (ht : x1.toInt / 64 % 64 = t) (h3 : x3.toInt = om P a % 8) : ∀ (n : Nat) (x4 x5 x6 x7 : Int32), (0 ≤ x7.toInt ∧ x7.toInt ≤ (I 33).toInt) → (x4.toInt = 0 ∨ x4.toInt = 1) → (x5.toInt = 0 ∨ x5.toInt = 1) → (x6.toInt = 0 ∨ x6.toInt = 1) → (x4.toInt = 1 ↔ ∃ i : Nat, (i : Int) < x7.toInt ∧ (fun y : Int => y % 64 ≠ a ∧ y / 64 % 64 = t ∧ om P (y % 64) % 8 = om P a % 8 ∧ True) (A 32 i).toInt) → (x5.toInt = 1 ↔ ∃ i : Nat, (i : Int) < x7.toInt ∧ (fun y : Int => y % 64 ≠ a ∧ y / 64 % 64 = t ∧ om P (y % 64) % 8 = om P a % 8 ∧ y % 64 % 8 = a % 8) (A 32 i).toInt) → (x6.toInt = 1 ↔ ∃ i : Nat, (i : Int) < x7.toInt ∧ (fun y : Int => y % 64 ≠ a ∧ y / 64 % 64 = t ∧ om P (y % 64) % 8 = om P a % 8 ∧ y % 64 / 8 = a / 8) (A 32 i).toInt) → f_apartOf_46 n x1 x2 x3 x4 x5 x6 x7 I A = some o2 → APo I A P a t o2 := by
  have b33 : 0 ≤ (I 33).toInt ∧ (I 33).toInt ≤ 2048 := hI 33
  have z0 : (0 : Int32).toInt = 0 := rfl
  have z1 : (1 : Int32).toInt = 1 := rfl
  have z8 : (8 : Int32).toInt = 8 := rfl
  have z64 : (64 : Int32).toInt = 64 := rfl
  have exs : ∀ {Q : Int → Prop} {k : Int}, 0 ≤ k → ((∃ i : Nat, (i : Int) < k + 1 ∧ Q (A 32 i).toInt) ↔ ((∃ i : Nat, (i : Int) < k ∧ Q (A 32 i).toInt) ∨ Q (A 32 k.toNat).toInt)) := fun {Q k} hk => by
    constructor
    · rintro ⟨i, i1, hi⟩
      by_cases e : (i : Int) < k
      · exact Or.inl ⟨i, e, hi⟩
      · have : i = k.toNat := by omega
        rw [this] at hi
        exact Or.inr hi
    · rintro (⟨i, i1, hi⟩ | h)
      · exact ⟨i, by omega, hi⟩
      · exact ⟨k.toNat, by omega, h⟩
  intro n
  induction n with
  | zero => intro x4 x5 x6 x7 _ _ _ _ _ _ _ hf; cases hf
  | succ n ih =>
    intro x4 x5 x6 x7 hx b4 b5 b6 q4 q5 q6 hf
    have hf : f_apartOf_46s (f_apartOf_46 n) x1 x2 x3 x4 x5 x6 x7 I A = some o2 := hf
    unfold f_apartOf_46s at hf
    rcases m_ifE hf with ⟨d, hf⟩ | ⟨d, hf⟩
    · replace d := ti_leP (a := I 33) (b := x7) d rfl rfl
      have e7 : x7.toInt = (I 33).toInt := by omega
      rw [e7] at q4 q5 q6
      refine ⟨x4, x5, x6, b4, b5, b6, q4, q5, q6, ?_⟩
      have r195 : ∀ {t0 : Int32}, f_apartOf_195 t0 I A = some o2 → o2.1 = t0 := fun hh => by
        unfold f_apartOf_195 at hh
        cases hh
        rfl
      rcases m_ifE hf with ⟨d4, hf⟩ | ⟨d4, hf⟩
      · rw [if_pos (by rw [d4]; rfl), r195 hf]; rfl
      · rw [if_neg (fun e => d4 (i32_of e))]
        rcases m_ifE hf with ⟨d5, hf⟩ | ⟨d5, hf⟩
        · rw [if_pos (by rw [d5]; rfl), r195 hf]; rfl
        · rw [if_neg (fun e => d5 (i32_of e))]
          rcases m_ifE hf with ⟨d6, hf⟩ | ⟨d6, hf⟩
          · rw [if_pos (by rw [d6]; rfl), r195 hf]; rfl
          · rw [if_neg (fun e => d6 (i32_of e)), r195 hf]; rfl
    · replace d := ti_leN (a := I 33) (b := x7) d rfl rfl
      obtain ⟨-, hf⟩ := m_chkE hf
      obtain ⟨v1, g1, hf⟩ := m_bndE hf
      rw [cl_n (n := x7.toInt.toNat) (by omega)] at g1
      have bv : 0 ≤ v1.toInt ∧ v1.toInt ≤ 24575 := by rw [g1]; exact hA 32 _
      have s4 := exs (Q := fun y : Int => y % 64 ≠ a ∧ y / 64 % 64 = t ∧ om P (y % 64) % 8 = om P a % 8 ∧ True) hx.1
      have s5 := exs (Q := fun y : Int => y % 64 ≠ a ∧ y / 64 % 64 = t ∧ om P (y % 64) % 8 = om P a % 8 ∧ y % 64 % 8 = a % 8) hx.1
      have s6 := exs (Q := fun y : Int => y % 64 ≠ a ∧ y / 64 % 64 = t ∧ om P (y % 64) % 8 = om P a % 8 ∧ y % 64 / 8 = a / 8) hx.1
      rw [← g1] at s4 s5 s6
      have nxt : ∀ {x4 x5 x6 : Int32}, (x4.toInt = 0 ∨ x4.toInt = 1) → (x5.toInt = 0 ∨ x5.toInt = 1) → (x6.toInt = 0 ∨ x6.toInt = 1) → (x4.toInt = 1 ↔ ∃ i : Nat, (i : Int) < x7.toInt + 1 ∧ (fun y : Int => y % 64 ≠ a ∧ y / 64 % 64 = t ∧ om P (y % 64) % 8 = om P a % 8 ∧ True) (A 32 i).toInt) → (x5.toInt = 1 ↔ ∃ i : Nat, (i : Int) < x7.toInt + 1 ∧ (fun y : Int => y % 64 ≠ a ∧ y / 64 % 64 = t ∧ om P (y % 64) % 8 = om P a % 8 ∧ y % 64 % 8 = a % 8) (A 32 i).toInt) → (x6.toInt = 1 ↔ ∃ i : Nat, (i : Int) < x7.toInt + 1 ∧ (fun y : Int => y % 64 ≠ a ∧ y / 64 % 64 = t ∧ om P (y % 64) % 8 = om P a % 8 ∧ y % 64 / 8 = a / 8) (A 32 i).toInt) → f_apartOf_161 (f_apartOf_46 n) x1 x2 x3 x4 x5 x6 x7 I A = some o2 → APo I A P a t o2 := fun {x4 x5 x6} b4 b5 b6 q4 q5 q6 hh => by
        unfold f_apartOf_161 at hh
        obtain ⟨w1, k1, hh⟩ := m_bndE hh
        have u1 : w1.toInt = x7.toInt + 1 := ti_add k1 rfl z1 (by omega) (by omega)
        exact ih x4 x5 x6 w1 (by omega) b4 b5 b6 (by rw [u1]; exact q4) (by rw [u1]; exact q5) (by rw [u1]; exact q6) hh
      have no : ¬ (v1.toInt % 64 ≠ a ∧ v1.toInt / 64 % 64 = t ∧ om P (v1.toInt % 64) % 8 = om P a % 8) → f_apartOf_161 (f_apartOf_46 n) x1 x2 x3 x4 x5 x6 x7 I A = some o2 → APo I A P a t o2 := fun hno hh =>
        nxt b4 b5 b6 (q4.trans ⟨fun e => s4.2 (Or.inl e), fun e => (s4.1 e).resolve_right (fun g => hno ⟨g.1, g.2.1, g.2.2.1⟩)⟩) (q5.trans ⟨fun e => s5.2 (Or.inl e), fun e => (s5.1 e).resolve_right (fun g => hno ⟨g.1, g.2.1, g.2.2.1⟩)⟩) (q6.trans ⟨fun e => s6.2 (Or.inl e), fun e => (s6.1 e).resolve_right (fun g => hno ⟨g.1, g.2.1, g.2.2.1⟩)⟩) hh
      obtain ⟨v2, g2, hf⟩ := m_bndE hf
      have u2 : v2.toInt = v1.toInt % 64 := ti_rem g2 rfl z64 (by omega) (by decide)
      rcases m_ifE hf with ⟨d2, hf⟩ | ⟨d2, hf⟩
      · replace d2 := ti_eqP (a := v2) (b := x2) d2 rfl rfl
        exact no (fun e => e.1 (by omega)) hf
      · replace d2 := ti_eqN (a := v2) (b := x2) d2 rfl rfl
        obtain ⟨-, hf⟩ := m_chkE hf
        obtain ⟨v3, g3, hf⟩ := m_bndE hf
        rw [cl_n (n := x7.toInt.toNat) (by omega), ← g1] at g3
        obtain ⟨v4, g4, hf⟩ := m_bndE hf
        obtain ⟨v5, g5, hf⟩ := m_bndE hf
        obtain ⟨v6, g6, hf⟩ := m_bndE hf
        obtain ⟨v7, g7, hf⟩ := m_bndE hf
        have u4 : v4.toInt = v3.toInt / 64 := ti_div g4 rfl z64 (by rw [g3]; omega) (by decide)
        rw [g3] at u4
        have u5 : v5.toInt = v4.toInt % 64 := ti_rem g5 rfl z64 (by omega) (by decide)
        have u6 : v6.toInt = x1.toInt / 64 := ti_div g6 rfl z64 (by omega) (by decide)
        have u7 : v7.toInt = v6.toInt % 64 := ti_rem g7 rfl z64 (by omega) (by decide)
        rcases m_ifE hf with ⟨d3, hf⟩ | ⟨d3, hf⟩
        · replace d3 := ti_eqP (a := v5) (b := v7) d3 rfl rfl
          obtain ⟨-, hf⟩ := m_chkE hf
          obtain ⟨v8, g8, hf⟩ := m_bndE hf
          have u8 := mR_at g8 (by omega) (by omega)
          rw [hm, u2] at u8
          have b8 := hM (v1.toInt % 64)
          obtain ⟨⟨r9, Ic9, Ac9⟩, h_9, hf⟩ := m_clE hf
          have e9 := rro_kind h_9
          have i9 : Ic9 = I := congrArg Prod.fst e9
          have a9 : Ac9 = A := congrArg Prod.snd e9
          have u9 := pc_kind h_9 hI hA (by omega)
          dsimp only at u9 hf
          rw [i9, a9] at hf
          rcases m_ifE hf with ⟨d9, hf⟩ | ⟨d9, hf⟩
          · replace d9 := ti_eqP (a := r9) (b := x3) d9 rfl rfl
            have yes : v1.toInt % 64 ≠ a ∧ v1.toInt / 64 % 64 = t ∧ om P (v1.toInt % 64) % 8 = om P a % 8 := ⟨by omega, by omega, by omega⟩
            have o4 : ((1 : Int32).toInt = 1 ↔ ∃ i : Nat, (i : Int) < x7.toInt + 1 ∧ (fun y : Int => y % 64 ≠ a ∧ y / 64 % 64 = t ∧ om P (y % 64) % 8 = om P a % 8 ∧ True) (A 32 i).toInt) := ⟨fun _ => s4.2 (Or.inr ⟨yes.1, yes.2.1, yes.2.2, trivial⟩), fun _ => rfl⟩
            have rk : ∀ t0 : Int32, (t0.toInt = 0 ∨ t0.toInt = 1) → (t0.toInt = 1 ↔ ∃ i : Nat, (i : Int) < x7.toInt + 1 ∧ (fun y : Int => y % 64 ≠ a ∧ y / 64 % 64 = t ∧ om P (y % 64) % 8 = om P a % 8 ∧ y % 64 % 8 = a % 8) (A 32 i).toInt) → f_apartOf_135 (f_apartOf_46 n) x1 x2 x3 1 x6 x7 v2 t0 I A = some o2 → APo I A P a t o2 := fun t0 b0 l0 hh => by
              unfold f_apartOf_135 at hh
              rcases m_ifE hh with ⟨dc, hh⟩ | ⟨dc, hh⟩
              · have dc' : x6.toInt = 0 := by rw [dc]; rfl
                obtain ⟨w1, k1, hh⟩ := m_bndE hh
                obtain ⟨w2, k2, hh⟩ := m_bndE hh
                have y1 : w1.toInt = v2.toInt / 8 := ti_div k1 rfl z8 (by omega) (by decide)
                have y2 : w2.toInt = x2.toInt / 8 := ti_div k2 rfl z8 (by omega) (by decide)
                rcases m_ifE hh with ⟨dd, hh⟩ | ⟨dd, hh⟩
                · replace dd := ti_eqP (a := w1) (b := w2) dd rfl rfl
                  unfold f_apartOf_154 f_apartOf_159 at hh
                  exact nxt (Or.inr rfl) b0 (Or.inr rfl) o4 l0 ⟨fun _ => s6.2 (Or.inr ⟨yes.1, yes.2.1, yes.2.2, by omega⟩), fun _ => rfl⟩ hh
                · replace dd := ti_eqN (a := w1) (b := w2) dd rfl rfl
                  unfold f_apartOf_159 at hh
                  refine nxt (Or.inr rfl) b0 (Or.inl rfl) o4 l0 ⟨fun e => absurd e (by decide), fun e => ?_⟩ hh
                  rcases s6.1 e with e | e
                  · have := q6.2 e
                    omega
                  · have := e.2.2.2
                    omega
              · have dc' : x6.toInt = 1 := by
                  rcases b6 with b | b
                  · exact absurd (i32_of b) dc
                  · exact b
                unfold f_apartOf_154 f_apartOf_159 at hh
                exact nxt (Or.inr rfl) b0 (Or.inr rfl) o4 l0 ⟨fun _ => s6.2 (Or.inl (q6.1 dc')), fun _ => rfl⟩ hh
            rcases m_ifE hf with ⟨dc, hf⟩ | ⟨dc, hf⟩
            · have dc' : x5.toInt = 0 := by rw [dc]; rfl
              obtain ⟨w1, k1, hf⟩ := m_bndE hf
              obtain ⟨w2, k2, hf⟩ := m_bndE hf
              have y1 : w1.toInt = v2.toInt % 8 := ti_rem k1 rfl z8 (by omega) (by decide)
              have y2 : w2.toInt = x2.toInt % 8 := ti_rem k2 rfl z8 (by omega) (by decide)
              rcases m_ifE hf with ⟨dd, hf⟩ | ⟨dd, hf⟩
              · replace dd := ti_eqP (a := w1) (b := w2) dd rfl rfl
                unfold f_apartOf_130 at hf
                exact rk 1 (Or.inr rfl) ⟨fun _ => s5.2 (Or.inr ⟨yes.1, yes.2.1, yes.2.2, by omega⟩), fun _ => rfl⟩ hf
              · replace dd := ti_eqN (a := w1) (b := w2) dd rfl rfl
                refine rk 0 (Or.inl rfl) ⟨fun e => absurd e (by decide), fun e => ?_⟩ hf
                rcases s5.1 e with e | e
                · have := q5.2 e
                  omega
                · have := e.2.2.2
                  omega
            · have dc' : x5.toInt = 1 := by
                rcases b5 with b | b
                · exact absurd (i32_of b) dc
                · exact b
              unfold f_apartOf_130 at hf
              exact rk 1 (Or.inr rfl) ⟨fun _ => s5.2 (Or.inl (q5.1 dc')), fun _ => rfl⟩ hf
          · replace d9 := ti_eqN (a := r9) (b := x3) d9 rfl rfl
            exact no (fun e => by have := e.2.2; omega) hf
        · replace d3 := ti_eqN (a := v5) (b := v7) d3 rfl rfl
          exact no (fun e => by have := e.2.1; omega) hf
theorem v_apartOf (hR : RIt I A) (qs : QS I A P) (pg : PGd P) (LG : LGo P x1.toInt) (hf : f_apartOf x1 I A = some o2) : o2.1.toInt = apW P x1.toInt := by
  have hI := hR.1
  have hA := hR.2.1
  have hm := qs.1.1
  have hM := pg.2.1
  have hxb := LG.1
  have hme := LG.2.1.1
  have z0 : (0 : Int32).toInt = 0 := rfl
  have z64 : (64 : Int32).toInt = 64 := rfl
  have hf : f_apartOf_0 x1 I A = some o2 := hf
  unfold f_apartOf_0 at hf
  obtain ⟨v1, g1, hf⟩ := m_bndE hf
  have u1 : v1.toInt = x1.toInt % 64 := ti_rem g1 rfl z64 (by omega) (by decide)
  obtain ⟨-, hf⟩ := m_chkE hf
  obtain ⟨v2, g2, hf⟩ := m_bndE hf
  have u2 := mR_at g2 (by omega) (by omega)
  rw [hm, u1] at u2
  have b2 := hM (x1.toInt % 64)
  obtain ⟨⟨r3, Ic3, Ac3⟩, h_3, hf⟩ := m_clE hf
  have e3 := rro_kind h_3
  have i3 : Ic3 = I := congrArg Prod.fst e3
  have a3 : Ac3 = A := congrArg Prod.snd e3
  have u3 := pc_kind h_3 hI hA (by omega)
  dsimp only at u3 hf
  rw [i3, a3] at hf
  rw [u2] at u3
  unfold apW
  rcases m_ifE hf with ⟨d, hf⟩ | ⟨d, hf⟩
  · replace d := ti_eqP (a := r3) (b := (1 : Int32)) d rfl (show (1 : Int32).toInt = 1 from rfl)
    rw [if_pos (by omega)]
    obtain ⟨⟨r4, Ic4, Ac4⟩, h_4, hf⟩ := m_clE hf
    obtain ⟨-, b4, q4⟩ := ok_of (x_isTaking hI hA hxb (by rw [hm]; exact hM)) h_4
    dsimp only at b4 q4 hf
    rw [hm] at q4
    have tk : r4.toInt = tkV P (x1.toInt % 64) (x1.toInt / 64 % 64) := by
      unfold tkV
      by_cases e : tkg (om P) (x1.toInt % 64) (x1.toInt / 64 % 64)
      · rw [if_pos e]; exact q4.2 e
      · rw [if_neg e]
        have : r4.toInt ≠ 1 := fun h => e (q4.1 h)
        omega
    rcases m_ifE hf with ⟨d4, hf⟩ | ⟨d4, hf⟩
    · unfold f_apartOf_33 at hf
      cases hf
      rw [← tk, d4]
    · unfold f_apartOf_33 at hf
      cases hf
      rw [← tk]
      have : r4.toInt ≠ 0 := fun e => d4 (i32_of e)
      show (1 : Int32).toInt = r4.toInt
      have z1 : (1 : Int32).toInt = 1 := rfl
      omega
  · replace d := ti_eqN (a := r3) (b := (1 : Int32)) d rfl (show (1 : Int32).toInt = 1 from rfl)
    rw [if_neg (by omega)]
    have b33 : 0 ≤ (I 33).toInt ∧ (I 33).toInt ≤ 2048 := hI 33
    have hk : om P (x1.toInt % 64) % 8 ≠ 1 := by omega
    have ra : 0 ≤ x1.toInt % 64 ∧ x1.toInt % 64 ≤ 63 := by omega
    have rt : 0 ≤ x1.toInt / 64 % 64 ∧ x1.toInt / 64 % 64 ≤ 63 := by omega
    have K4 := (ls_ex (Q := fun y : Int => y % 64 ≠ x1.toInt % 64 ∧ y / 64 % 64 = x1.toInt / 64 % 64 ∧ om P (y % 64) % 8 = om P (x1.toInt % 64) % 8 ∧ True) qs.2).trans (ap_key pg hk ra rt hme (G := fun _ => True))
    have K5 := (ls_ex (Q := fun y : Int => y % 64 ≠ x1.toInt % 64 ∧ y / 64 % 64 = x1.toInt / 64 % 64 ∧ om P (y % 64) % 8 = om P (x1.toInt % 64) % 8 ∧ y % 64 % 8 = x1.toInt % 64 % 8) qs.2).trans (ap_key pg hk ra rt hme (G := fun b => b % 8 = x1.toInt % 64 % 8))
    have K6 := (ls_ex (Q := fun y : Int => y % 64 ≠ x1.toInt % 64 ∧ y / 64 % 64 = x1.toInt / 64 % 64 ∧ om P (y % 64) % 8 = om P (x1.toInt % 64) % 8 ∧ y % 64 / 8 = x1.toInt % 64 / 8) qs.2).trans (ap_key pg hk ra rt hme (G := fun b => b / 8 = x1.toInt % 64 / 8))
    obtain ⟨y4, y5, y6, c4, c5, c6, l4, l5, l6, ev⟩ := va_46 (P := P) (a := x1.toInt % 64) (t := x1.toInt / 64 % 64) hI hA hm hM hxb u1 ra rfl u3 mFuel 0 0 0 0 ⟨by decide, by rw [z0]; omega⟩ (Or.inl rfl) (Or.inl rfl) (Or.inl rfl) ⟨fun e => absurd e (by decide), fun ⟨i, i1, _⟩ => by rw [z0] at i1; omega⟩ ⟨fun e => absurd e (by decide), fun ⟨i, i1, _⟩ => by rw [z0] at i1; omega⟩ ⟨fun e => absurd e (by decide), fun ⟨i, i1, _⟩ => by rw [z0] at i1; omega⟩ hf
    have k4' : y4.toInt = 1 ↔ exO P (x1.toInt % 64) (x1.toInt / 64 % 64) 64 := (l4.trans K4).trans ⟨fun ⟨b, b0, b1, h, _⟩ => ⟨b, b0, b1, h⟩, fun ⟨b, b0, b1, h⟩ => ⟨b, b0, b1, h, trivial⟩⟩
    obtain ⟨w0, w1, w2, w3⟩ := apP_v (P := P) (a := x1.toInt % 64) (t := x1.toInt / 64 % 64) k4' (l5.trans K5) (l6.trans K6)
    clear k4' K4 K5 K6 l4 l5 l6
    rw [ev]
    rcases c4 with e4 | e4
    · rw [if_pos e4, w0 (by omega)]
    · rw [if_neg (by omega)]
      rcases c5 with e5 | e5
      · rw [if_pos e5, w1 e4 (by omega)]
      · rw [if_neg (by omega)]
        rcases c6 with e6 | e6
        · rw [if_pos e6, w2 e4 e5 (by omega)]
        · rw [if_neg (by omega), w3 e4 e5 e6]
/-- the reference spells a move whole -/
theorem v_spellWhole (hR : RIt I A) (qs : QS I A P) (pg : PGd P) (LG : LGo P x1.toInt) (hf : f_spellWhole x1 I A = some o2) : ∃ ck, csF (om P) (osd P) (ort P) (ops P) (okw P) (okb P) x1.toInt ck ∧ SPL o2.2.1 o2.2.2 (sgW P x1.toInt ck) := by
  have hf : f_spellWhole_0 x1 I A = some o2 := hf
  unfold f_spellWhole_0 at hf
  obtain ⟨⟨r3, Ic3, Ac3⟩, h_3, hf⟩ := m_clE hf
  have e3 := rro_apartOf h_3
  obtain ⟨-, p3⟩ := ok_of (t_apartOf hR.1 hR.2.1 LG.1) h_3
  have q3 := v_apartOf hR qs pg LG h_3
  have i3 : Ic3 = I := congrArg Prod.fst e3
  have a3 : Ac3 = A := congrArg Prod.snd e3
  dsimp only at hf p3 q3
  rw [i3, a3] at hf
  obtain ⟨⟨r4, Ic4, Ac4⟩, h_4, hf⟩ := m_clE hf
  have e4 := rro_isTaking h_4
  have i4 : Ic4 = I := congrArg Prod.fst e4
  have a4 : Ac4 = A := congrArg Prod.snd e4
  obtain ⟨-, b4, q4⟩ := ok_of (x_isTaking hR.1 hR.2.1 LG.1 (by rw [qs.1.1]; exact pg.2.1)) h_4
  dsimp only at hf b4 q4
  rw [qs.1.1] at q4
  rw [i4, a4] at hf
  have tk : r4.toInt = tkV P (x1.toInt % 64) (x1.toInt / 64 % 64) := by
    unfold tkV
    by_cases e : tkg (om P) (x1.toInt % 64) (x1.toInt / 64 % 64)
    · rw [if_pos e]; exact q4.2 e
    · rw [if_neg e]
      have : r4.toInt ≠ 1 := fun h => e (q4.1 h)
      omega
  obtain ⟨⟨r5, Ic5, Ac5⟩, h_5, hf⟩ := m_clE hf
  have J5 := fj_sp (fj_q hR qs) LG.1 p3 (by omega) h_5
  have hpr : x1.toInt / 4096 = 0 ∨ (2 ≤ x1.toInt / 4096 ∧ x1.toInt / 4096 ≤ 5) := by
    have := LG.2.2.1
    unfold PRo at this
    omega
  have S5 := p_spellMove hR.1 hR.2.1 qs.1.1 pg.2.1 LG.1 LG.2.1.1.1 hpr p3 (by omega) h_5
  dsimp only at hf S5
  rw [q3, tk] at S5
  obtain ⟨⟨r6, Ic6, Ac6⟩, h_6, hf⟩ := m_clE hf
  obtain ⟨j1, j2, j3, j4, j5, j6, j7, -⟩ := J5
  obtain ⟨e6, c6⟩ := p_behind (ko := oko P) j1 j2 j3 j4 j5 j6 j7 pg rfl LG h_6
  have i6 : Ic6 = Ic5 := congrArg Prod.fst e6
  have a6 : Ac6 = nA Ic5 Ac5 := congrArg Prod.snd e6
  dsimp only at hf c6
  rw [i6, a6] at hf
  have S6 : SPL Ic5 (nA Ic5 Ac5) (spW (om P) x1.toInt (apW P x1.toInt) (tkV P (x1.toInt % 64) (x1.toInt / 64 % 64))) := ⟨S5.1, fun i i0 i1 => by rw [nA_o (by decide) (by decide)]; exact S5.2 i i0 i1⟩
  have cb := csF_b c6
  refine ⟨r6.toInt, c6, ?_⟩
  unfold sgW
  rcases m_ifE hf with ⟨d, hf⟩ | ⟨d, hf⟩
  · unfold f_spellWhole_30 at hf
    have eo := (Option.some.inj hf).symm
    have e0 : ckL r6.toInt = [] := by rw [d]; rfl
    rw [eo, e0, List.append_nil]
    exact S6
  · obtain ⟨⟨r7, Ic7, Ac7⟩, h_7, hf⟩ := m_clE hf
    have S7 := p_spell S6 (by have := spW_l (m := om P) (x := x1.toInt) (ap := apW P x1.toInt) (tk := tkV P (x1.toInt % 64) (x1.toInt / 64 % 64)); omega) (by omega) h_7
    unfold f_spellWhole_30 at hf
    have eo := (Option.some.inj hf).symm
    have e0 : ckL r6.toInt = [r6.toInt] := if_neg (fun e => d (i32_of e))
    rw [eo, e0]
    exact S7
/-- what the reference tells -/
noncomputable def OUr (I : Nat → Int32) (A : Nat → Nat → Int32) (w : List Int) : Prop := (I 3).toInt = (w.length : Int) ∧ ∀ i : Nat, i < w.length → (A 4 i).toInt = wA w (i : Int)
theorem vs_out {w : List Int} (hw : w.length ≤ 16) (hA0 : ∀ i : Nat, i < w.length → 0 ≤ wA w (i : Int) ∧ wA w (i : Int) ≤ 65535) : ∀ (n : Nat) (x2 : Int32) (A : Nat → Nat → Int32) (j : Nat), x2.toInt = (j : Int) → j ≤ w.length → SPL I A w → (∀ i : Nat, i < j → (A 4 i).toInt = wA w (i : Int)) → f_signs_33 n x2 I A = some o2 → o2.1.toInt = (w.length : Int) ∧ OUr o2.2.1 o2.2.2 w := by
  intro n
  induction n with
  | zero => intro x2 A j _ _ _ _ hf; cases hf
  | succ n ih =>
    intro x2 A j hx hj hS hp hf
    have hf : f_signs_33s (f_signs_33 n) x2 I A = some o2 := hf
    unfold f_signs_33s at hf
    have h36 := hS.1
    rcases m_ifE hf with ⟨d, hf⟩ | ⟨d, hf⟩
    · replace d := ti_leP (a := I 36) (b := x2) d rfl rfl
      obtain ⟨I1, e1, hf⟩ := m_bndE hf
      have eo := (Option.some.inj hf).symm
      have j3 : I1 3 = I 36 := by rw [e1, upd_self]
      rw [eo]
      refine ⟨by show (I1 3).toInt = _; rw [j3]; exact h36, by show (I1 3).toInt = _; rw [j3]; exact h36, fun i hi => hp i (by omega)⟩
    · replace d := ti_leN (a := I 36) (b := x2) d rfl rfl
      have jl : j < w.length := by omega
      obtain ⟨-, hf⟩ := m_chkE hf
      obtain ⟨v2, e2, hf⟩ := m_bndE hf
      rw [cl_n (n := j) hx] at e2
      have t2 : v2.toInt = wA w (j : Int) := by
        have := hS.2 (j : Int) (by omega) (by omega)
        rw [Int.toNat_natCast] at this
        rw [e2]; exact this
      have b2 := hA0 j jl
      obtain ⟨-, hf⟩ := m_chkE hf
      obtain ⟨A3, e3, hf⟩ := m_bndE hf
      rw [cl_n (n := j) hx] at e3
      have u3 : ∀ k, k ≠ 4 → A3 k = A k := fun k hk => by rw [e3]; exact va_up_ne _ _ hk
      have u4 : A3 4 = upd (A 4) j (vp_nar .char v2) := by rw [e3]; exact va_up_self _ _ _
      obtain ⟨v4, e4, hf⟩ := m_bndE hf
      have t4 : v4.toInt = x2.toInt + 1 := ti_add e4 rfl (show (1 : Int32).toInt = 1 from rfl) (by omega) (by omega)
      refine ih v4 A3 (j + 1) (by omega) (by omega) ⟨h36, fun i i0 i1 => by rw [u3 35 (by decide)]; exact hS.2 i i0 i1⟩ (fun i hi => ?_) hf
      rw [u4]
      by_cases e : i = j
      · rw [e, upd_self, nar_ci rfl (by omega) (by omega), t2]
      · rw [upd_ne e]
        exact hp i (by omega)
/-- signs on both sides: what is answered and what is told -/
theorem an_signs {o : (Nat × Int32) × ZS} (hC : CG S) (hR : RIt I A) (h : FM I A S) (h2 : f_signs x1 I A = some o2) (ho : d_X11_signs 1 x1 S = some o) : ((o.1.1 = 0 ∧ o2.2.1 0 = 0 ∧ o.1.2 = o2.1) ∧ ∃ w, w.length ≤ 16 ∧ RWL o.2 3 w ∧ OUr o2.2.1 o2.2.2 w) ∨ ((o.1.1 = 1 ∧ o2.2.1 0 = 1) ∧ o2.2.2 = A ∧ (∀ j, j ≠ 0 → o2.2.1 j = I j) ∧ ∃ S1, o.2 = zsQ S1 ∧ FR (fun a => a = 5 ∨ a = 6) S S1) := by
  obtain ⟨hm, g, L, st, T, r, c, w⟩ := h
  obtain ⟨⟨p7, gc⟩, gr, ⟨c1, c2, c3⟩, bo, qs⟩ := id w
  obtain ⟨pg, pn1, pn2⟩ := fw_pg w
  have hI := hR.1
  have hf : d_X11_signs_0 1 x1 S = some o := ho
  have hr : f_signs_0 x1 I A = some o2 := h2
  unfold d_X11_signs_0 at hf
  obtain ⟨-, hf⟩ := m_chkE hf
  replace hf := m_calY hf (show zP S 2 1 = some 4 from fx_p hC.2.2.1 (by decide))
  obtain ⟨-, hf⟩ := m_chkE hf
  replace hf := m_calY hf (show zP S 9 1 = some 107 from fx_p hC.2.2.1 (by decide))
  obtain ⟨-, hf⟩ := m_chkE hf
  obtain ⟨⟨y3, S3⟩, h_3, hf⟩ := m_calE hf
  obtain ⟨-, hf⟩ := m_chkE hf
  obtain ⟨F3, C3, q3, l3⟩ := k_isLegal hC bo pg ⟨by omega, by omega⟩ h_3
  dsimp only at F3 C3 q3 l3 hf
  unfold f_signs_0 at hr
  obtain ⟨⟨r1, Ic1, Ac1⟩, h_r1, hr⟩ := m_clE hr
  obtain ⟨e1, q1, l1⟩ := v_isLegal hI qs.2 h_r1
  have i1 : Ic1 = I := congrArg Prod.fst e1
  have a1 : Ac1 = A := congrArg Prod.snd e1
  dsimp only at q1 l1 hr
  rw [i1, a1] at hr
  rcases m_ifE hf with ⟨d, hf⟩ | ⟨d, hf⟩
  · have eo : o = ((1, 0), zsQ S3) := (Option.some.inj hf).symm
    have nl : ¬ ∃ key, key < 32768 ∧ LR (om (posT st T c)) (osd (posT st T c)) (ort (posT st T c)) (ops (posT st T c)) (oko (posT st T c)) key ∧ mvk key = x1.toInt := fun hh => by
      have := l3.2 hh
      rw [d] at this
      exact absurd this (by decide)
    rcases m_ifE hr with ⟨d2, hr⟩ | ⟨d2, hr⟩
    · unfold f_signs_14 at hr
      obtain ⟨I1, f1, hr⟩ := m_bndE hr
      rcases m_ifE hr with ⟨d3, hr⟩ | ⟨-, hr⟩
      · rw [f1, upd_self] at d3
        exact absurd d3 (by decide)
      · have e2 : o2 = (0, (I1, A)) := (Option.some.inj hr).symm
        refine Or.inr ⟨⟨by rw [eo], by rw [e2]; show I1 0 = 1; rw [f1, upd_self]⟩, by rw [e2], fun j hj => by rw [e2]; show I1 j = I j; rw [f1, upd_ne hj], S3, by rw [eo], F3⟩
    · rcases q1 with q | q
      · exact absurd (i32_of q) d2
      · exact absurd (l1.1 q) nl
  · have hlk : ∃ key, key < 32768 ∧ LR (om (posT st T c)) (osd (posT st T c)) (ort (posT st T c)) (ops (posT st T c)) (oko (posT st T c)) key ∧ mvk key = x1.toInt := by
      rcases q3 with q | q
      · exact absurd (i32_of q) d
      · exact l3.1 q
    have LG : LGo (posT st T c) x1.toInt := by
      obtain ⟨key, k1, k2, k3⟩ := hlk
      rw [← k3]
      exact (lg_key pg rfl k1 k2).1
    rcases m_ifE hr with ⟨d2, hr⟩ | ⟨d2, hr⟩
    · have := l1.2 hlk
      rw [d2] at this
      exact absurd this (by decide)
    · -- the reference
      unfold f_signs_14 at hr
      obtain ⟨I1, f1, hr⟩ := m_bndE hr
      have j0 : I1 0 = 0 := by rw [f1, upd_self]
      have jj : ∀ j, j ≠ 0 → I1 j = I j := fun j hj => by rw [f1, upd_ne hj]
      have R1 : RIt I1 A := by rw [f1]; exact rit_0 hR (by decide)
      have qs1 : QS I1 A (posT st T c) := qs_e qs rfl rfl (fun j hj => jj j (by omega))
      rcases m_ifE hr with ⟨-, hr⟩ | ⟨d3, hr⟩
      · obtain ⟨⟨r2, Ic2, Ac2⟩, h_2, hr⟩ := m_clE hr
        obtain ⟨ck, ck1, SP⟩ := v_spellWhole R1 qs1 pg LG h_2
        have f2 := fw_spellWhole h_2
        dsimp only at SP hr f2
        have i0 : Ic2 0 = 0 := (f2.1 0 (by decide)).trans j0
        have wl : (sgW (posT st T c) x1.toInt ck).length ≤ 9 := by
          unfold sgW ckL
          rw [List.length_append]
          have := spW_l (m := om (posT st T c)) (x := x1.toInt) (ap := apW (posT st T c) x1.toInt) (tk := tkV (posT st T c) (x1.toInt % 64) (x1.toInt / 64 % 64))
          split
          · show _ + 0 ≤ 9; omega
          · show _ + 1 ≤ 9; omega
        obtain ⟨-, tk2, -⟩ := ok_of (t_spellWhole R1.1 R1.2.1 LG.1 R1.2.2.2.2) h_2
        dsimp only at tk2
        obtain ⟨o1, o3⟩ := vs_out (w := sgW (posT st T c) x1.toInt ck) (by omega) (fun i hi => by
          have := SP.2 (i : Int) (by omega) (by omega)
          rw [← this]
          exact tk2 35 _) mFuel 0 Ac2 0 rfl (Nat.zero_le _) SP (fun i hi => absurd hi (Nat.not_lt_zero _)) hr
        obtain ⟨s1, -⟩ := vs_33 _ _ _ _ hr
        -- the class
        have k1 : zK S3 1 = 11 := fx_k C3.2.2.1 (by decide) (by decide)
        obtain ⟨-, hf⟩ := m_chkE hf
        replace hf := m_calY hf (show zP S3 1 1 = some 3 from fx_p C3.2.2.1 (by decide))
        obtain ⟨k3, hf⟩ := m_chkE hf
        obtain ⟨⟨y5, S5⟩, h_5, hf⟩ := m_calE hf
        obtain ⟨w0, hw0⟩ := rwl_ex C3.1 k3
        obtain ⟨a5, b5, c5⟩ := p_keep hw0 (show (0 : Int) ≤ (0 : Int32).toInt by decide) h_5
        rw [show (0 : Int32).toInt.toNat = 0 from rfl, List.take_zero] at a5
        have T5 : ZT S5 := by
          rcases c5 with c5 | c5
          · rw [c5]; exact C3.1
          · rw [c5]
            exact zt_I0 C3.1 k3 (fun _ => ⟨show (0 : Int) ≤ (0 : Int32).toInt by decide, show (0 : Int32).toInt ≤ _ by rw [hw0.1]; exact Int.natCast_nonneg _⟩) (fun e => absurd e.1 (by decide)) (tf_b _)
        have F5 : FR (fun a => a = 3) S3 S5 := fr_r b5 k3
        have X5 : FIX S5 := fix_fr C3.2.2.1 F5
        have bo3 : BO S3 107 (posT st T c) := bo_fr bo F3 (by decide) (by decide)
        have bo5 : BO S5 107 (posT st T c) := bo_fr bo3 F5 (by decide) (by decide)
        obtain ⟨-, hf⟩ := m_chkE hf
        obtain ⟨-, hf⟩ := m_chkE hf
        dsimp only at hf
        replace hf := m_calY hf (show zP S5 4 1 = some 17 from fx_p X5 (by decide))
        obtain ⟨-, hf⟩ := m_chkE hf
        replace hf := m_calY hf (show zP S5 9 1 = some 107 from fx_p X5 (by decide))
        obtain ⟨-, hf⟩ := m_chkE hf
        replace hf := m_calY hf (show zP S5 1 1 = some 3 from fx_p X5 (by decide))
        obtain ⟨-, hf⟩ := m_chkE hf
        obtain ⟨⟨r10, S11⟩, h_10, hf⟩ := m_cal2E hf
        obtain ⟨ck2, ck3, P11⟩ := c_putSigns (S0 := S5) (w := []) (Or.inl rfl) (by decide) pg ⟨by omega, by omega⟩ (by decide) LG ⟨T5, X5, bo5, a5, fr_0⟩ h_10
        dsimp only at P11
        rw [csF_u ck3 ck1, List.nil_append] at P11
        obtain ⟨T11, X11, -, W11, -⟩ := P11
        obtain ⟨-, hf⟩ := m_chkE hf
        replace hf := m_calY hf (show zP S11 1 1 = some 3 from fx_p X11 (by decide))
        obtain ⟨-, hf⟩ := m_chkE hf
        obtain ⟨⟨y15, S15⟩, h_15, hf⟩ := m_calE hf
        have q15 := pc_X6_size h_15
        have e15 : S15 = S11 := ro_X6_size h_15
        obtain ⟨-, hf⟩ := m_chkE hf
        dsimp only at q15 hf
        have eo : o = ((0, y15), S15) := (Option.some.inj hf).symm
        refine Or.inl ⟨⟨by rw [eo], (s1 0 (by decide)).trans i0, ?_⟩, sgW (posT st T c) x1.toInt ck, by omega, by rw [eo, e15]; exact W11, o3⟩
        rw [eo]
        exact Int32.toInt_inj.1 (by show y15.toInt = o2.1.toInt; rw [q15, W11.1, o1])
      · exact absurd (show I1 0 ≤ 0 by rw [j0]; decide) d3
end VAP
end
