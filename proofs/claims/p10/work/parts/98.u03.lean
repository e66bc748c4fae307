section SDA
variable {S S' : ZS} {g g' c : Nat} {I I' : Nat → Int32} {A A' : Nat → Nat → Int32} {L : List (List Int × List Int)} {st P : PO} {T : TRa} {r : Int} {x1 x2 x3 : Int32} {o : Int32 × ZS}
theorem posL_g (hw : WT T) (hL : LTr st T) : ∀ l, AN T l → PGd (posL st (tM T) l) ∧ 0 ≤ onb (posL st (tM T) l) ∧ onb (posL st (tM T) l) ≤ 1299 := by
  intro l' h'
  cases l' with
  | nil => exact ⟨hL.1, by have := hL.2.1.1; show 0 ≤ onb st; omega, by have := hL.2.1.2; show onb st ≤ 1299; omega⟩
  | cons k l' =>
    have e : posL st (tM T) (k :: l') = posT st T k := by
      unfold posT
      rw [anc_s hw h'.1.1 h'.1.2, ← h'.2.1]
    rw [e]
    have q := lt_pg hw hL k h'.1.2
    have h3 := hw.1
    have h4 := h'.1.2
    exact ⟨q.1, by omega, by omega⟩
/-- the class plays the moves down to a node -/
theorem sd_68 (hg : g = 35 ∨ g = 99) (hw : WT T) (hL : LTr st T) {l : List Nat} (hl : AN T l) (hll : l.length ≤ 300) : ∀ (n : Nat) (x5 : Int32) (S : ZS) (i : Nat), x5.toInt = (i : Int) - 1 → i ≤ l.length → ZT S → zK S (g + 7) = 14 → BO S 107 (posL st (tM T) (l.drop i)) → (∀ (i : Nat) (h : i < l.length), (zA S (g + 7) i).toInt = tM T l[i]) → f_X1_standAt_68 n 107 (g + 7) x5 S = some o → ZT o.2 ∧ FR (fun a => a = 107 ∨ a = 108) S o.2 ∧ BO o.2 107 (posL st (tM T) l) := by
  intro n
  induction n with
  | zero => intro x5 S i _ _ _ _ _ _ hf; cases hf
  | succ n ih =>
    intro x5 S i hx hi hT kg bo hp hf
    have hf : f_X1_standAt_68s (f_X1_standAt_68 n) 107 (g + 7) x5 S = some o := hf
    unfold f_X1_standAt_68s at hf
    have z0 : (0 : Int32).toInt = 0 := rfl
    rcases m_ifE hf with ⟨c, hf⟩ | ⟨c, hf⟩
    · replace c := ti_ltP (a := x5) (b := (0 : Int32)) c rfl z0
      have i0 : i = 0 := by omega
      rw [i0, List.drop_zero] at bo
      cases hf
      exact ⟨hT, fr_0, bo⟩
    · replace c := ti_ltN (a := x5) (b := (0 : Int32)) c rfl z0
      obtain ⟨j, rfl⟩ : ∃ j, i = j + 1 := ⟨i - 1, by omega⟩
      have jl : j < l.length := by omega
      have dj : l.drop j = l[j] :: l.drop (j + 1) := List.drop_eq_getElem_cons jl
      have aj := an_drop (T := T) j l hl
      rw [dj] at aj
      obtain ⟨aj1, aj2, aj3⟩ := aj
      obtain ⟨-, hf⟩ := m_chkE hf
      obtain ⟨-, hf⟩ := m_chkE hf
      obtain ⟨v1, e1, hf⟩ := m_bndE hf
      have t1 : v1.toInt = tM T l[j] := by rw [e1, cl_n (n := j) (by omega)]; exact hp j jl
      obtain ⟨-, hf⟩ := m_chkE hf
      obtain ⟨⟨r2, S2⟩, h2, hf⟩ := m_calE hf
      dsimp only at hf
      obtain ⟨v3, e3, hf⟩ := m_bndE hf
      have t3 : v3.toInt = x5.toInt + (-1) := ti_add e3 rfl (show (-1 : Int32).toInt = -1 from rfl) (by omega) (by omega)
      obtain ⟨g1, g2, g3⟩ := posL_g hw hL _ aj3
      have LG : LGo (posL st (tM T) (l.drop (j + 1))) v1.toInt := by
        rw [t1, aj2]
        exact hL.2.2 _ aj1.1 aj1.2
      obtain ⟨b1, b2, b3⟩ := bo_play hT bo g1 LG ⟨g2, by omega⟩ h2
      dsimp only at b1 b2 b3
      rw [t1] at b3
      have e7 := fr_e b2 (a := g + 7) (by rw [kg]; decide) (by omega)
      have k7 : zK S2 (g + 7) = 14 := e7.1.trans kg
      have a7 : zA S2 (g + 7) = zA S (g + 7) := e7.2.2.2.2.2.1 (by rw [kg]; decide)
      obtain ⟨d1, d2, d3⟩ := ih v3 S2 j (by omega) (by omega) b1 k7 (by rw [dj]; exact b3) (fun i hi => by rw [a7]; exact hp i hi) hf
      exact ⟨d1, fr_t b2 d2, d3⟩
/-- the class gathers the moves up from a node -/
theorem sd_11 (hg : g = 35 ∨ g = 99) (hw : WT T) (hL : LTr st T) {nd : Nat} (hnd : nd ≤ tn T) : ∀ (n : Nat) (x4 x5 : Int32) (S : ZS) (pre : List Nat) (k : Nat), x4.toInt = (pre.length : Int) → x5.toInt = (k : Int) → k ≤ tn T → pre.length + k ≤ 300 → ancL (tP T) nd nd = pre ++ ancL (tP T) k k → CG S → TRc S g T → BO S (g + 1) st → (∀ (i : Nat) (h : i < pre.length), (zA S (g + 7) i).toInt = tM T pre[i]) → f_X1_standAt_11 n g 107 (g + 7) x4 x5 S = some o → ZT o.2 ∧ FR (fun a => a = g + 7 ∨ a = 107 ∨ a = 108) S o.2 ∧ BO o.2 107 (posT st T nd) := by
  intro n
  induction n with
  | zero => intro x4 x5 S pre k _ _ _ _ _ _ _ _ _ hf; cases hf
  | succ n ih =>
    intro x4 x5 S pre k h4 h5 hk hpk hanc hC tr bo hp hf
    have hf : f_X1_standAt_11s (f_X1_standAt_11 n) g 107 (g + 7) x4 x5 S = some o := hf
    have z0 : (0 : Int32).toInt = 0 := rfl
    have h300 := hw.1
    obtain ⟨⟨kg, p0, -⟩, ⟨-, -, -, -, -, -, k7⟩, -⟩ := fx_g hC.2.2.1 hg
    have k107 : zK S 107 = 0 := fx_k hC.2.2.1 (by decide) (by decide)
    have k108 : zK S 108 = 14 := fx_k hC.2.2.1 (by decide) (by decide)
    have p107 : zP S 0 107 = some 108 := fx_p hC.2.2.1 (by decide)
    have fin : k = 0 → f_X1_standAt_54 g 107 (g + 7) x4 S = some o → ZT o.2 ∧ FR (fun a => a = g + 7 ∨ a = 107 ∨ a = 108) S o.2 ∧ BO o.2 107 (posT st T nd) := fun k0 hf => by
      rw [k0] at hanc
      have e : ancL (tP T) nd nd = pre := by rw [hanc]; exact List.append_nil _
      have hl : AN T pre := by rw [← e]; exact an_anc hw nd hnd
      unfold f_X1_standAt_54 at hf
      obtain ⟨-, hf⟩ := m_chkE hf
      replace hf := m_calY hf p0
      obtain ⟨-, hf⟩ := m_chkE hf
      obtain ⟨⟨r2, S2⟩, h2, hf⟩ := m_calE hf
      dsimp only at hf
      obtain ⟨b1, b2, b3⟩ := bo_copy hC.1 k107 p107 k108 bo h2
      dsimp only at b1 b2 b3
      obtain ⟨v3, e3, hf⟩ := m_bndE hf
      have t3 : v3.toInt = x4.toInt - 1 := ti_sub e3 rfl (show (1 : Int32).toInt = 1 from rfl) (by omega) (by omega)
      have e7 := fr_e b2 (a := g + 7) (by rw [k7]; decide) (by omega)
      have a7 : zA S2 (g + 7) = zA S (g + 7) := e7.2.2.2.2.2.1 (by rw [k7]; decide)
      obtain ⟨d1, d2, d3⟩ := sd_68 hg hw hL hl (by omega) mFuel v3 S2 pre.length (by omega) (Nat.le_refl _) b1 (e7.1.trans k7) (by rw [List.drop_length]; exact b3) (fun i hi => by rw [a7]; exact hp i hi) hf
      refine ⟨d1, fr_t (fr_m b2 (fun a _ e => Or.inr e)) (fr_m d2 (fun a _ e => Or.inr e)), ?_⟩
      unfold posT
      rw [e]
      exact d3
    unfold f_X1_standAt_11s at hf
    rcases m_ifE hf with ⟨c, hf⟩ | ⟨c, hf⟩
    · replace c := ti_leP (a := x5) (b := (0 : Int32)) c rfl z0
      exact fin (by omega) hf
    · replace c := ti_leN (a := x5) (b := (0 : Int32)) c rfl z0
      rcases m_ifE hf with ⟨d, hf⟩ | ⟨d, hf⟩
      · replace d := ti_leP (a := (300 : Int32)) (b := x4) d (show (300 : Int32).toInt = 300 from rfl) rfl
        omega
      · have k1 : 1 ≤ k := by omega
        have hb := (hw.2.1 k k1 hk).1
        have k5 : x5.toInt.toNat = k := by omega
        obtain ⟨-, hf⟩ := m_chkE hf
        obtain ⟨⟨c1, S1⟩, h1, hf⟩ := m_calE hf
        obtain ⟨e1, q1⟩ := p_at hC hg tr (by omega) (by omega) h1
        rw [k5] at q1
        dsimp only at hf
        rw [e1, q1] at hf
        obtain ⟨-, hf⟩ := m_chkE hf
        obtain ⟨-, hf⟩ := m_chkE hf
        obtain ⟨-, hf⟩ := m_chkE hf
        obtain ⟨S2, e2, hf⟩ := m_bndE hf
        rw [cl_n (n := pre.length) h4] at e2
        obtain ⟨v3, e3, hf⟩ := m_bndE hf
        have t3 : v3.toInt = x4.toInt + 1 := ti_add e3 rfl (show (1 : Int32).toInt = 1 from rfl) (by omega) (by omega)
        have F2 : FR (fun a => a = g + 7) S S2 := fr_A hC.1 k7 e2
        have T2 : ZT S2 := by rw [e2]; exact zt_A hC.1 k7
        have Z2 : TZ S2 := tz_k hC.1 hC.2.1 F2 (fun a _ e => by
          rw [e, k7]
          exact ⟨by decide, by decide, fun h => absurd h (by decide)⟩)
        have C2 : CG S2 := cg_w hC T2 Z2 F2 (by omega) (by omega) (by omega) (by omega)
        have tr2 : TRc S2 g T := trc_e hC hg tr (fun a ha => fr_e F2 (tc_lt hC hg ha) (fun e => by
          rw [e] at ha
          exact tc_no hC hg (by omega) (by omega) (by omega) (by omega) (by omega) ha))
        have bo2 : BO S2 (g + 1) st := bo_fr bo F2 (by omega) (by omega)
        obtain ⟨-, hf⟩ := m_chkE hf
        obtain ⟨⟨c4, S4⟩, h4', hf⟩ := m_calE hf
        obtain ⟨e4, q4⟩ := p_at C2 hg tr2 (by omega) (by omega) h4'
        rw [k5] at q4
        dsimp only at hf
        rw [e4, q4] at hf
        obtain ⟨-, hf⟩ := m_chkE hf
        have tp : (zI S2 0 (nk S2 (g + 3) (g + 5) k)).toInt = tP T k := (tr2.2.2.2 k hk).1.1
        have tm : (zI S 1 (nk S (g + 3) (g + 5) k)).toInt = tM T k := (tr.2.2.2 k hk).1.2
        have a2 : zA S2 (g + 7) = upd (zA S (g + 7)) pre.length (zI S 1 (nk S (g + 3) (g + 5) k)) := by
          rw [e2]
          exact va_up_self _ _ _
        have ll : (pre ++ [k]).length = pre.length + 1 := by rw [List.length_append]; rfl
        obtain ⟨d1, d2, d3⟩ := ih v3 _ S2 (pre ++ [k]) (tP T k).toNat (by omega) (by omega) (by omega) (by omega) (by rw [hanc, anc_s hw k1 hk, List.append_assoc]; rfl) C2 tr2 bo2 (fun i hi => by
          rw [a2]
          by_cases e : i = pre.length
          · subst e
            rw [upd_self, List.getElem_append_right (Nat.le_refl _)]
            simp
            exact tm
          · rw [upd_ne e, List.getElem_append_left (show i < pre.length by omega)]
            exact hp i (by omega)) hf
        exact ⟨d1, fr_t (fr_m F2 (fun a _ e => Or.inl e)) d2, d3⟩
/-- the class goes to a node -/
theorem p_stand {nd : Nat} (hC : CG S) (hg : g = 35 ∨ g = 99) (hw : WT T) (hL : LTr st T) (tr : TRc S g T) (bo : BO S (g + 1) st) (h1 : x1.toInt = (nd : Int)) (hnd : nd ≤ tn T) (hf : f_X1_standAt g x1 107 S = some o) : ZT o.2 ∧ FR (fun a => a = g + 7 ∨ a = 107 ∨ a = 108) S o.2 ∧ BO o.2 107 (posT st T nd) := by
  have hf : f_X1_standAt_0 g x1 107 S = some o := hf
  obtain ⟨⟨kg, p0, -, -, -, p7⟩, -, -⟩ := fx_g hC.2.2.1 hg
  have h300 := hw.1
  unfold f_X1_standAt_0 at hf
  obtain ⟨-, hf⟩ := m_chkE hf
  replace hf := m_calY hf p7
  exact sd_11 hg hw hL hnd mFuel 0 x1 S [] nd rfl h1 hnd (by show 0 + nd ≤ 300; omega) rfl hC tr bo (fun i hi => absurd hi (Nat.not_lt_zero _)) hf
/-- go on both sides -/
theorem fm_go {o2 : Int32 × MS} {o : (Nat × Int32) × ZS} (hC : CG S) (hI : TJ I) (hA : TK A) (h5b : 0 ≤ (I 5).toInt ∧ (I 5).toInt ≤ 1) (h : FM I A S) (hs : SM o2.2.1 o2.2.2 o.2) (h2 : f_go x1 I A = some o2) (ho : d_X11_go 1 x1 S = some o) : FM o2.2.1 o2.2.2 o.2 ∧ ((o.1.1 = 0 ∧ o2.2.1 0 = 0) ∨ (o.1.1 = 2 ∧ o2.2.1 0 = 1)) := by
  obtain ⟨hm, g, L, st, T, r, c, w⟩ := h
  obtain ⟨⟨p7, gc⟩, gr, ⟨c1, c2, c3⟩, bo, qs⟩ := id w
  obtain ⟨hw, hl, -, h3⟩ := fw_w w
  have hgg := (sc_7 hm.1 p7).1
  have hf : d_X11_go_0 1 x1 S = some o := ho
  have hr : f_go_0 x1 I A = some o2 := h2
  have z0 : (0 : Int32).toInt = 0 := rfl
  have k1 : zK S 1 = 11 := fx_k hC.2.2.1 (by decide) (by decide)
  unfold d_X11_go_0 at hf
  obtain ⟨-, hf⟩ := m_chkE hf
  replace hf := m_calY hf p7
  obtain ⟨-, hf⟩ := m_chkE hf
  obtain ⟨⟨y2, S2⟩, h_2, hf⟩ := m_calE hf
  obtain ⟨-, hf⟩ := m_chkE hf
  obtain ⟨e2, q2⟩ := fm_has hC hgg gc.1.1 h_2
  dsimp only at e2 q2 hf
  rw [e2] at hf
  unfold f_go_0 at hr
  obtain ⟨⟨r1, Ic1, Ac1⟩, h_r1, hr⟩ := m_clE hr
  dsimp only at hr
  obtain ⟨e1, q1⟩ := fm_isNode h5b hA gr.1.1 h_r1
  have i1 : Ic1 = I := congrArg Prod.fst e1
  have a1 : Ac1 = A := congrArg Prod.snd e1
  rw [i1, a1] at hr
  dsimp only at q1
  rcases m_ifE hf with ⟨d, hf⟩ | ⟨d, hf⟩
  · rw [d] at q2
    have hn : ¬ (0 ≤ x1.toInt ∧ x1.toInt ≤ (tn T : Int)) := by
      rcases q2 with ⟨q, -⟩ | ⟨-, q⟩
      · exact absurd q (by decide)
      · exact q
    rcases m_ifE hr with ⟨d2, hr⟩ | ⟨d2, hr⟩
    · unfold f_go_14 at hr
      obtain ⟨I1, f1, hr⟩ := m_bndE hr
      have j0 : I1 0 = 1 := by rw [f1, upd_self]
      have jj : ∀ j, j ≠ 0 → I1 j = I j := fun j hj => by rw [f1, upd_ne hj]
      rcases m_ifE hr with ⟨d3, hr⟩ | ⟨d3, hr⟩
      · rw [j0] at d3
        exact absurd d3 (by decide)
      · unfold f_go_41 at hr
        cases hr
        cases hf
        refine ⟨fm_ke hC h5b ⟨hm, g, L, st, T, r, c, w⟩ hs (ke_q ke_0) (jj 5 (by decide)) (jj 6 (by decide)) (fun _ _ _ => rfl) (fun _ _ _ _ _ _ w => qs_e w.2.2.2.2 rfl rfl (fun j hj => jj j (by omega))), Or.inr ⟨rfl, j0⟩⟩
    · rcases q1 with ⟨-, q⟩ | ⟨q, -⟩
      · exact absurd q hn
      · exact absurd (i32_of q) d2
  · have hn : 0 ≤ x1.toInt ∧ x1.toInt ≤ (tn T : Int) := by
      rcases q2 with ⟨-, q⟩ | ⟨q, -⟩
      · exact q
      · exact absurd (i32_of q) d
    obtain ⟨nd, hx⟩ : ∃ nd : Nat, x1.toInt = (nd : Int) := ⟨x1.toInt.toNat, by omega⟩
    have hnd : nd ≤ tn T := by omega
    rcases m_ifE hr with ⟨d2, hr⟩ | ⟨d2, hr⟩
    · rw [d2] at q1
      rcases q1 with ⟨q, -⟩ | ⟨-, q⟩
      · exact absurd q (by decide)
      · exact absurd hn q
    · unfold f_go_14 at hr
      obtain ⟨I1, f1, hr⟩ := m_bndE hr
      have j0 : I1 0 = 0 := by rw [f1, upd_self]
      have jj : ∀ j, j ≠ 0 → I1 j = I j := fun j hj => by rw [f1, upd_ne hj]
      have t1 : TJ I1 := by rw [f1]; exact tj_u hI (show (0 : Int) ≤ (0 : Int32).toInt by decide) (show (0 : Int32).toInt ≤ (2 : Int) by decide)
      rcases m_ifE hr with ⟨-, hr⟩ | ⟨d3, hr⟩
      · obtain ⟨I2, f2, hr⟩ := m_bndE hr
        have t2 : TJ I2 := by rw [f2]; exact tj_u t1 (show (0 : Int) ≤ x1.toInt by omega) (show x1.toInt ≤ (300 : Int) by omega)
        have j6 : I2 6 = x1 := by rw [f2, upd_self]
        have j5 : I2 5 = I 5 := by rw [f2, upd_ne (by decide)]; exact jj 5 (by decide)
        have j20 : I2 0 = 0 := by rw [f2, upd_ne (by decide)]; exact j0
        obtain ⟨⟨r3, Ic3, Ac3⟩, h_r3, hr⟩ := m_clE hr
        unfold f_go_41 at hr
        cases hr
        obtain ⟨qn, pl⟩ := qs_place (k := nd) t2 hA (by rw [j5]; exact h5b) (by rw [j5]; exact gr) (by rw [j6]; exact hx) hnd h_r3
        dsimp only at qn pl
        obtain ⟨pA, pl5, pl6, pl0⟩ := plf_g pl
        -- the class
        obtain ⟨-, hf⟩ := m_chkE hf
        obtain ⟨S3, e3, hf⟩ := m_bndE hf
        have F3 : FR (fun a => a = 1) S S3 := fr_I e3
        have T3 : ZT S3 := by rw [e3]; exact zt_I hC.1 k1 (by decide) (show (0 : Int) ≤ x1.toInt ∧ x1.toInt ≤ (300 : Int) by omega)
        have Z3 : TZ S3 := tz_k hC.1 hC.2.1 F3 (fun a _ e => by
          rw [e, k1]
          exact ⟨by decide, by decide, fun h => absurd h (by decide)⟩)
        have C3 : CG S3 := cg_w hC T3 Z3 F3 (by decide) (by decide) (by decide) (by decide)
        have G3 : GMc S3 g L st T r := gmc_fr hC hgg gc F3 (by omega)
        have p73 : zP S3 7 1 = some g := by rw [e3]; exact p7
        obtain ⟨-, hf⟩ := m_chkE hf
        replace hf := m_calY hf p73
        obtain ⟨-, hf⟩ := m_chkE hf
        replace hf := m_calY hf (show zP S3 9 1 = some 107 from fx_p C3.2.2.1 (by decide))
        obtain ⟨-, hf⟩ := m_chkE hf
        obtain ⟨⟨r6, S6⟩, h_6, hf⟩ := m_calE hf
        obtain ⟨-, hf⟩ := m_chkE hf
        cases hf
        obtain ⟨T6, F6, B6⟩ := p_stand C3 hgg hw hl G3.1.1 G3.2.1 hx hnd h_6
        dsimp only at T6 F6 B6
        have k13 : zK S3 1 = 11 := fx_k C3.2.2.1 (by decide) (by decide)
        have e1 := fr_e F6 (a := 1) (by rw [k13]; decide) (by omega)
        refine ⟨⟨hs, g, L, st, T, r, nd, ⟨(e1.2.2.2.1 7).trans p73, gmc_fr C3 hgg G3 F6 (by omega)⟩, ?_, ⟨?_, ?_, hnd⟩, B6, qn⟩, Or.inl ⟨rfl, pl0.trans j20⟩⟩
        · show GMr Ac3 (Ic3 5).toInt.toNat L st T r
          rw [pl5, j5]
          exact gmr_7 (by omega) gr pA
        · show (zI S6 8 1).toInt = (nd : Int)
          rw [e1.2.2.1 8, e3, zI_self]
          exact hx
        · show (Ic3 6).toInt = (nd : Int)
          rw [pl6, j6]
          exact hx
      · exact absurd (show I1 0 = 0 from j0) d3
end SDA
