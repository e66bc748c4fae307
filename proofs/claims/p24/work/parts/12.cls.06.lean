section
theorem hd_X11_kindOf : yX11_kindOf.cls ≠ "java/lang/invoke/MethodHandle" ∧ yX11_kindOf.cls ≠ "java/lang/invoke/VarHandle" ∧ (parseMethodDescriptor yX11_kindOf.desc).map (fun d => d.parameters.length) = some 1 := by decide +kernel
theorem sr_X11_kindOf_286 : (RX11, 286, "PNBRQK", 9) ∈ zSR := by decide +kernel
noncomputable def f_X11_kindOf_0 (x0 : Int32) (S : ZS) : Option (Int32 × ZS) :=
  m_chk (9 < zSn) (
  m_cal (f_J0_indexOf_0f7a4 9 x0 S) (fun o1 =>
  m_bnd (o1.1 + (1 : Int32)) (fun v2 =>
  some (v2, o1.2))))

set_option maxRecDepth 100000 in
set_option maxHeartbeats 4000000 in
theorem w_X11_kindOf_0 {p : Program} {l : Launch} {e : Env} {s : State} {m : MethodId} {args : Array Value} {below : List Frame} {meth : Method} {c : Code} {Q : State → Prop} {D : va_G} {y : Nat → ClassId} {A0 : Nat → Prop} {o : Int32 × ZS} (X : CallFix p m c cX11_kindOf 1 s args wsX11_kindOf RX11) (hret : zRi p l e ({ frames := 4, cells := 0, slots := 0, locals := 91 } : Room) s m args below meth c Q cX11_kindOf D y A0 .int o) {x0 : Int32} {S : ZS} {H : Heap} {locs : List Loc} {ls : Array Slot} (hf : f_X11_kindOf_0 x0 S = some o) (hM : zH D y A0 s H locs S) (hl : lv_has ls 1 [(0, .int x0)]) : W p l e ({ frames := 4, cells := 0, slots := 0, locals := 91 } : Room) s m args below meth c H locs 0 0 Q (F0 m 0 ls []) := by
  obtain ⟨hx, hb, hml, hown, hts⟩ := id X
  unfold f_X11_kindOf_0 at hf
  refine z_ldcwS X hM sr_X11_kindOf_286 dX11_kindOf_0 ?_
  refine lv_iload_n hx hb dX11_kindOf_3 rfl (lv_at hl 0 rfl) ?_
  obtain ⟨ca, hf⟩ := m_chkE hf
  obtain ⟨o1, ho, hf⟩ := m_calE hf
  refine z_callTi X hM ca (c_J0_indexOf_0f7a4 ho) gX11_kindOf_J0_indexOf_0f7a4 rfl ⟨rfl, rfl⟩ hd_J0_indexOf_0f7a4 ⟨Nat.le_of_ble_eq_true rfl, Nat.le_of_ble_eq_true rfl⟩ rfl hl.1 rfl (Nat.le_of_ble_eq_true rfl) dX11_kindOf_4 (fun H locs hM => ?_)
  clear ho
  refine lv_iconst (v := (1 : Int32)) hx hb dX11_kindOf_7 (by decide) ?_
  refine lv_iadd hx hb dX11_kindOf_8 ?_
  obtain ⟨v2, ev, hf⟩ := m_bndE hf
  refine m_top ev ?_
  clear ev
  cases hf
  exact hret H locs _ ls hM rfl dX11_kindOf_9
noncomputable def f_X11_kindOf (x0 : Int32) (S : ZS) : Option (Int32 × ZS) := f_X11_kindOf_0 x0 S
theorem c_X11_kindOf {l : Launch} {D : va_G} {y : Nat → ClassId} {x0 : Int32} {S : ZS} {o : Int32 × ZS} (hf : f_X11_kindOf x0 S = some o) : zMi l yX11_kindOf wsX11_kindOf ({ frames := 4, cells := 0, slots := 0, locals := 91 } : Room) [.int x0] D y S o :=
  z_entryI (own := RX11) (cc := cX11_kindOf) (maxL := 1) (by decide) rfl rfl (Nat.le_of_ble_eq_true rfl) (fun p e s m args below meth c A0 Q H locs ls X hret hM hl => w_X11_kindOf_0 X hret hf hM (lv_sub hl [0] rfl))
theorem hd_X8_parseApart : yX8_parseApart.cls = RX8 ∧ yX8_parseApart.cls ≠ "java/lang/invoke/MethodHandle" ∧ yX8_parseApart.cls ≠ "java/lang/invoke/VarHandle" ∧ (parseMethodDescriptor yX8_parseApart.desc).map (fun d => d.parameters.length) = some 2 := by decide +kernel
theorem fl_X8_parseApart_8_1 : Cond.fieldLink RX8 21 "MoveTexts$SignReader" "row" "LMoveTexts$Row;" ∈ wsX8_parseApart := by decide +kernel
theorem fl_X8_parseApart_8_3 : Cond.fieldLink RX8 93 "MoveTexts$SignReader" "kind" "I" ∈ wsX8_parseApart := by decide +kernel
theorem fl_X8_parseApart_8_4 : Cond.fieldLink RX8 107 "MoveTexts$SignReader" "file" "I" ∈ wsX8_parseApart := by decide +kernel
theorem fl_X8_parseApart_8_5 : Cond.fieldLink RX8 110 "MoveTexts$SignReader" "rank" "I" ∈ wsX8_parseApart := by decide +kernel
theorem hw_X8_parseApart_8 : ∀ w ∈ wsX80, w ∈ wsX8_parseApart := by decide +kernel
theorem nn_X8_parseApart_113 : ((RX8, 113, yX11_isFile, "MoveTexts") ∈ zNW ∧ Cond.initialized yX11_isFile.cls ∈ wsX8_parseApart) ∧ Cond.static yX11_isFile ∈ wsX8_parseApart := by decide +kernel
theorem nn_X8_parseApart_117 : ((RX8, 117, yX11_isRank, "MoveTexts") ∈ zNW ∧ Cond.initialized yX11_isRank.cls ∈ wsX8_parseApart) ∧ Cond.static yX11_isRank ∈ wsX8_parseApart := by decide +kernel
noncomputable def f_X8_parseApart_104 (t0 : Int32) (S : ZS) : Option (Int32 × ZS) :=
  m_chk (vp_nar .boolean t0 = t0) (some (t0, S))

set_option maxRecDepth 100000 in
set_option maxHeartbeats 4000000 in
theorem w_X8_parseApart_104 {p : Program} {l : Launch} {e : Env} {s : State} {m : MethodId} {args : Array Value} {below : List Frame} {meth : Method} {c : Code} {Q : State → Prop} {D : va_G} {y : Nat → ClassId} {A0 : Nat → Prop} {o : Int32 × ZS} (X : CallFix p m c cX8_parseApart 4 s args wsX8_parseApart RX8) (hret : zRi p l e ({ frames := 1, cells := 0, slots := 0, locals := 21 } : Room) s m args below meth c Q cX8_parseApart D y A0 .boolean o) {t0 : Int32} {S : ZS} {H : Heap} {locs : List Loc} {ls : Array Slot} (hf : f_X8_parseApart_104 t0 S = some o) (hM : zH D y A0 s H locs S) (hl : lv_has ls 4 []) : W p l e ({ frames := 1, cells := 0, slots := 0, locals := 21 } : Room) s m args below meth c H locs 0 0 Q (F0 m 104 ls [.int t0]) := by
  obtain ⟨hx, hb, hml, hown, hts⟩ := id X
  unfold f_X8_parseApart_104 at hf
  obtain ⟨cd, hf⟩ := m_chkE hf
  cases hf
  exact hret H locs _ ls hM (m_nb cd) dX8_parseApart_104
noncomputable def f_X8_parseApart_94 (x2 : Int32) (x3 : Int32) (S : ZS) : Option (Int32 × ZS) :=
  m_if (x3 = x2) (
  f_X8_parseApart_104 (1 : Int32) S
  ) (
  f_X8_parseApart_104 (0 : Int32) S
  )

set_option maxRecDepth 100000 in
set_option maxHeartbeats 4000000 in
theorem w_X8_parseApart_94 {p : Program} {l : Launch} {e : Env} {s : State} {m : MethodId} {args : Array Value} {below : List Frame} {meth : Method} {c : Code} {Q : State → Prop} {D : va_G} {y : Nat → ClassId} {A0 : Nat → Prop} {o : Int32 × ZS} (X : CallFix p m c cX8_parseApart 4 s args wsX8_parseApart RX8) (hret : zRi p l e ({ frames := 1, cells := 0, slots := 0, locals := 21 } : Room) s m args below meth c Q cX8_parseApart D y A0 .boolean o) {x2 : Int32} {x3 : Int32} {S : ZS} {H : Heap} {locs : List Loc} {ls : Array Slot} (hf : f_X8_parseApart_94 x2 x3 S = some o) (hM : zH D y A0 s H locs S) (hl : lv_has ls 4 [(2, .int x2), (3, .int x3)]) : W p l e ({ frames := 1, cells := 0, slots := 0, locals := 21 } : Room) s m args below meth c H locs 0 0 Q (F0 m 94 ls []) := by
  obtain ⟨hx, hb, hml, hown, hts⟩ := id X
  unfold f_X8_parseApart_94 at hf
  refine lv_iload_n hx hb dX8_parseApart_94 rfl (lv_at hl 1 rfl) ?_
  refine lv_iload_n hx hb dX8_parseApart_95 rfl (lv_at hl 0 rfl) ?_
  refine lv_icmp_ne (tgt := 103) hx hb dX8_parseApart_96 (by decide) (fun cc1 => ?_) (fun cc1 => ?_)
  · replace hf := m_ifF hf cc1
    refine lv_iconst (v := (0 : Int32)) hx hb dX8_parseApart_103 (by decide) ?_
    exact w_X8_parseApart_104 (t0 := (0 : Int32)) X hret hf hM (lv_sub hl [] rfl)
  · replace hf := m_ifT hf cc1
    refine lv_iconst (v := (1 : Int32)) hx hb dX8_parseApart_99 (by decide) ?_
    refine lv_goto (tgt := 104) hx hb dX8_parseApart_100 (by decide) ?_
    exact w_X8_parseApart_104 (t0 := (1 : Int32)) X hret hf hM (lv_sub hl [] rfl)
noncomputable def f_X8_parseApart_49 (x0 : Nat) (x2 : Int32) (x3 : Int32) (S : ZS) : Option (Int32 × ZS) :=
  m_if (x2 ≤ x3) (
  f_X8_parseApart_94 x2 x3 S
  ) (
  m_chk (zK S x0 = 8) (
  m_if ((zI S 3 x0) = (1 : Int32)) (
  f_X8_parseApart_94 x2 x3 S
  ) (
  m_chk (zK S x0 = 8) (
  m_cal (zP S 1 x0) (fun b1 =>
  m_chk (zK S b1 = 6) (
  m_cal (f_X6_at b1 x3 S) (fun o2 =>
  m_cal (f_X11_isRank o2.1 o2.2) (fun o3 =>
  m_if (o3.1 = 0) (
  f_X8_parseApart_94 x2 x3 o3.2
  ) (
  m_chk (zK o3.2 x0 = 8) (
  m_cal (zP o3.2 1 x0) (fun b4 =>
  m_chk (zK o3.2 b4 = 6) (
  m_cal (f_X6_at b4 x3 o3.2) (fun o5 =>
  m_bnd (o5.1 - (49 : Int32)) (fun v6 =>
  m_chk (zK o5.2 x0 = 8) (
  m_bnd (zsI o5.2 5 x0 v6) (fun S7 =>
  m_bnd (x3 + (1 : Int32)) (fun v8 =>
  f_X8_parseApart_94 x2 v8 S7))))))))
  ))))))
  ))
  )

set_option maxRecDepth 100000 in
set_option maxHeartbeats 4000000 in
theorem w_X8_parseApart_49 {p : Program} {l : Launch} {e : Env} {s : State} {m : MethodId} {args : Array Value} {below : List Frame} {meth : Method} {c : Code} {Q : State → Prop} {D : va_G} {y : Nat → ClassId} {A0 : Nat → Prop} {o : Int32 × ZS} (X : CallFix p m c cX8_parseApart 4 s args wsX8_parseApart RX8) (hret : zRi p l e ({ frames := 1, cells := 0, slots := 0, locals := 21 } : Room) s m args below meth c Q cX8_parseApart D y A0 .boolean o) {x0 : Nat} {x2 : Int32} {x3 : Int32} {S : ZS} {H : Heap} {locs : List Loc} {ls : Array Slot} (hf : f_X8_parseApart_49 x0 x2 x3 S = some o) (hM : zH D y A0 s H locs S) (hl : lv_has ls 4 [(0, .ref (zh y x0)), (2, .int x2), (3, .int x3)]) : W p l e ({ frames := 1, cells := 0, slots := 0, locals := 21 } : Room) s m args below meth c H locs 0 0 Q (F0 m 49 ls []) := by
  obtain ⟨hx, hb, hml, hown, hts⟩ := id X
  unfold f_X8_parseApart_49 at hf
  refine lv_iload_n hx hb dX8_parseApart_49 rfl (lv_at hl 2 rfl) ?_
  refine lv_iload_n hx hb dX8_parseApart_50 rfl (lv_at hl 1 rfl) ?_
  refine lv_icmp_ge (tgt := 94) hx hb dX8_parseApart_51 (by decide) (fun cc1 => ?_) (fun cc1 => ?_)
  · replace hf := m_ifT hf cc1
    exact w_X8_parseApart_94 (x2 := x2) (x3 := x3) X hret hf hM (lv_sub hl [1, 2] rfl)
  · replace hf := m_ifF hf cc1
    refine lv_aload_n hx hb dX8_parseApart_54 rfl (lv_at hl 0 rfl) ?_
    obtain ⟨ca, hf⟩ := m_chkE hf
    replace ca := z_in hM (by decide) ca
    refine z_get (k := 8) (j := 3) (C := RX8) (T := TX8) (N := 12) (fl := zf_8) (v := .int (zI S 3 x0)) X hw_X8_parseApart_8 hM rfl zc_8 ca (by decide) fl_X8_parseApart_8_3 rfl dX8_parseApart_55 ?_
    clear ca
    refine lv_iconst (v := (1 : Int32)) hx hb dX8_parseApart_58 (by decide) ?_
    refine lv_icmp_eq (tgt := 94) hx hb dX8_parseApart_59 (by decide) (fun cc1 => ?_) (fun cc1 => ?_)
    · replace hf := m_ifT hf cc1
      exact w_X8_parseApart_94 (x2 := x2) (x3 := x3) X hret hf hM (lv_sub hl [1, 2] rfl)
    · replace hf := m_ifF hf cc1
      refine lv_aload_n hx hb dX8_parseApart_62 rfl (lv_at hl 0 rfl) ?_
      obtain ⟨ca, hf⟩ := m_chkE hf
      replace ca := z_in hM (by decide) ca
      refine z_get (k := 8) (j := 1) (C := RX8) (T := TX8) (N := 12) (fl := zf_8) (v := va_rf ((zP S 1 x0).map (zh y))) X hw_X8_parseApart_8 hM rfl zc_8 ca (by decide) fl_X8_parseApart_8_1 rfl dX8_parseApart_63 ?_
      clear ca
      obtain ⟨b1, hb9, hf⟩ := m_calE hf
      refine z_topr hb9 ?_
      clear hb9
      refine lv_iload_n hx hb dX8_parseApart_66 rfl (lv_at hl 2 rfl) ?_
      obtain ⟨ca, hf⟩ := m_chkE hf
      replace ca := z_in hM (by decide) ca
      obtain ⟨o2, ho, hf⟩ := m_calE hf
      refine z_callVi (k := 6) (C := RX6) (T := TX6) (N := 2) (fl := zf_6) X hM rfl zc_6 ca (c_X6_at ho) gX8_parseApart_X6_at rfl ⟨rfl, rfl⟩ hd_X6_at ⟨Nat.le_of_ble_eq_true rfl, Nat.le_of_ble_eq_true rfl⟩ rfl hl.1 rfl (Nat.le_of_ble_eq_true rfl) dX8_parseApart_67 (fun H locs hM => ?_)
      clear ho
      obtain ⟨o3, ho, hf⟩ := m_calE hf
      refine z_callSNi X hM (c_X11_isRank ho) gX8_parseApart_X11_isRank_n117 nn_X8_parseApart_117.1.1 nn_X8_parseApart_117.1.2 nn_X8_parseApart_117.2 rfl ⟨rfl, rfl⟩ hd_X11_isRank ⟨Nat.le_of_ble_eq_true rfl, Nat.le_of_ble_eq_true rfl⟩ rfl hl.1 rfl (Nat.le_of_ble_eq_true rfl) dX8_parseApart_70 (fun H locs hM => ?_)
      clear ho
      refine lv_if_eq (tgt := 94) hx hb dX8_parseApart_73 (by decide) (fun cc1 => ?_) (fun cc1 => ?_)
      · replace hf := m_ifT hf cc1
        exact w_X8_parseApart_94 (x2 := x2) (x3 := x3) X hret hf hM (lv_sub hl [1, 2] rfl)
      · replace hf := m_ifF hf cc1
        refine lv_aload_n hx hb dX8_parseApart_76 rfl (lv_at hl 0 rfl) ?_
        refine lv_aload_n hx hb dX8_parseApart_77 rfl (lv_at hl 0 rfl) ?_
        obtain ⟨ca, hf⟩ := m_chkE hf
        replace ca := z_in hM (by decide) ca
        refine z_get (k := 8) (j := 1) (C := RX8) (T := TX8) (N := 12) (fl := zf_8) (v := va_rf ((zP o3.2 1 x0).map (zh y))) X hw_X8_parseApart_8 hM rfl zc_8 ca (by decide) fl_X8_parseApart_8_1 rfl dX8_parseApart_78 ?_
        clear ca
        obtain ⟨b4, hb9, hf⟩ := m_calE hf
        refine z_topr hb9 ?_
        clear hb9
        refine lv_iload_n hx hb dX8_parseApart_81 rfl (lv_at hl 2 rfl) ?_
        obtain ⟨ca, hf⟩ := m_chkE hf
        replace ca := z_in hM (by decide) ca
        obtain ⟨o5, ho, hf⟩ := m_calE hf
        refine z_callVi (k := 6) (C := RX6) (T := TX6) (N := 2) (fl := zf_6) X hM rfl zc_6 ca (c_X6_at ho) gX8_parseApart_X6_at rfl ⟨rfl, rfl⟩ hd_X6_at ⟨Nat.le_of_ble_eq_true rfl, Nat.le_of_ble_eq_true rfl⟩ rfl hl.1 rfl (Nat.le_of_ble_eq_true rfl) dX8_parseApart_82 (fun H locs hM => ?_)
        clear ho
        refine lv_bipush (v := (49 : Int32)) hx hb dX8_parseApart_85 (by decide) ?_
        refine lv_isub hx hb dX8_parseApart_87 ?_
        obtain ⟨v6, ev, hf⟩ := m_bndE hf
        refine m_top ev ?_
        clear ev
        obtain ⟨ca, hf⟩ := m_chkE hf
        replace ca := z_in hM (by decide) ca
        refine z_putI (k := 8) (j := 5) (C := RX8) (T := TX8) (N := 12) (fl := zf_8) (ty := .int) X hw_X8_parseApart_8 tyX8_ok nmX8 hM rfl zc_8 ca (by decide) fl_X8_parseApart_8_5 rfl (tyX8_ok 5 (by decide)) rfl rfl zi_8_5 (Nat.le_of_ble_eq_true rfl) dX8_parseApart_88 (fun H locs hM => ?_)
        clear ca
        obtain ⟨S7, ev, hf⟩ := m_bndE hf
        replace hM := z_hS hM ev
        clear ev
        obtain ⟨v8, ev, hf⟩ := m_bndE hf
        refine lv_iinc (v := v8) (lv' := [(3, .int v8), (0, .ref (zh y x0)), (2, .int x2)]) hx hb dX8_parseApart_91 hl (k := 2) rfl (by rw [ev]; rfl) (by decide) rfl (fun ls hl => ?_)
        clear ev
        exact w_X8_parseApart_94 (x2 := x2) (x3 := v8) X hret hf hM (lv_sub hl [2, 0] rfl)
noncomputable def f_X8_parseApart_0 (x0 : Nat) (x1 : Int32) (x2 : Int32) (S : ZS) : Option (Int32 × ZS) :=
  m_chk (zK S x0 = 8) (
  m_bnd (zsI S 4 x0 (-1 : Int32)) (fun S1 =>
  m_chk (zK S1 x0 = 8) (
  m_bnd (zsI S1 5 x0 (-1 : Int32)) (fun S2 =>
  m_if (x2 ≤ x1) (
  f_X8_parseApart_49 x0 x2 x1 S2
  ) (
  m_chk (zK S2 x0 = 8) (
  m_cal (zP S2 1 x0) (fun b3 =>
  m_chk (zK S2 b3 = 6) (
  m_cal (f_X6_at b3 x1 S2) (fun o4 =>
  m_cal (f_X11_isFile o4.1 o4.2) (fun o5 =>
  m_if (o5.1 = 0) (
  f_X8_parseApart_49 x0 x2 x1 o5.2
  ) (
  m_chk (zK o5.2 x0 = 8) (
  m_cal (zP o5.2 1 x0) (fun b6 =>
  m_chk (zK o5.2 b6 = 6) (
  m_cal (f_X6_at b6 x1 o5.2) (fun o7 =>
  m_bnd (o7.1 - (97 : Int32)) (fun v8 =>
  m_chk (zK o7.2 x0 = 8) (
  m_bnd (zsI o7.2 4 x0 v8) (fun S9 =>
  m_bnd (x1 + (1 : Int32)) (fun v10 =>
  f_X8_parseApart_49 x0 x2 v10 S9))))))))
  ))))))
  )))))

set_option maxRecDepth 100000 in
set_option maxHeartbeats 4000000 in
theorem w_X8_parseApart_0 {p : Program} {l : Launch} {e : Env} {s : State} {m : MethodId} {args : Array Value} {below : List Frame} {meth : Method} {c : Code} {Q : State → Prop} {D : va_G} {y : Nat → ClassId} {A0 : Nat → Prop} {o : Int32 × ZS} (X : CallFix p m c cX8_parseApart 4 s args wsX8_parseApart RX8) (hret : zRi p l e ({ frames := 1, cells := 0, slots := 0, locals := 21 } : Room) s m args below meth c Q cX8_parseApart D y A0 .boolean o) {x0 : Nat} {x1 : Int32} {x2 : Int32} {S : ZS} {H : Heap} {locs : List Loc} {ls : Array Slot} (hf : f_X8_parseApart_0 x0 x1 x2 S = some o) (hM : zH D y A0 s H locs S) (hl : lv_has ls 4 [(0, .ref (zh y x0)), (1, .int x1), (2, .int x2)]) : W p l e ({ frames := 1, cells := 0, slots := 0, locals := 21 } : Room) s m args below meth c H locs 0 0 Q (F0 m 0 ls []) := by
  obtain ⟨hx, hb, hml, hown, hts⟩ := id X
  unfold f_X8_parseApart_0 at hf
  refine lv_iload_n hx hb dX8_parseApart_0 rfl (lv_at hl 1 rfl) ?_
  refine lv_istore_n (lv' := [(3, .int x1), (0, .ref (zh y x0)), (1, .int x1), (2, .int x2)]) hx hb dX8_parseApart_1 rfl hl (by decide) rfl (fun ls hl => ?_)
  refine lv_aload_n hx hb dX8_parseApart_2 rfl (lv_at hl 1 rfl) ?_
  refine lv_iconst (v := (-1 : Int32)) hx hb dX8_parseApart_3 (by decide) ?_
  obtain ⟨ca, hf⟩ := m_chkE hf
  replace ca := z_in hM (by decide) ca
  refine z_putI (k := 8) (j := 4) (C := RX8) (T := TX8) (N := 12) (fl := zf_8) (ty := .int) X hw_X8_parseApart_8 tyX8_ok nmX8 hM rfl zc_8 ca (by decide) fl_X8_parseApart_8_4 rfl (tyX8_ok 4 (by decide)) rfl rfl zi_8_4 (Nat.le_of_ble_eq_true rfl) dX8_parseApart_4 (fun H locs hM => ?_)
  clear ca
  obtain ⟨S1, ev, hf⟩ := m_bndE hf
  replace hM := z_hS hM ev
  clear ev
  refine lv_aload_n hx hb dX8_parseApart_7 rfl (lv_at hl 1 rfl) ?_
  refine lv_iconst (v := (-1 : Int32)) hx hb dX8_parseApart_8 (by decide) ?_
  obtain ⟨ca, hf⟩ := m_chkE hf
  replace ca := z_in hM (by decide) ca
  refine z_putI (k := 8) (j := 5) (C := RX8) (T := TX8) (N := 12) (fl := zf_8) (ty := .int) X hw_X8_parseApart_8 tyX8_ok nmX8 hM rfl zc_8 ca (by decide) fl_X8_parseApart_8_5 rfl (tyX8_ok 5 (by decide)) rfl rfl zi_8_5 (Nat.le_of_ble_eq_true rfl) dX8_parseApart_9 (fun H locs hM => ?_)
  clear ca
  obtain ⟨S2, ev, hf⟩ := m_bndE hf
  replace hM := z_hS hM ev
  clear ev
  refine lv_iload_n hx hb dX8_parseApart_12 rfl (lv_at hl 0 rfl) ?_
  refine lv_iload_n hx hb dX8_parseApart_13 rfl (lv_at hl 3 rfl) ?_
  refine lv_icmp_ge (tgt := 49) hx hb dX8_parseApart_14 (by decide) (fun cc1 => ?_) (fun cc1 => ?_)
  · replace hf := m_ifT hf cc1
    exact w_X8_parseApart_49 (x0 := x0) (x2 := x2) (x3 := x1) X hret hf hM (lv_sub hl [1, 3, 0] rfl)
  · replace hf := m_ifF hf cc1
    refine lv_aload_n hx hb dX8_parseApart_17 rfl (lv_at hl 1 rfl) ?_
    obtain ⟨ca, hf⟩ := m_chkE hf
    replace ca := z_in hM (by decide) ca
    refine z_get (k := 8) (j := 1) (C := RX8) (T := TX8) (N := 12) (fl := zf_8) (v := va_rf ((zP S2 1 x0).map (zh y))) X hw_X8_parseApart_8 hM rfl zc_8 ca (by decide) fl_X8_parseApart_8_1 rfl dX8_parseApart_18 ?_
    clear ca
    obtain ⟨b3, hb9, hf⟩ := m_calE hf
    refine z_topr hb9 ?_
    clear hb9
    refine lv_iload_n hx hb dX8_parseApart_21 rfl (lv_at hl 0 rfl) ?_
    obtain ⟨ca, hf⟩ := m_chkE hf
    replace ca := z_in hM (by decide) ca
    obtain ⟨o4, ho, hf⟩ := m_calE hf
    refine z_callVi (k := 6) (C := RX6) (T := TX6) (N := 2) (fl := zf_6) X hM rfl zc_6 ca (c_X6_at ho) gX8_parseApart_X6_at rfl ⟨rfl, rfl⟩ hd_X6_at ⟨Nat.le_of_ble_eq_true rfl, Nat.le_of_ble_eq_true rfl⟩ rfl hl.1 rfl (Nat.le_of_ble_eq_true rfl) dX8_parseApart_22 (fun H locs hM => ?_)
    clear ho
    obtain ⟨o5, ho, hf⟩ := m_calE hf
    refine z_callSNi X hM (c_X11_isFile ho) gX8_parseApart_X11_isFile_n113 nn_X8_parseApart_113.1.1 nn_X8_parseApart_113.1.2 nn_X8_parseApart_113.2 rfl ⟨rfl, rfl⟩ hd_X11_isFile ⟨Nat.le_of_ble_eq_true rfl, Nat.le_of_ble_eq_true rfl⟩ rfl hl.1 rfl (Nat.le_of_ble_eq_true rfl) dX8_parseApart_25 (fun H locs hM => ?_)
    clear ho
    refine lv_if_eq (tgt := 49) hx hb dX8_parseApart_28 (by decide) (fun cc1 => ?_) (fun cc1 => ?_)
    · replace hf := m_ifT hf cc1
      exact w_X8_parseApart_49 (x0 := x0) (x2 := x2) (x3 := x1) X hret hf hM (lv_sub hl [1, 3, 0] rfl)
    · replace hf := m_ifF hf cc1
      refine lv_aload_n hx hb dX8_parseApart_31 rfl (lv_at hl 1 rfl) ?_
      refine lv_aload_n hx hb dX8_parseApart_32 rfl (lv_at hl 1 rfl) ?_
      obtain ⟨ca, hf⟩ := m_chkE hf
      replace ca := z_in hM (by decide) ca
      refine z_get (k := 8) (j := 1) (C := RX8) (T := TX8) (N := 12) (fl := zf_8) (v := va_rf ((zP o5.2 1 x0).map (zh y))) X hw_X8_parseApart_8 hM rfl zc_8 ca (by decide) fl_X8_parseApart_8_1 rfl dX8_parseApart_33 ?_
      clear ca
      obtain ⟨b6, hb9, hf⟩ := m_calE hf
      refine z_topr hb9 ?_
      clear hb9
      refine lv_iload_n hx hb dX8_parseApart_36 rfl (lv_at hl 0 rfl) ?_
      obtain ⟨ca, hf⟩ := m_chkE hf
      replace ca := z_in hM (by decide) ca
      obtain ⟨o7, ho, hf⟩ := m_calE hf
      refine z_callVi (k := 6) (C := RX6) (T := TX6) (N := 2) (fl := zf_6) X hM rfl zc_6 ca (c_X6_at ho) gX8_parseApart_X6_at rfl ⟨rfl, rfl⟩ hd_X6_at ⟨Nat.le_of_ble_eq_true rfl, Nat.le_of_ble_eq_true rfl⟩ rfl hl.1 rfl (Nat.le_of_ble_eq_true rfl) dX8_parseApart_37 (fun H locs hM => ?_)
      clear ho
      refine lv_bipush (v := (97 : Int32)) hx hb dX8_parseApart_40 (by decide) ?_
      refine lv_isub hx hb dX8_parseApart_42 ?_
      obtain ⟨v8, ev, hf⟩ := m_bndE hf
      refine m_top ev ?_
      clear ev
      obtain ⟨ca, hf⟩ := m_chkE hf
      replace ca := z_in hM (by decide) ca
      refine z_putI (k := 8) (j := 4) (C := RX8) (T := TX8) (N := 12) (fl := zf_8) (ty := .int) X hw_X8_parseApart_8 tyX8_ok nmX8 hM rfl zc_8 ca (by decide) fl_X8_parseApart_8_4 rfl (tyX8_ok 4 (by decide)) rfl rfl zi_8_4 (Nat.le_of_ble_eq_true rfl) dX8_parseApart_43 (fun H locs hM => ?_)
      clear ca
      obtain ⟨S9, ev, hf⟩ := m_bndE hf
      replace hM := z_hS hM ev
      clear ev
      obtain ⟨v10, ev, hf⟩ := m_bndE hf
      refine lv_iinc (v := v10) (lv' := [(3, .int v10), (0, .ref (zh y x0)), (1, .int x1), (2, .int x2)]) hx hb dX8_parseApart_46 hl (k := 0) rfl (by rw [ev]; rfl) (by decide) rfl (fun ls hl => ?_)
      clear ev
      exact w_X8_parseApart_49 (x0 := x0) (x2 := x2) (x3 := v10) X hret hf hM (lv_sub hl [1, 3, 0] rfl)
noncomputable def f_X8_parseApart (x0 : Nat) (x1 : Int32) (x2 : Int32) (S : ZS) : Option (Int32 × ZS) := f_X8_parseApart_0 x0 x1 x2 S
theorem c_X8_parseApart {l : Launch} {D : va_G} {y : Nat → ClassId} {x0 : Nat} {x1 : Int32} {x2 : Int32} {S : ZS} {o : Int32 × ZS} (hf : f_X8_parseApart x0 x1 x2 S = some o) : zMi l yX8_parseApart wsX8_parseApart ({ frames := 1, cells := 0, slots := 0, locals := 21 } : Room) [.ref (zh y x0), .int x1, .int x2] D y S o :=
  z_entryI (own := RX8) (cc := cX8_parseApart) (maxL := 4) (by decide) rfl rfl (Nat.le_of_ble_eq_true rfl) (fun p e s m args below meth c A0 Q H locs ls X hret hM hl => w_X8_parseApart_0 X hret hf hM (lv_sub hl [0, 1, 2] rfl))
theorem hd_X8_parse : yX8_parse.cls = RX8 ∧ yX8_parse.cls ≠ "java/lang/invoke/MethodHandle" ∧ yX8_parse.cls ≠ "java/lang/invoke/VarHandle" ∧ (parseMethodDescriptor yX8_parse.desc).map (fun d => d.parameters.length) = some 0 := by decide +kernel
theorem fl_X8_parse_8_1 : Cond.fieldLink RX8 21 "MoveTexts$SignReader" "row" "LMoveTexts$Row;" ∈ wsX8_parse := by decide +kernel
theorem fl_X8_parse_8_2 : Cond.fieldLink RX8 86 "MoveTexts$SignReader" "castling" "I" ∈ wsX8_parse := by decide +kernel
theorem fl_X8_parse_8_3 : Cond.fieldLink RX8 93 "MoveTexts$SignReader" "kind" "I" ∈ wsX8_parse := by decide +kernel
theorem fl_X8_parse_8_6 : Cond.fieldLink RX8 100 "MoveTexts$SignReader" "to" "I" ∈ wsX8_parse := by decide +kernel
theorem fl_X8_parse_8_7 : Cond.fieldLink RX8 75 "MoveTexts$SignReader" "becomes" "I" ∈ wsX8_parse := by decide +kernel
theorem fl_X8_parse_8_8 : Cond.fieldLink RX8 56 "MoveTexts$SignReader" "taking" "I" ∈ wsX8_parse := by decide +kernel
theorem hw_X8_parse_8 : ∀ w ∈ wsX80, w ∈ wsX8_parse := by decide +kernel
theorem nn_X8_parse_89 : ((RX8, 89, yX11_kindOf, "MoveTexts") ∈ zNW ∧ Cond.initialized yX11_kindOf.cls ∈ wsX8_parse) ∧ Cond.static yX11_kindOf ∈ wsX8_parse := by decide +kernel
theorem nn_X8_parse_96 : ((RX8, 96, yX11_squareOf, "MoveTexts") ∈ zNW ∧ Cond.initialized yX11_squareOf.cls ∈ wsX8_parse) ∧ Cond.static yX11_squareOf ∈ wsX8_parse := by decide +kernel
theorem sr_X8_parse_78 : (RX8, 78, "O-O", 7) ∈ zSR := by decide +kernel
theorem sr_X8_parse_84 : (RX8, 84, "O-O-O", 8) ∈ zSR := by decide +kernel
noncomputable def f_X8_parse_232 (x0 : Nat) (x1 : Int32) (x2 : Int32) (t0 : Int32) (t1 : Nat) (S : ZS) : Option (Int32 × ZS) :=
  m_chk (zK S t1 = 8) (
  m_bnd (zsI S 8 t1 t0) (fun S1 =>
  m_chk (zK S1 x0 = 8) (
  m_bnd (x2 - (zI S1 8 x0)) (fun v2 =>
  m_chk (zK S1 x0 = 8) (
  m_cal (f_X8_parseApart x0 x1 v2 S1) (fun o3 =>
  m_chk (vp_nar .boolean o3.1 = o3.1) (some (o3.1, o3.2))))))))

set_option maxRecDepth 100000 in
set_option maxHeartbeats 4000000 in
theorem w_X8_parse_232 {p : Program} {l : Launch} {e : Env} {s : State} {m : MethodId} {args : Array Value} {below : List Frame} {meth : Method} {c : Code} {Q : State → Prop} {D : va_G} {y : Nat → ClassId} {A0 : Nat → Prop} {o : Int32 × ZS} (X : CallFix p m c cX8_parse 3 s args wsX8_parse RX8) (hret : zRi p l e ({ frames := 6, cells := 0, slots := 0, locals := 129 } : Room) s m args below meth c Q cX8_parse D y A0 .boolean o) {x0 : Nat} {x1 : Int32} {x2 : Int32} {t0 : Int32} {t1 : Nat} {S : ZS} {H : Heap} {locs : List Loc} {ls : Array Slot} (hf : f_X8_parse_232 x0 x1 x2 t0 t1 S = some o) (hM : zH D y A0 s H locs S) (hl : lv_has ls 3 [(0, .ref (zh y x0)), (1, .int x1), (2, .int x2)]) : W p l e ({ frames := 6, cells := 0, slots := 0, locals := 129 } : Room) s m args below meth c H locs 0 0 Q (F0 m 232 ls [.int t0, .ref (zh y t1)]) := by
  obtain ⟨hx, hb, hml, hown, hts⟩ := id X
  unfold f_X8_parse_232 at hf
  obtain ⟨ca, hf⟩ := m_chkE hf
  replace ca := z_in hM (by decide) ca
  refine z_putI (k := 8) (j := 8) (C := RX8) (T := TX8) (N := 12) (fl := zf_8) (ty := .int) X hw_X8_parse_8 tyX8_ok nmX8 hM rfl zc_8 ca (by decide) fl_X8_parse_8_8 rfl (tyX8_ok 8 (by decide)) rfl rfl zi_8_8 (Nat.le_of_ble_eq_true rfl) dX8_parse_232 (fun H locs hM => ?_)
  clear ca
  obtain ⟨S1, ev, hf⟩ := m_bndE hf
  replace hM := z_hS hM ev
  clear ev
  refine lv_aload_n hx hb dX8_parse_235 rfl (lv_at hl 0 rfl) ?_
  refine lv_iload_n hx hb dX8_parse_236 rfl (lv_at hl 1 rfl) ?_
  refine lv_iload_n hx hb dX8_parse_237 rfl (lv_at hl 2 rfl) ?_
  refine lv_aload_n hx hb dX8_parse_238 rfl (lv_at hl 0 rfl) ?_
  obtain ⟨ca, hf⟩ := m_chkE hf
  replace ca := z_in hM (by decide) ca
  refine z_get (k := 8) (j := 8) (C := RX8) (T := TX8) (N := 12) (fl := zf_8) (v := .int (zI S1 8 x0)) X hw_X8_parse_8 hM rfl zc_8 ca (by decide) fl_X8_parse_8_8 rfl dX8_parse_239 ?_
  clear ca
  refine lv_isub hx hb dX8_parse_242 ?_
  obtain ⟨v2, ev, hf⟩ := m_bndE hf
  refine m_top ev ?_
  clear ev
  obtain ⟨ca, hf⟩ := m_chkE hf
  replace ca := z_in hM (by decide) ca
  obtain ⟨o3, ho, hf⟩ := m_calE hf
  refine z_callVi (k := 8) (C := RX8) (T := TX8) (N := 12) (fl := zf_8) X hM rfl zc_8 ca (c_X8_parseApart ho) gX8_parse_X8_parseApart rfl ⟨rfl, rfl⟩ hd_X8_parseApart ⟨Nat.le_of_ble_eq_true rfl, Nat.le_of_ble_eq_true rfl⟩ rfl hl.1 rfl (Nat.le_of_ble_eq_true rfl) dX8_parse_243 (fun H locs hM => ?_)
  clear ho
  obtain ⟨cd, hf⟩ := m_chkE hf
  cases hf
  exact hret H locs _ ls hM (m_nb cd) dX8_parse_246
noncomputable def f_X8_parse_231 (x0 : Nat) (x1 : Int32) (x2 : Int32) (t0 : Nat) (S : ZS) : Option (Int32 × ZS) :=
  f_X8_parse_232 x0 x1 x2 (0 : Int32) t0 S

set_option maxRecDepth 100000 in
set_option maxHeartbeats 4000000 in
theorem w_X8_parse_231 {p : Program} {l : Launch} {e : Env} {s : State} {m : MethodId} {args : Array Value} {below : List Frame} {meth : Method} {c : Code} {Q : State → Prop} {D : va_G} {y : Nat → ClassId} {A0 : Nat → Prop} {o : Int32 × ZS} (X : CallFix p m c cX8_parse 3 s args wsX8_parse RX8) (hret : zRi p l e ({ frames := 6, cells := 0, slots := 0, locals := 129 } : Room) s m args below meth c Q cX8_parse D y A0 .boolean o) {x0 : Nat} {x1 : Int32} {x2 : Int32} {t0 : Nat} {S : ZS} {H : Heap} {locs : List Loc} {ls : Array Slot} (hf : f_X8_parse_231 x0 x1 x2 t0 S = some o) (hM : zH D y A0 s H locs S) (hl : lv_has ls 3 [(0, .ref (zh y x0)), (1, .int x1), (2, .int x2)]) : W p l e ({ frames := 6, cells := 0, slots := 0, locals := 129 } : Room) s m args below meth c H locs 0 0 Q (F0 m 231 ls [.ref (zh y t0)]) := by
  obtain ⟨hx, hb, hml, hown, hts⟩ := id X
  unfold f_X8_parse_231 at hf
  refine lv_iconst (v := (0 : Int32)) hx hb dX8_parse_231 (by decide) ?_
  exact w_X8_parse_232 (x0 := x0) (x1 := x1) (x2 := x2) (t0 := (0 : Int32)) (t1 := t0) X hret hf hM (lv_sub hl [0, 1, 2] rfl)
noncomputable def f_X8_parse_166 (x0 : Nat) (x1 : Int32) (x2 : Int32) (S : ZS) : Option (Int32 × ZS) :=
  m_chk (zK S x0 = 8) (
  m_cal (zP S 1 x0) (fun b1 =>
  m_bnd (x2 - (2 : Int32)) (fun v2 =>
  m_chk (zK S b1 = 6) (
  m_cal (f_X6_at b1 v2 S) (fun o3 =>
  m_chk (zK o3.2 x0 = 8) (
  m_cal (zP o3.2 1 x0) (fun b4 =>
  m_bnd (x2 - (1 : Int32)) (fun v5 =>
  m_chk (zK o3.2 b4 = 6) (
  m_cal (f_X6_at b4 v5 o3.2) (fun o6 =>
  m_cal (f_X11_squareOf o3.1 o6.1 o6.2) (fun o7 =>
  m_chk (zK o7.2 x0 = 8) (
  m_bnd (zsI o7.2 6 x0 o7.1) (fun S8 =>
  m_bnd (x2 + (-2 : Int32)) (fun v9 =>
  m_chk (zK S8 x0 = 8) (
  m_if ((zI S8 6 x0) = (-1 : Int32)) (
  m_chk (vp_nar .boolean (0 : Int32) = (0 : Int32)) (some ((0 : Int32), S8))
  ) (
  m_if (v9 ≤ x1) (
  f_X8_parse_231 x0 x1 v9 x0 S8
  ) (
  m_chk (zK S8 x0 = 8) (
  m_cal (zP S8 1 x0) (fun b10 =>
  m_bnd (v9 - (1 : Int32)) (fun v11 =>
  m_chk (zK S8 b10 = 6) (
  m_cal (f_X6_at b10 v11 S8) (fun o12 =>
  m_if (o12.1 = (120 : Int32)) (
  f_X8_parse_232 x0 x1 v9 (1 : Int32) x0 o12.2
  ) (
  f_X8_parse_231 x0 x1 v9 x0 o12.2
  ))))))
  )
  ))))))))))))))))

set_option maxRecDepth 100000 in
set_option maxHeartbeats 4000000 in
theorem w_X8_parse_166 {p : Program} {l : Launch} {e : Env} {s : State} {m : MethodId} {args : Array Value} {below : List Frame} {meth : Method} {c : Code} {Q : State → Prop} {D : va_G} {y : Nat → ClassId} {A0 : Nat → Prop} {o : Int32 × ZS} (X : CallFix p m c cX8_parse 3 s args wsX8_parse RX8) (hret : zRi p l e ({ frames := 6, cells := 0, slots := 0, locals := 129 } : Room) s m args below meth c Q cX8_parse D y A0 .boolean o) {x0 : Nat} {x1 : Int32} {x2 : Int32} {S : ZS} {H : Heap} {locs : List Loc} {ls : Array Slot} (hf : f_X8_parse_166 x0 x1 x2 S = some o) (hM : zH D y A0 s H locs S) (hl : lv_has ls 3 [(0, .ref (zh y x0)), (1, .int x1), (2, .int x2)]) : W p l e ({ frames := 6, cells := 0, slots := 0, locals := 129 } : Room) s m args below meth c H locs 0 0 Q (F0 m 166 ls []) := by
  obtain ⟨hx, hb, hml, hown, hts⟩ := id X
  unfold f_X8_parse_166 at hf
  refine lv_aload_n hx hb dX8_parse_166 rfl (lv_at hl 0 rfl) ?_
  refine lv_aload_n hx hb dX8_parse_167 rfl (lv_at hl 0 rfl) ?_
  obtain ⟨ca, hf⟩ := m_chkE hf
  replace ca := z_in hM (by decide) ca
  refine z_get (k := 8) (j := 1) (C := RX8) (T := TX8) (N := 12) (fl := zf_8) (v := va_rf ((zP S 1 x0).map (zh y))) X hw_X8_parse_8 hM rfl zc_8 ca (by decide) fl_X8_parse_8_1 rfl dX8_parse_168 ?_
  clear ca
  obtain ⟨b1, hb9, hf⟩ := m_calE hf
  refine z_topr hb9 ?_
  clear hb9
  refine lv_iload_n hx hb dX8_parse_171 rfl (lv_at hl 2 rfl) ?_
  refine lv_iconst (v := (2 : Int32)) hx hb dX8_parse_172 (by decide) ?_
  refine lv_isub hx hb dX8_parse_173 ?_
  obtain ⟨v2, ev, hf⟩ := m_bndE hf
  refine m_top ev ?_
  clear ev
  obtain ⟨ca, hf⟩ := m_chkE hf
  replace ca := z_in hM (by decide) ca
  obtain ⟨o3, ho, hf⟩ := m_calE hf
  refine z_callVi (k := 6) (C := RX6) (T := TX6) (N := 2) (fl := zf_6) X hM rfl zc_6 ca (c_X6_at ho) gX8_parse_X6_at rfl ⟨rfl, rfl⟩ hd_X6_at ⟨Nat.le_of_ble_eq_true rfl, Nat.le_of_ble_eq_true rfl⟩ rfl hl.1 rfl (Nat.le_of_ble_eq_true rfl) dX8_parse_174 (fun H locs hM => ?_)
  clear ho
  refine lv_aload_n hx hb dX8_parse_177 rfl (lv_at hl 0 rfl) ?_
  obtain ⟨ca, hf⟩ := m_chkE hf
  replace ca := z_in hM (by decide) ca
  refine z_get (k := 8) (j := 1) (C := RX8) (T := TX8) (N := 12) (fl := zf_8) (v := va_rf ((zP o3.2 1 x0).map (zh y))) X hw_X8_parse_8 hM rfl zc_8 ca (by decide) fl_X8_parse_8_1 rfl dX8_parse_178 ?_
  clear ca
  obtain ⟨b4, hb9, hf⟩ := m_calE hf
  refine z_topr hb9 ?_
  clear hb9
  refine lv_iload_n hx hb dX8_parse_181 rfl (lv_at hl 2 rfl) ?_
  refine lv_iconst (v := (1 : Int32)) hx hb dX8_parse_182 (by decide) ?_
  refine lv_isub hx hb dX8_parse_183 ?_
  obtain ⟨v5, ev, hf⟩ := m_bndE hf
  refine m_top ev ?_
  clear ev
  obtain ⟨ca, hf⟩ := m_chkE hf
  replace ca := z_in hM (by decide) ca
  obtain ⟨o6, ho, hf⟩ := m_calE hf
  refine z_callVi (k := 6) (C := RX6) (T := TX6) (N := 2) (fl := zf_6) X hM rfl zc_6 ca (c_X6_at ho) gX8_parse_X6_at rfl ⟨rfl, rfl⟩ hd_X6_at ⟨Nat.le_of_ble_eq_true rfl, Nat.le_of_ble_eq_true rfl⟩ rfl hl.1 rfl (Nat.le_of_ble_eq_true rfl) dX8_parse_184 (fun H locs hM => ?_)
  clear ho
  obtain ⟨o7, ho, hf⟩ := m_calE hf
  refine z_callSNi X hM (c_X11_squareOf ho) gX8_parse_X11_squareOf_n96 nn_X8_parse_96.1.1 nn_X8_parse_96.1.2 nn_X8_parse_96.2 rfl ⟨rfl, rfl⟩ hd_X11_squareOf ⟨Nat.le_of_ble_eq_true rfl, Nat.le_of_ble_eq_true rfl⟩ rfl hl.1 rfl (Nat.le_of_ble_eq_true rfl) dX8_parse_187 (fun H locs hM => ?_)
  clear ho
  obtain ⟨ca, hf⟩ := m_chkE hf
  replace ca := z_in hM (by decide) ca
  refine z_putI (k := 8) (j := 6) (C := RX8) (T := TX8) (N := 12) (fl := zf_8) (ty := .int) X hw_X8_parse_8 tyX8_ok nmX8 hM rfl zc_8 ca (by decide) fl_X8_parse_8_6 rfl (tyX8_ok 6 (by decide)) rfl rfl zi_8_6 (Nat.le_of_ble_eq_true rfl) dX8_parse_190 (fun H locs hM => ?_)
  clear ca
  obtain ⟨S8, ev, hf⟩ := m_bndE hf
  replace hM := z_hS hM ev
  clear ev
  obtain ⟨v9, ev, hf⟩ := m_bndE hf
  refine lv_iinc (v := v9) (lv' := [(2, .int v9), (0, .ref (zh y x0)), (1, .int x1)]) hx hb dX8_parse_193 hl (k := 2) rfl (by rw [ev]; rfl) (by decide) rfl (fun ls hl => ?_)
  clear ev
  refine lv_aload_n hx hb dX8_parse_196 rfl (lv_at hl 1 rfl) ?_
  obtain ⟨ca, hf⟩ := m_chkE hf
  replace ca := z_in hM (by decide) ca
  refine z_get (k := 8) (j := 6) (C := RX8) (T := TX8) (N := 12) (fl := zf_8) (v := .int (zI S8 6 x0)) X hw_X8_parse_8 hM rfl zc_8 ca (by decide) fl_X8_parse_8_6 rfl dX8_parse_197 ?_
  clear ca
  refine lv_iconst (v := (-1 : Int32)) hx hb dX8_parse_200 (by decide) ?_
  refine lv_icmp_ne (tgt := 206) hx hb dX8_parse_201 (by decide) (fun cc1 => ?_) (fun cc1 => ?_)
  · replace hf := m_ifF hf cc1
    refine lv_aload_n hx hb dX8_parse_206 rfl (lv_at hl 1 rfl) ?_
    refine lv_iload_n hx hb dX8_parse_207 rfl (lv_at hl 0 rfl) ?_
    refine lv_iload_n hx hb dX8_parse_208 rfl (lv_at hl 2 rfl) ?_
    refine lv_icmp_le (tgt := 231) hx hb dX8_parse_209 (by decide) (fun cc1 => ?_) (fun cc1 => ?_)
    · replace hf := m_ifT hf cc1
      exact w_X8_parse_231 (x0 := x0) (x1 := x1) (x2 := v9) (t0 := x0) X hret hf hM (lv_sub hl [1, 2, 0] rfl)
    · replace hf := m_ifF hf cc1
      refine lv_aload_n hx hb dX8_parse_212 rfl (lv_at hl 1 rfl) ?_
      obtain ⟨ca, hf⟩ := m_chkE hf
      replace ca := z_in hM (by decide) ca
      refine z_get (k := 8) (j := 1) (C := RX8) (T := TX8) (N := 12) (fl := zf_8) (v := va_rf ((zP S8 1 x0).map (zh y))) X hw_X8_parse_8 hM rfl zc_8 ca (by decide) fl_X8_parse_8_1 rfl dX8_parse_213 ?_
      clear ca
      obtain ⟨b10, hb9, hf⟩ := m_calE hf
      refine z_topr hb9 ?_
      clear hb9
      refine lv_iload_n hx hb dX8_parse_216 rfl (lv_at hl 0 rfl) ?_
      refine lv_iconst (v := (1 : Int32)) hx hb dX8_parse_217 (by decide) ?_
      refine lv_isub hx hb dX8_parse_218 ?_
      obtain ⟨v11, ev, hf⟩ := m_bndE hf
      refine m_top ev ?_
      clear ev
      obtain ⟨ca, hf⟩ := m_chkE hf
      replace ca := z_in hM (by decide) ca
      obtain ⟨o12, ho, hf⟩ := m_calE hf
      refine z_callVi (k := 6) (C := RX6) (T := TX6) (N := 2) (fl := zf_6) X hM rfl zc_6 ca (c_X6_at ho) gX8_parse_X6_at rfl ⟨rfl, rfl⟩ hd_X6_at ⟨Nat.le_of_ble_eq_true rfl, Nat.le_of_ble_eq_true rfl⟩ rfl hl.1 rfl (Nat.le_of_ble_eq_true rfl) dX8_parse_219 (fun H locs hM => ?_)
      clear ho
      refine lv_bipush (v := (120 : Int32)) hx hb dX8_parse_222 (by decide) ?_
      refine lv_icmp_ne (tgt := 231) hx hb dX8_parse_224 (by decide) (fun cc1 => ?_) (fun cc1 => ?_)
      · replace hf := m_ifF hf cc1
        exact w_X8_parse_231 (x0 := x0) (x1 := x1) (x2 := v9) (t0 := x0) X hret hf hM (lv_sub hl [1, 2, 0] rfl)
      · replace hf := m_ifT hf cc1
        refine lv_iconst (v := (1 : Int32)) hx hb dX8_parse_227 (by decide) ?_
        refine lv_goto (tgt := 232) hx hb dX8_parse_228 (by decide) ?_
        exact w_X8_parse_232 (x0 := x0) (x1 := x1) (x2 := v9) (t0 := (1 : Int32)) (t1 := x0) X hret hf hM (lv_sub hl [1, 2, 0] rfl)
  · replace hf := m_ifT hf cc1
    refine lv_iconst (v := (0 : Int32)) hx hb dX8_parse_204 (by decide) ?_
    obtain ⟨cd, hf⟩ := m_chkE hf
    cases hf
    exact hret H locs _ ls hM (m_nb cd) dX8_parse_205
noncomputable def f_X8_parse_161 (S : ZS) : Option (Int32 × ZS) :=
  m_chk (vp_nar .boolean (0 : Int32) = (0 : Int32)) (some ((0 : Int32), S))

set_option maxRecDepth 100000 in
set_option maxHeartbeats 4000000 in
theorem w_X8_parse_161 {p : Program} {l : Launch} {e : Env} {s : State} {m : MethodId} {args : Array Value} {below : List Frame} {meth : Method} {c : Code} {Q : State → Prop} {D : va_G} {y : Nat → ClassId} {A0 : Nat → Prop} {o : Int32 × ZS} (X : CallFix p m c cX8_parse 3 s args wsX8_parse RX8) (hret : zRi p l e ({ frames := 6, cells := 0, slots := 0, locals := 129 } : Room) s m args below meth c Q cX8_parse D y A0 .boolean o) {S : ZS} {H : Heap} {locs : List Loc} {ls : Array Slot} (hf : f_X8_parse_161  S = some o) (hM : zH D y A0 s H locs S) (hl : lv_has ls 3 []) : W p l e ({ frames := 6, cells := 0, slots := 0, locals := 129 } : Room) s m args below meth c H locs 0 0 Q (F0 m 161 ls []) := by
  obtain ⟨hx, hb, hml, hown, hts⟩ := id X
  unfold f_X8_parse_161 at hf
  refine lv_iconst (v := (0 : Int32)) hx hb dX8_parse_161 (by decide) ?_
  obtain ⟨cd, hf⟩ := m_chkE hf
  cases hf
  exact hret H locs _ ls hM (m_nb cd) dX8_parse_162
noncomputable def f_X8_parse_102 (x0 : Nat) (x1 : Int32) (x2 : Int32) (t0 : Int32) (t1 : Nat) (S : ZS) : Option (Int32 × ZS) :=
  m_chk (zK S t1 = 8) (
  m_bnd (zsI S 3 t1 t0) (fun S1 =>
  m_chk (zK S1 x0 = 8) (
  m_if ((zI S1 3 x0) = (1 : Int32)) (
  m_chk (zK S1 x0 = 8) (
  m_cal (zP S1 1 x0) (fun b2 =>
  m_bnd (x2 - (2 : Int32)) (fun v3 =>
  m_chk (zK S1 b2 = 6) (
  m_cal (f_X6_at b2 v3 S1) (fun o4 =>
  m_if (o4.1 = (61 : Int32)) (
  m_chk (zK o4.2 x0 = 8) (
  m_cal (zP o4.2 1 x0) (fun b5 =>
  m_bnd (x2 - (1 : Int32)) (fun v6 =>
  m_chk (zK o4.2 b5 = 6) (
  m_cal (f_X6_at b5 v6 o4.2) (fun o7 =>
  m_cal (f_X11_kindOf o7.1 o7.2) (fun o8 =>
  m_chk (zK o8.2 x0 = 8) (
  m_bnd (zsI o8.2 7 x0 o8.1) (fun S9 =>
  m_chk (zK S9 x0 = 8) (
  m_if ((zI S9 7 x0) < (2 : Int32)) (
  f_X8_parse_161  S9
  ) (
  m_chk (zK S9 x0 = 8) (
  m_if ((zI S9 7 x0) ≤ (5 : Int32)) (
  m_bnd (x2 + (-2 : Int32)) (fun v10 =>
  f_X8_parse_166 x0 x1 v10 S9)
  ) (
  f_X8_parse_161  S9
  ))
  ))))))))))
  ) (
  f_X8_parse_166 x0 x1 x2 o4.2
  ))))))
  ) (
  f_X8_parse_166 x0 x1 x2 S1
  ))))

set_option maxRecDepth 100000 in
set_option maxHeartbeats 4000000 in
theorem w_X8_parse_102 {p : Program} {l : Launch} {e : Env} {s : State} {m : MethodId} {args : Array Value} {below : List Frame} {meth : Method} {c : Code} {Q : State → Prop} {D : va_G} {y : Nat → ClassId} {A0 : Nat → Prop} {o : Int32 × ZS} (X : CallFix p m c cX8_parse 3 s args wsX8_parse RX8) (hret : zRi p l e ({ frames := 6, cells := 0, slots := 0, locals := 129 } : Room) s m args below meth c Q cX8_parse D y A0 .boolean o) {x0 : Nat} {x1 : Int32} {x2 : Int32} {t0 : Int32} {t1 : Nat} {S : ZS} {H : Heap} {locs : List Loc} {ls : Array Slot} (hf : f_X8_parse_102 x0 x1 x2 t0 t1 S = some o) (hM : zH D y A0 s H locs S) (hl : lv_has ls 3 [(0, .ref (zh y x0)), (1, .int x1), (2, .int x2)]) : W p l e ({ frames := 6, cells := 0, slots := 0, locals := 129 } : Room) s m args below meth c H locs 0 0 Q (F0 m 102 ls [.int t0, .ref (zh y t1)]) := by
  obtain ⟨hx, hb, hml, hown, hts⟩ := id X
  unfold f_X8_parse_102 at hf
  obtain ⟨ca, hf⟩ := m_chkE hf
  replace ca := z_in hM (by decide) ca
  refine z_putI (k := 8) (j := 3) (C := RX8) (T := TX8) (N := 12) (fl := zf_8) (ty := .int) X hw_X8_parse_8 tyX8_ok nmX8 hM rfl zc_8 ca (by decide) fl_X8_parse_8_3 rfl (tyX8_ok 3 (by decide)) rfl rfl zi_8_3 (Nat.le_of_ble_eq_true rfl) dX8_parse_102 (fun H locs hM => ?_)
  clear ca
  obtain ⟨S1, ev, hf⟩ := m_bndE hf
  replace hM := z_hS hM ev
  clear ev
  refine lv_aload_n hx hb dX8_parse_105 rfl (lv_at hl 0 rfl) ?_
  obtain ⟨ca, hf⟩ := m_chkE hf
  replace ca := z_in hM (by decide) ca
  refine z_get (k := 8) (j := 3) (C := RX8) (T := TX8) (N := 12) (fl := zf_8) (v := .int (zI S1 3 x0)) X hw_X8_parse_8 hM rfl zc_8 ca (by decide) fl_X8_parse_8_3 rfl dX8_parse_106 ?_
  clear ca
  refine lv_iconst (v := (1 : Int32)) hx hb dX8_parse_109 (by decide) ?_
  refine lv_icmp_ne (tgt := 166) hx hb dX8_parse_110 (by decide) (fun cc1 => ?_) (fun cc1 => ?_)
  · replace hf := m_ifF hf cc1
    exact w_X8_parse_166 (x0 := x0) (x1 := x1) (x2 := x2) X hret hf hM (lv_sub hl [0, 1, 2] rfl)
  · replace hf := m_ifT hf cc1
    refine lv_aload_n hx hb dX8_parse_113 rfl (lv_at hl 0 rfl) ?_
    obtain ⟨ca, hf⟩ := m_chkE hf
    replace ca := z_in hM (by decide) ca
    refine z_get (k := 8) (j := 1) (C := RX8) (T := TX8) (N := 12) (fl := zf_8) (v := va_rf ((zP S1 1 x0).map (zh y))) X hw_X8_parse_8 hM rfl zc_8 ca (by decide) fl_X8_parse_8_1 rfl dX8_parse_114 ?_
    clear ca
    obtain ⟨b2, hb9, hf⟩ := m_calE hf
    refine z_topr hb9 ?_
    clear hb9
    refine lv_iload_n hx hb dX8_parse_117 rfl (lv_at hl 2 rfl) ?_
    refine lv_iconst (v := (2 : Int32)) hx hb dX8_parse_118 (by decide) ?_
    refine lv_isub hx hb dX8_parse_119 ?_
    obtain ⟨v3, ev, hf⟩ := m_bndE hf
    refine m_top ev ?_
    clear ev
    obtain ⟨ca, hf⟩ := m_chkE hf
    replace ca := z_in hM (by decide) ca
    obtain ⟨o4, ho, hf⟩ := m_calE hf
    refine z_callVi (k := 6) (C := RX6) (T := TX6) (N := 2) (fl := zf_6) X hM rfl zc_6 ca (c_X6_at ho) gX8_parse_X6_at rfl ⟨rfl, rfl⟩ hd_X6_at ⟨Nat.le_of_ble_eq_true rfl, Nat.le_of_ble_eq_true rfl⟩ rfl hl.1 rfl (Nat.le_of_ble_eq_true rfl) dX8_parse_120 (fun H locs hM => ?_)
    clear ho
    refine lv_bipush (v := (61 : Int32)) hx hb dX8_parse_123 (by decide) ?_
    refine lv_icmp_ne (tgt := 166) hx hb dX8_parse_125 (by decide) (fun cc1 => ?_) (fun cc1 => ?_)
    · replace hf := m_ifF hf cc1
      exact w_X8_parse_166 (x0 := x0) (x1 := x1) (x2 := x2) X hret hf hM (lv_sub hl [0, 1, 2] rfl)
    · replace hf := m_ifT hf cc1
      refine lv_aload_n hx hb dX8_parse_128 rfl (lv_at hl 0 rfl) ?_
      refine lv_aload_n hx hb dX8_parse_129 rfl (lv_at hl 0 rfl) ?_
      obtain ⟨ca, hf⟩ := m_chkE hf
      replace ca := z_in hM (by decide) ca
      refine z_get (k := 8) (j := 1) (C := RX8) (T := TX8) (N := 12) (fl := zf_8) (v := va_rf ((zP o4.2 1 x0).map (zh y))) X hw_X8_parse_8 hM rfl zc_8 ca (by decide) fl_X8_parse_8_1 rfl dX8_parse_130 ?_
      clear ca
      obtain ⟨b5, hb9, hf⟩ := m_calE hf
      refine z_topr hb9 ?_
      clear hb9
      refine lv_iload_n hx hb dX8_parse_133 rfl (lv_at hl 2 rfl) ?_
      refine lv_iconst (v := (1 : Int32)) hx hb dX8_parse_134 (by decide) ?_
      refine lv_isub hx hb dX8_parse_135 ?_
      obtain ⟨v6, ev, hf⟩ := m_bndE hf
      refine m_top ev ?_
      clear ev
      obtain ⟨ca, hf⟩ := m_chkE hf
      replace ca := z_in hM (by decide) ca
      obtain ⟨o7, ho, hf⟩ := m_calE hf
      refine z_callVi (k := 6) (C := RX6) (T := TX6) (N := 2) (fl := zf_6) X hM rfl zc_6 ca (c_X6_at ho) gX8_parse_X6_at rfl ⟨rfl, rfl⟩ hd_X6_at ⟨Nat.le_of_ble_eq_true rfl, Nat.le_of_ble_eq_true rfl⟩ rfl hl.1 rfl (Nat.le_of_ble_eq_true rfl) dX8_parse_136 (fun H locs hM => ?_)
      clear ho
      obtain ⟨o8, ho, hf⟩ := m_calE hf
      refine z_callSNi X hM (c_X11_kindOf ho) gX8_parse_X11_kindOf_n89 nn_X8_parse_89.1.1 nn_X8_parse_89.1.2 nn_X8_parse_89.2 rfl ⟨rfl, rfl⟩ hd_X11_kindOf ⟨Nat.le_of_ble_eq_true rfl, Nat.le_of_ble_eq_true rfl⟩ rfl hl.1 rfl (Nat.le_of_ble_eq_true rfl) dX8_parse_139 (fun H locs hM => ?_)
      clear ho
      obtain ⟨ca, hf⟩ := m_chkE hf
      replace ca := z_in hM (by decide) ca
      refine z_putI (k := 8) (j := 7) (C := RX8) (T := TX8) (N := 12) (fl := zf_8) (ty := .int) X hw_X8_parse_8 tyX8_ok nmX8 hM rfl zc_8 ca (by decide) fl_X8_parse_8_7 rfl (tyX8_ok 7 (by decide)) rfl rfl zi_8_7 (Nat.le_of_ble_eq_true rfl) dX8_parse_142 (fun H locs hM => ?_)
      clear ca
      obtain ⟨S9, ev, hf⟩ := m_bndE hf
      replace hM := z_hS hM ev
      clear ev
      refine lv_aload_n hx hb dX8_parse_145 rfl (lv_at hl 0 rfl) ?_
      obtain ⟨ca, hf⟩ := m_chkE hf
      replace ca := z_in hM (by decide) ca
      refine z_get (k := 8) (j := 7) (C := RX8) (T := TX8) (N := 12) (fl := zf_8) (v := .int (zI S9 7 x0)) X hw_X8_parse_8 hM rfl zc_8 ca (by decide) fl_X8_parse_8_7 rfl dX8_parse_146 ?_
      clear ca
      refine lv_iconst (v := (2 : Int32)) hx hb dX8_parse_149 (by decide) ?_
      refine lv_icmp_lt (tgt := 161) hx hb dX8_parse_150 (by decide) (fun cc1 => ?_) (fun cc1 => ?_)
      · replace hf := m_ifT hf cc1
        exact w_X8_parse_161 X hret hf hM (lv_sub hl [] rfl)
      · replace hf := m_ifF hf cc1
        refine lv_aload_n hx hb dX8_parse_153 rfl (lv_at hl 0 rfl) ?_
        obtain ⟨ca, hf⟩ := m_chkE hf
        replace ca := z_in hM (by decide) ca
        refine z_get (k := 8) (j := 7) (C := RX8) (T := TX8) (N := 12) (fl := zf_8) (v := .int (zI S9 7 x0)) X hw_X8_parse_8 hM rfl zc_8 ca (by decide) fl_X8_parse_8_7 rfl dX8_parse_154 ?_
        clear ca
        refine lv_iconst (v := (5 : Int32)) hx hb dX8_parse_157 (by decide) ?_
        refine lv_icmp_le (tgt := 163) hx hb dX8_parse_158 (by decide) (fun cc1 => ?_) (fun cc1 => ?_)
        · replace hf := m_ifT hf cc1
          obtain ⟨v10, ev, hf⟩ := m_bndE hf
          refine lv_iinc (v := v10) (lv' := [(2, .int v10), (0, .ref (zh y x0)), (1, .int x1)]) hx hb dX8_parse_163 hl (k := 2) rfl (by rw [ev]; rfl) (by decide) rfl (fun ls hl => ?_)
          clear ev
          exact w_X8_parse_166 (x0 := x0) (x1 := x1) (x2 := v10) X hret hf hM (lv_sub hl [1, 2, 0] rfl)
        · replace hf := m_ifF hf cc1
          exact w_X8_parse_161 X hret hf hM (lv_sub hl [] rfl)
noncomputable def f_X8_parse_72 (x0 : Nat) (t0 : Int32) (S : ZS) : Option (Int32 × ZS) :=
  m_chk (zK S x0 = 8) (
  m_cal (zP S 1 x0) (fun b1 =>
  m_chk (zK S b1 = 6) (
  m_cal (f_X6_size b1 S) (fun o2 =>
  m_if (t0 = (1 : Int32)) (
  m_chk (zK o2.2 x0 = 8) (
  m_cal (zP o2.2 1 x0) (fun b3 =>
  m_chk (zK o2.2 b3 = 6) (
  m_cal (f_X6_at b3 (0 : Int32) o2.2) (fun o4 =>
  m_cal (f_X11_kindOf o4.1 o4.2) (fun o5 =>
  f_X8_parse_102 x0 t0 o2.1 o5.1 x0 o5.2)))))
  ) (
  f_X8_parse_102 x0 t0 o2.1 (1 : Int32) x0 o2.2
  )))))

set_option maxRecDepth 100000 in
set_option maxHeartbeats 4000000 in
theorem w_X8_parse_72 {p : Program} {l : Launch} {e : Env} {s : State} {m : MethodId} {args : Array Value} {below : List Frame} {meth : Method} {c : Code} {Q : State → Prop} {D : va_G} {y : Nat → ClassId} {A0 : Nat → Prop} {o : Int32 × ZS} (X : CallFix p m c cX8_parse 3 s args wsX8_parse RX8) (hret : zRi p l e ({ frames := 6, cells := 0, slots := 0, locals := 129 } : Room) s m args below meth c Q cX8_parse D y A0 .boolean o) {x0 : Nat} {t0 : Int32} {S : ZS} {H : Heap} {locs : List Loc} {ls : Array Slot} (hf : f_X8_parse_72 x0 t0 S = some o) (hM : zH D y A0 s H locs S) (hl : lv_has ls 3 [(0, .ref (zh y x0))]) : W p l e ({ frames := 6, cells := 0, slots := 0, locals := 129 } : Room) s m args below meth c H locs 0 0 Q (F0 m 72 ls [.int t0]) := by
  obtain ⟨hx, hb, hml, hown, hts⟩ := id X
  unfold f_X8_parse_72 at hf
  refine lv_istore_n (lv' := [(1, .int t0), (0, .ref (zh y x0))]) hx hb dX8_parse_72 rfl hl (by decide) rfl (fun ls hl => ?_)
  refine lv_aload_n hx hb dX8_parse_73 rfl (lv_at hl 1 rfl) ?_
  obtain ⟨ca, hf⟩ := m_chkE hf
  replace ca := z_in hM (by decide) ca
  refine z_get (k := 8) (j := 1) (C := RX8) (T := TX8) (N := 12) (fl := zf_8) (v := va_rf ((zP S 1 x0).map (zh y))) X hw_X8_parse_8 hM rfl zc_8 ca (by decide) fl_X8_parse_8_1 rfl dX8_parse_74 ?_
  clear ca
  obtain ⟨b1, hb9, hf⟩ := m_calE hf
  refine z_topr hb9 ?_
  clear hb9
  obtain ⟨ca, hf⟩ := m_chkE hf
  replace ca := z_in hM (by decide) ca
  obtain ⟨o2, ho, hf⟩ := m_calE hf
  refine z_callVi (k := 6) (C := RX6) (T := TX6) (N := 2) (fl := zf_6) X hM rfl zc_6 ca (c_X6_size ho) gX8_parse_X6_size rfl ⟨rfl, rfl⟩ hd_X6_size ⟨Nat.le_of_ble_eq_true rfl, Nat.le_of_ble_eq_true rfl⟩ rfl hl.1 rfl (Nat.le_of_ble_eq_true rfl) dX8_parse_77 (fun H locs hM => ?_)
  clear ho
  refine lv_istore_n (lv' := [(2, .int o2.1), (1, .int t0), (0, .ref (zh y x0))]) hx hb dX8_parse_80 rfl hl (by decide) rfl (fun ls hl => ?_)
  refine lv_aload_n hx hb dX8_parse_81 rfl (lv_at hl 2 rfl) ?_
  refine lv_iload_n hx hb dX8_parse_82 rfl (lv_at hl 1 rfl) ?_
  refine lv_iconst (v := (1 : Int32)) hx hb dX8_parse_83 (by decide) ?_
  refine lv_icmp_ne (tgt := 101) hx hb dX8_parse_84 (by decide) (fun cc1 => ?_) (fun cc1 => ?_)
  · replace hf := m_ifF hf cc1
    refine lv_iconst (v := (1 : Int32)) hx hb dX8_parse_101 (by decide) ?_
    exact w_X8_parse_102 (x0 := x0) (x1 := t0) (x2 := o2.1) (t0 := (1 : Int32)) (t1 := x0) X hret hf hM (lv_sub hl [2, 1, 0] rfl)
  · replace hf := m_ifT hf cc1
    refine lv_aload_n hx hb dX8_parse_87 rfl (lv_at hl 2 rfl) ?_
    obtain ⟨ca, hf⟩ := m_chkE hf
    replace ca := z_in hM (by decide) ca
    refine z_get (k := 8) (j := 1) (C := RX8) (T := TX8) (N := 12) (fl := zf_8) (v := va_rf ((zP o2.2 1 x0).map (zh y))) X hw_X8_parse_8 hM rfl zc_8 ca (by decide) fl_X8_parse_8_1 rfl dX8_parse_88 ?_
    clear ca
    obtain ⟨b3, hb9, hf⟩ := m_calE hf
    refine z_topr hb9 ?_
    clear hb9
    refine lv_iconst (v := (0 : Int32)) hx hb dX8_parse_91 (by decide) ?_
    obtain ⟨ca, hf⟩ := m_chkE hf
    replace ca := z_in hM (by decide) ca
    obtain ⟨o4, ho, hf⟩ := m_calE hf
    refine z_callVi (k := 6) (C := RX6) (T := TX6) (N := 2) (fl := zf_6) X hM rfl zc_6 ca (c_X6_at ho) gX8_parse_X6_at rfl ⟨rfl, rfl⟩ hd_X6_at ⟨Nat.le_of_ble_eq_true rfl, Nat.le_of_ble_eq_true rfl⟩ rfl hl.1 rfl (Nat.le_of_ble_eq_true rfl) dX8_parse_92 (fun H locs hM => ?_)
    clear ho
    obtain ⟨o5, ho, hf⟩ := m_calE hf
    refine z_callSNi X hM (c_X11_kindOf ho) gX8_parse_X11_kindOf_n89 nn_X8_parse_89.1.1 nn_X8_parse_89.1.2 nn_X8_parse_89.2 rfl ⟨rfl, rfl⟩ hd_X11_kindOf ⟨Nat.le_of_ble_eq_true rfl, Nat.le_of_ble_eq_true rfl⟩ rfl hl.1 rfl (Nat.le_of_ble_eq_true rfl) dX8_parse_95 (fun H locs hM => ?_)
    clear ho
    refine lv_goto (tgt := 102) hx hb dX8_parse_98 (by decide) ?_
    exact w_X8_parse_102 (x0 := x0) (x1 := t0) (x2 := o2.1) (t0 := o5.1) (t1 := x0) X hret hf hM (lv_sub hl [2, 1, 0] rfl)
noncomputable def f_X8_parse_40 (x0 : Nat) (t0 : Int32) (t1 : Nat) (S : ZS) : Option (Int32 × ZS) :=
  m_chk (zK S t1 = 8) (
  m_bnd (zsI S 2 t1 t0) (fun S1 =>
  m_chk (zK S1 x0 = 8) (
  m_if ((zI S1 2 x0) = 0) (
  m_chk (zK S1 x0 = 8) (
  m_cal (zP S1 1 x0) (fun b2 =>
  m_chk (zK S1 b2 = 6) (
  m_cal (f_X6_at b2 (0 : Int32) S1) (fun o3 =>
  m_cal (f_X11_kindOf o3.1 o3.2) (fun o4 =>
  m_if (o4.1 < (2 : Int32)) (
  f_X8_parse_72 x0 (0 : Int32) o4.2
  ) (
  f_X8_parse_72 x0 (1 : Int32) o4.2
  ))))))
  ) (
  m_chk (vp_nar .boolean (1 : Int32) = (1 : Int32)) (some ((1 : Int32), S1))
  ))))

set_option maxRecDepth 100000 in
set_option maxHeartbeats 4000000 in
theorem w_X8_parse_40 {p : Program} {l : Launch} {e : Env} {s : State} {m : MethodId} {args : Array Value} {below : List Frame} {meth : Method} {c : Code} {Q : State → Prop} {D : va_G} {y : Nat → ClassId} {A0 : Nat → Prop} {o : Int32 × ZS} (X : CallFix p m c cX8_parse 3 s args wsX8_parse RX8) (hret : zRi p l e ({ frames := 6, cells := 0, slots := 0, locals := 129 } : Room) s m args below meth c Q cX8_parse D y A0 .boolean o) {x0 : Nat} {t0 : Int32} {t1 : Nat} {S : ZS} {H : Heap} {locs : List Loc} {ls : Array Slot} (hf : f_X8_parse_40 x0 t0 t1 S = some o) (hM : zH D y A0 s H locs S) (hl : lv_has ls 3 [(0, .ref (zh y x0))]) : W p l e ({ frames := 6, cells := 0, slots := 0, locals := 129 } : Room) s m args below meth c H locs 0 0 Q (F0 m 40 ls [.int t0, .ref (zh y t1)]) := by
  obtain ⟨hx, hb, hml, hown, hts⟩ := id X
  unfold f_X8_parse_40 at hf
  obtain ⟨ca, hf⟩ := m_chkE hf
  replace ca := z_in hM (by decide) ca
  refine z_putI (k := 8) (j := 2) (C := RX8) (T := TX8) (N := 12) (fl := zf_8) (ty := .int) X hw_X8_parse_8 tyX8_ok nmX8 hM rfl zc_8 ca (by decide) fl_X8_parse_8_2 rfl (tyX8_ok 2 (by decide)) rfl rfl zi_8_2 (Nat.le_of_ble_eq_true rfl) dX8_parse_40 (fun H locs hM => ?_)
  clear ca
  obtain ⟨S1, ev, hf⟩ := m_bndE hf
  replace hM := z_hS hM ev
  clear ev
  refine lv_aload_n hx hb dX8_parse_43 rfl (lv_at hl 0 rfl) ?_
  obtain ⟨ca, hf⟩ := m_chkE hf
  replace ca := z_in hM (by decide) ca
  refine z_get (k := 8) (j := 2) (C := RX8) (T := TX8) (N := 12) (fl := zf_8) (v := .int (zI S1 2 x0)) X hw_X8_parse_8 hM rfl zc_8 ca (by decide) fl_X8_parse_8_2 rfl dX8_parse_44 ?_
  clear ca
  refine lv_if_eq (tgt := 52) hx hb dX8_parse_47 (by decide) (fun cc1 => ?_) (fun cc1 => ?_)
  · replace hf := m_ifT hf cc1
    refine lv_aload_n hx hb dX8_parse_52 rfl (lv_at hl 0 rfl) ?_
    obtain ⟨ca, hf⟩ := m_chkE hf
    replace ca := z_in hM (by decide) ca
    refine z_get (k := 8) (j := 1) (C := RX8) (T := TX8) (N := 12) (fl := zf_8) (v := va_rf ((zP S1 1 x0).map (zh y))) X hw_X8_parse_8 hM rfl zc_8 ca (by decide) fl_X8_parse_8_1 rfl dX8_parse_53 ?_
    clear ca
    obtain ⟨b2, hb9, hf⟩ := m_calE hf
    refine z_topr hb9 ?_
    clear hb9
    refine lv_iconst (v := (0 : Int32)) hx hb dX8_parse_56 (by decide) ?_
    obtain ⟨ca, hf⟩ := m_chkE hf
    replace ca := z_in hM (by decide) ca
    obtain ⟨o3, ho, hf⟩ := m_calE hf
    refine z_callVi (k := 6) (C := RX6) (T := TX6) (N := 2) (fl := zf_6) X hM rfl zc_6 ca (c_X6_at ho) gX8_parse_X6_at rfl ⟨rfl, rfl⟩ hd_X6_at ⟨Nat.le_of_ble_eq_true rfl, Nat.le_of_ble_eq_true rfl⟩ rfl hl.1 rfl (Nat.le_of_ble_eq_true rfl) dX8_parse_57 (fun H locs hM => ?_)
    clear ho
    obtain ⟨o4, ho, hf⟩ := m_calE hf
    refine z_callSNi X hM (c_X11_kindOf ho) gX8_parse_X11_kindOf_n89 nn_X8_parse_89.1.1 nn_X8_parse_89.1.2 nn_X8_parse_89.2 rfl ⟨rfl, rfl⟩ hd_X11_kindOf ⟨Nat.le_of_ble_eq_true rfl, Nat.le_of_ble_eq_true rfl⟩ rfl hl.1 rfl (Nat.le_of_ble_eq_true rfl) dX8_parse_60 (fun H locs hM => ?_)
    clear ho
    refine lv_iconst (v := (2 : Int32)) hx hb dX8_parse_63 (by decide) ?_
    refine lv_icmp_lt (tgt := 71) hx hb dX8_parse_64 (by decide) (fun cc1 => ?_) (fun cc1 => ?_)
    · replace hf := m_ifT hf cc1
      refine lv_iconst (v := (0 : Int32)) hx hb dX8_parse_71 (by decide) ?_
      exact w_X8_parse_72 (x0 := x0) (t0 := (0 : Int32)) X hret hf hM (lv_sub hl [0] rfl)
    · replace hf := m_ifF hf cc1
      refine lv_iconst (v := (1 : Int32)) hx hb dX8_parse_67 (by decide) ?_
      refine lv_goto (tgt := 72) hx hb dX8_parse_68 (by decide) ?_
      exact w_X8_parse_72 (x0 := x0) (t0 := (1 : Int32)) X hret hf hM (lv_sub hl [0] rfl)
  · replace hf := m_ifF hf cc1
    refine lv_iconst (v := (1 : Int32)) hx hb dX8_parse_50 (by decide) ?_
    obtain ⟨cd, hf⟩ := m_chkE hf
    cases hf
    exact hret H locs _ ls hM (m_nb cd) dX8_parse_51
noncomputable def f_X8_parse_0 (x0 : Nat) (S : ZS) : Option (Int32 × ZS) :=
  m_chk (zK S x0 = 8) (
  m_bnd (zsI S 7 x0 (0 : Int32)) (fun S1 =>
  m_chk (zK S1 x0 = 8) (
  m_cal (zP S1 1 x0) (fun b2 =>
  m_chk (zK S1 b2 = 6) (
  m_cal (f_X6_is b2 7 S1) (fun o3 =>
  m_if (o3.1 = 0) (
  m_chk (zK o3.2 x0 = 8) (
  m_cal (zP o3.2 1 x0) (fun b4 =>
  m_chk (zK o3.2 b4 = 6) (
  m_cal (f_X6_is b4 8 o3.2) (fun o5 =>
  m_if (o5.1 = 0) (
  f_X8_parse_40 x0 (0 : Int32) x0 o5.2
  ) (
  f_X8_parse_40 x0 (-2 : Int32) x0 o5.2
  )))))
  ) (
  f_X8_parse_40 x0 (2 : Int32) x0 o3.2
  )))))))

set_option maxRecDepth 100000 in
set_option maxHeartbeats 4000000 in
theorem w_X8_parse_0 {p : Program} {l : Launch} {e : Env} {s : State} {m : MethodId} {args : Array Value} {below : List Frame} {meth : Method} {c : Code} {Q : State → Prop} {D : va_G} {y : Nat → ClassId} {A0 : Nat → Prop} {o : Int32 × ZS} (X : CallFix p m c cX8_parse 3 s args wsX8_parse RX8) (hret : zRi p l e ({ frames := 6, cells := 0, slots := 0, locals := 129 } : Room) s m args below meth c Q cX8_parse D y A0 .boolean o) {x0 : Nat} {S : ZS} {H : Heap} {locs : List Loc} {ls : Array Slot} (hf : f_X8_parse_0 x0 S = some o) (hM : zH D y A0 s H locs S) (hl : lv_has ls 3 [(0, .ref (zh y x0))]) : W p l e ({ frames := 6, cells := 0, slots := 0, locals := 129 } : Room) s m args below meth c H locs 0 0 Q (F0 m 0 ls []) := by
  obtain ⟨hx, hb, hml, hown, hts⟩ := id X
  unfold f_X8_parse_0 at hf
  refine lv_aload_n hx hb dX8_parse_0 rfl (lv_at hl 0 rfl) ?_
  refine lv_iconst (v := (0 : Int32)) hx hb dX8_parse_1 (by decide) ?_
  obtain ⟨ca, hf⟩ := m_chkE hf
  replace ca := z_in hM (by decide) ca
  refine z_putI (k := 8) (j := 7) (C := RX8) (T := TX8) (N := 12) (fl := zf_8) (ty := .int) X hw_X8_parse_8 tyX8_ok nmX8 hM rfl zc_8 ca (by decide) fl_X8_parse_8_7 rfl (tyX8_ok 7 (by decide)) rfl rfl zi_8_7 (Nat.le_of_ble_eq_true rfl) dX8_parse_2 (fun H locs hM => ?_)
  clear ca
  obtain ⟨S1, ev, hf⟩ := m_bndE hf
  replace hM := z_hS hM ev
  clear ev
  refine lv_aload_n hx hb dX8_parse_5 rfl (lv_at hl 0 rfl) ?_
  refine lv_aload_n hx hb dX8_parse_6 rfl (lv_at hl 0 rfl) ?_
  obtain ⟨ca, hf⟩ := m_chkE hf
  replace ca := z_in hM (by decide) ca
  refine z_get (k := 8) (j := 1) (C := RX8) (T := TX8) (N := 12) (fl := zf_8) (v := va_rf ((zP S1 1 x0).map (zh y))) X hw_X8_parse_8 hM rfl zc_8 ca (by decide) fl_X8_parse_8_1 rfl dX8_parse_7 ?_
  clear ca
  obtain ⟨b2, hb9, hf⟩ := m_calE hf
  refine z_topr hb9 ?_
  clear hb9
  refine z_ldcS X hM sr_X8_parse_78 dX8_parse_10 ?_
  obtain ⟨ca, hf⟩ := m_chkE hf
  replace ca := z_in hM (by decide) ca
  obtain ⟨o3, ho, hf⟩ := m_calE hf
  refine z_callVi (k := 6) (C := RX6) (T := TX6) (N := 2) (fl := zf_6) X hM rfl zc_6 ca (c_X6_is ho) gX8_parse_X6_is rfl ⟨rfl, rfl⟩ hd_X6_is ⟨Nat.le_of_ble_eq_true rfl, Nat.le_of_ble_eq_true rfl⟩ rfl hl.1 rfl (Nat.le_of_ble_eq_true rfl) dX8_parse_12 (fun H locs hM => ?_)
  clear ho
  refine lv_if_eq (tgt := 22) hx hb dX8_parse_15 (by decide) (fun cc1 => ?_) (fun cc1 => ?_)
  · replace hf := m_ifT hf cc1
    refine lv_aload_n hx hb dX8_parse_22 rfl (lv_at hl 0 rfl) ?_
    obtain ⟨ca, hf⟩ := m_chkE hf
    replace ca := z_in hM (by decide) ca
    refine z_get (k := 8) (j := 1) (C := RX8) (T := TX8) (N := 12) (fl := zf_8) (v := va_rf ((zP o3.2 1 x0).map (zh y))) X hw_X8_parse_8 hM rfl zc_8 ca (by decide) fl_X8_parse_8_1 rfl dX8_parse_23 ?_
    clear ca
    obtain ⟨b4, hb9, hf⟩ := m_calE hf
    refine z_topr hb9 ?_
    clear hb9
    refine z_ldcS X hM sr_X8_parse_84 dX8_parse_26 ?_
    obtain ⟨ca, hf⟩ := m_chkE hf
    replace ca := z_in hM (by decide) ca
    obtain ⟨o5, ho, hf⟩ := m_calE hf
    refine z_callVi (k := 6) (C := RX6) (T := TX6) (N := 2) (fl := zf_6) X hM rfl zc_6 ca (c_X6_is ho) gX8_parse_X6_is rfl ⟨rfl, rfl⟩ hd_X6_is ⟨Nat.le_of_ble_eq_true rfl, Nat.le_of_ble_eq_true rfl⟩ rfl hl.1 rfl (Nat.le_of_ble_eq_true rfl) dX8_parse_28 (fun H locs hM => ?_)
    clear ho
    refine lv_if_eq (tgt := 39) hx hb dX8_parse_31 (by decide) (fun cc1 => ?_) (fun cc1 => ?_)
    · replace hf := m_ifT hf cc1
      refine lv_iconst (v := (0 : Int32)) hx hb dX8_parse_39 (by decide) ?_
      exact w_X8_parse_40 (x0 := x0) (t0 := (0 : Int32)) (t1 := x0) X hret hf hM (lv_sub hl [0] rfl)
    · replace hf := m_ifF hf cc1
      refine lv_bipush (v := (-2 : Int32)) hx hb dX8_parse_34 (by decide) ?_
      refine lv_goto (tgt := 40) hx hb dX8_parse_36 (by decide) ?_
      exact w_X8_parse_40 (x0 := x0) (t0 := (-2 : Int32)) (t1 := x0) X hret hf hM (lv_sub hl [0] rfl)
  · replace hf := m_ifF hf cc1
    refine lv_iconst (v := (2 : Int32)) hx hb dX8_parse_18 (by decide) ?_
    refine lv_goto (tgt := 40) hx hb dX8_parse_19 (by decide) ?_
    exact w_X8_parse_40 (x0 := x0) (t0 := (2 : Int32)) (t1 := x0) X hret hf hM (lv_sub hl [0] rfl)
noncomputable def f_X8_parse (x0 : Nat) (S : ZS) : Option (Int32 × ZS) := f_X8_parse_0 x0 S
theorem c_X8_parse {l : Launch} {D : va_G} {y : Nat → ClassId} {x0 : Nat} {S : ZS} {o : Int32 × ZS} (hf : f_X8_parse x0 S = some o) : zMi l yX8_parse wsX8_parse ({ frames := 6, cells := 0, slots := 0, locals := 129 } : Room) [.ref (zh y x0)] D y S o :=
  z_entryI (own := RX8) (cc := cX8_parse) (maxL := 3) (by decide) rfl rfl (Nat.le_of_ble_eq_true rfl) (fun p e s m args below meth c A0 Q H locs ls X hret hM hl => w_X8_parse_0 X hret hf hM (lv_sub hl [0] rfl))
theorem hd_X8_fitsFrom : yX8_fitsFrom.cls = RX8 ∧ yX8_fitsFrom.cls ≠ "java/lang/invoke/MethodHandle" ∧ yX8_fitsFrom.cls ≠ "java/lang/invoke/VarHandle" ∧ (parseMethodDescriptor yX8_fitsFrom.desc).map (fun d => d.parameters.length) = some 2 := by decide +kernel
theorem fl_X8_fitsFrom_0_0 : Cond.fieldLink RX8 138 "MoveTexts$Board" "men" "[I" ∈ wsX8_fitsFrom := by decide +kernel
theorem fl_X8_fitsFrom_0_3 : Cond.fieldLink RX8 120 "MoveTexts$Board" "side" "I" ∈ wsX8_fitsFrom := by decide +kernel
theorem fl_X8_fitsFrom_8_3 : Cond.fieldLink RX8 93 "MoveTexts$SignReader" "kind" "I" ∈ wsX8_fitsFrom := by decide +kernel
theorem fl_X8_fitsFrom_8_4 : Cond.fieldLink RX8 107 "MoveTexts$SignReader" "file" "I" ∈ wsX8_fitsFrom := by decide +kernel
theorem fl_X8_fitsFrom_8_5 : Cond.fieldLink RX8 110 "MoveTexts$SignReader" "rank" "I" ∈ wsX8_fitsFrom := by decide +kernel
theorem fl_X8_fitsFrom_8_6 : Cond.fieldLink RX8 100 "MoveTexts$SignReader" "to" "I" ∈ wsX8_fitsFrom := by decide +kernel
theorem fl_X8_fitsFrom_8_7 : Cond.fieldLink RX8 75 "MoveTexts$SignReader" "becomes" "I" ∈ wsX8_fitsFrom := by decide +kernel
theorem fl_X8_fitsFrom_8_8 : Cond.fieldLink RX8 56 "MoveTexts$SignReader" "taking" "I" ∈ wsX8_fitsFrom := by decide +kernel
theorem hw_X8_fitsFrom_0 : ∀ w ∈ wsX00, w ∈ wsX8_fitsFrom := by decide +kernel
theorem hw_X8_fitsFrom_8 : ∀ w ∈ wsX80, w ∈ wsX8_fitsFrom := by decide +kernel
noncomputable def f_X8_fitsFrom_70 (S : ZS) : Option (Int32 × ZS) :=
  m_chk (vp_nar .boolean (0 : Int32) = (0 : Int32)) (some ((0 : Int32), S))

set_option maxRecDepth 100000 in
set_option maxHeartbeats 4000000 in
theorem w_X8_fitsFrom_70 {p : Program} {l : Launch} {e : Env} {s : State} {m : MethodId} {args : Array Value} {below : List Frame} {meth : Method} {c : Code} {Q : State → Prop} {D : va_G} {y : Nat → ClassId} {A0 : Nat → Prop} {o : Int32 × ZS} (X : CallFix p m c cX8_fitsFrom 4 s args wsX8_fitsFrom RX8) (hret : zRi p l e ({ frames := 2, cells := 0, slots := 0, locals := 43 } : Room) s m args below meth c Q cX8_fitsFrom D y A0 .boolean o) {S : ZS} {H : Heap} {locs : List Loc} {ls : Array Slot} (hf : f_X8_fitsFrom_70  S = some o) (hM : zH D y A0 s H locs S) (hl : lv_has ls 4 []) : W p l e ({ frames := 2, cells := 0, slots := 0, locals := 43 } : Room) s m args below meth c H locs 0 0 Q (F0 m 70 ls []) := by
  obtain ⟨hx, hb, hml, hown, hts⟩ := id X
  unfold f_X8_fitsFrom_70 at hf
  refine lv_iconst (v := (0 : Int32)) hx hb dX8_fitsFrom_70 (by decide) ?_
  obtain ⟨cd, hf⟩ := m_chkE hf
  cases hf
  exact hret H locs _ ls hM (m_nb cd) dX8_fitsFrom_71
noncomputable def f_X8_fitsFrom_158 (t0 : Int32) (S : ZS) : Option (Int32 × ZS) :=
  m_chk (vp_nar .boolean t0 = t0) (some (t0, S))

set_option maxRecDepth 100000 in
set_option maxHeartbeats 4000000 in
theorem w_X8_fitsFrom_158 {p : Program} {l : Launch} {e : Env} {s : State} {m : MethodId} {args : Array Value} {below : List Frame} {meth : Method} {c : Code} {Q : State → Prop} {D : va_G} {y : Nat → ClassId} {A0 : Nat → Prop} {o : Int32 × ZS} (X : CallFix p m c cX8_fitsFrom 4 s args wsX8_fitsFrom RX8) (hret : zRi p l e ({ frames := 2, cells := 0, slots := 0, locals := 43 } : Room) s m args below meth c Q cX8_fitsFrom D y A0 .boolean o) {t0 : Int32} {S : ZS} {H : Heap} {locs : List Loc} {ls : Array Slot} (hf : f_X8_fitsFrom_158 t0 S = some o) (hM : zH D y A0 s H locs S) (hl : lv_has ls 4 []) : W p l e ({ frames := 2, cells := 0, slots := 0, locals := 43 } : Room) s m args below meth c H locs 0 0 Q (F0 m 158 ls [.int t0]) := by
  obtain ⟨hx, hb, hml, hown, hts⟩ := id X
  unfold f_X8_fitsFrom_158 at hf
  obtain ⟨cd, hf⟩ := m_chkE hf
  cases hf
  exact hret H locs _ ls hM (m_nb cd) dX8_fitsFrom_158
noncomputable def f_X8_fitsFrom_157 (S : ZS) : Option (Int32 × ZS) :=
  f_X8_fitsFrom_158 (0 : Int32) S

set_option maxRecDepth 100000 in
set_option maxHeartbeats 4000000 in
theorem w_X8_fitsFrom_157 {p : Program} {l : Launch} {e : Env} {s : State} {m : MethodId} {args : Array Value} {below : List Frame} {meth : Method} {c : Code} {Q : State → Prop} {D : va_G} {y : Nat → ClassId} {A0 : Nat → Prop} {o : Int32 × ZS} (X : CallFix p m c cX8_fitsFrom 4 s args wsX8_fitsFrom RX8) (hret : zRi p l e ({ frames := 2, cells := 0, slots := 0, locals := 43 } : Room) s m args below meth c Q cX8_fitsFrom D y A0 .boolean o) {S : ZS} {H : Heap} {locs : List Loc} {ls : Array Slot} (hf : f_X8_fitsFrom_157  S = some o) (hM : zH D y A0 s H locs S) (hl : lv_has ls 4 []) : W p l e ({ frames := 2, cells := 0, slots := 0, locals := 43 } : Room) s m args below meth c H locs 0 0 Q (F0 m 157 ls []) := by
  obtain ⟨hx, hb, hml, hown, hts⟩ := id X
  unfold f_X8_fitsFrom_157 at hf
  refine lv_iconst (v := (0 : Int32)) hx hb dX8_fitsFrom_157 (by decide) ?_
  exact w_X8_fitsFrom_158 (t0 := (0 : Int32)) X hret hf hM (lv_sub hl [] rfl)
noncomputable def f_X8_fitsFrom_150 (t0 : Int32) (t1 : Int32) (S : ZS) : Option (Int32 × ZS) :=
  m_if (t1 = t0) (
  f_X8_fitsFrom_158 (1 : Int32) S
  ) (
  f_X8_fitsFrom_157  S
  )

set_option maxRecDepth 100000 in
set_option maxHeartbeats 4000000 in
theorem w_X8_fitsFrom_150 {p : Program} {l : Launch} {e : Env} {s : State} {m : MethodId} {args : Array Value} {below : List Frame} {meth : Method} {c : Code} {Q : State → Prop} {D : va_G} {y : Nat → ClassId} {A0 : Nat → Prop} {o : Int32 × ZS} (X : CallFix p m c cX8_fitsFrom 4 s args wsX8_fitsFrom RX8) (hret : zRi p l e ({ frames := 2, cells := 0, slots := 0, locals := 43 } : Room) s m args below meth c Q cX8_fitsFrom D y A0 .boolean o) {t0 : Int32} {t1 : Int32} {S : ZS} {H : Heap} {locs : List Loc} {ls : Array Slot} (hf : f_X8_fitsFrom_150 t0 t1 S = some o) (hM : zH D y A0 s H locs S) (hl : lv_has ls 4 []) : W p l e ({ frames := 2, cells := 0, slots := 0, locals := 43 } : Room) s m args below meth c H locs 0 0 Q (F0 m 150 ls [.int t0, .int t1]) := by
  obtain ⟨hx, hb, hml, hown, hts⟩ := id X
  unfold f_X8_fitsFrom_150 at hf
  refine lv_icmp_ne (tgt := 157) hx hb dX8_fitsFrom_150 (by decide) (fun cc1 => ?_) (fun cc1 => ?_)
  · replace hf := m_ifF hf cc1
    exact w_X8_fitsFrom_157 X hret hf hM (lv_sub hl [] rfl)
  · replace hf := m_ifT hf cc1
    refine lv_iconst (v := (1 : Int32)) hx hb dX8_fitsFrom_153 (by decide) ?_
    refine lv_goto (tgt := 158) hx hb dX8_fitsFrom_154 (by decide) ?_
    exact w_X8_fitsFrom_158 (t0 := (1 : Int32)) X hret hf hM (lv_sub hl [] rfl)
noncomputable def f_X8_fitsFrom_129 (x0 : Nat) (x1 : Nat) (x2 : Int32) (S : ZS) : Option (Int32 × ZS) :=
  m_chk (zK S x0 = 8) (
  m_chk (zK S x1 = 0) (
  m_cal (f_X0_becomesAnother x1 x2 (zI S 6 x0) S) (fun o1 =>
  m_chk (zK o1.2 x0 = 8) (
  m_if ((zI o1.2 7 x0) = 0) (
  f_X8_fitsFrom_150 (0 : Int32) o1.1 o1.2
  ) (
  f_X8_fitsFrom_150 (1 : Int32) o1.1 o1.2
  )))))

set_option maxRecDepth 100000 in
set_option maxHeartbeats 4000000 in
theorem w_X8_fitsFrom_129 {p : Program} {l : Launch} {e : Env} {s : State} {m : MethodId} {args : Array Value} {below : List Frame} {meth : Method} {c : Code} {Q : State → Prop} {D : va_G} {y : Nat → ClassId} {A0 : Nat → Prop} {o : Int32 × ZS} (X : CallFix p m c cX8_fitsFrom 4 s args wsX8_fitsFrom RX8) (hret : zRi p l e ({ frames := 2, cells := 0, slots := 0, locals := 43 } : Room) s m args below meth c Q cX8_fitsFrom D y A0 .boolean o) {x0 : Nat} {x1 : Nat} {x2 : Int32} {S : ZS} {H : Heap} {locs : List Loc} {ls : Array Slot} (hf : f_X8_fitsFrom_129 x0 x1 x2 S = some o) (hM : zH D y A0 s H locs S) (hl : lv_has ls 4 [(0, .ref (zh y x0)), (1, .ref (zh y x1)), (2, .int x2)]) : W p l e ({ frames := 2, cells := 0, slots := 0, locals := 43 } : Room) s m args below meth c H locs 0 0 Q (F0 m 129 ls []) := by
  obtain ⟨hx, hb, hml, hown, hts⟩ := id X
  unfold f_X8_fitsFrom_129 at hf
  refine lv_aload_n hx hb dX8_fitsFrom_129 rfl (lv_at hl 1 rfl) ?_
  refine lv_iload_n hx hb dX8_fitsFrom_130 rfl (lv_at hl 2 rfl) ?_
  refine lv_aload_n hx hb dX8_fitsFrom_131 rfl (lv_at hl 0 rfl) ?_
  obtain ⟨ca, hf⟩ := m_chkE hf
  replace ca := z_in hM (by decide) ca
  refine z_get (k := 8) (j := 6) (C := RX8) (T := TX8) (N := 12) (fl := zf_8) (v := .int (zI S 6 x0)) X hw_X8_fitsFrom_8 hM rfl zc_8 ca (by decide) fl_X8_fitsFrom_8_6 rfl dX8_fitsFrom_132 ?_
  clear ca
  obtain ⟨ca, hf⟩ := m_chkE hf
  replace ca := z_in hM (by decide) ca
  obtain ⟨o1, ho, hf⟩ := m_calE hf
  refine z_callVi (k := 0) (C := RX0) (T := TX0) (N := 7) (fl := zf_0) X hM rfl zc_0 ca (c_X0_becomesAnother ho) gX8_fitsFrom_X0_becomesAnother rfl ⟨rfl, rfl⟩ hd_X0_becomesAnother ⟨Nat.le_of_ble_eq_true rfl, Nat.le_of_ble_eq_true rfl⟩ rfl hl.1 rfl (Nat.le_of_ble_eq_true rfl) dX8_fitsFrom_135 (fun H locs hM => ?_)
  clear ho
  refine lv_aload_n hx hb dX8_fitsFrom_138 rfl (lv_at hl 0 rfl) ?_
  obtain ⟨ca, hf⟩ := m_chkE hf
  replace ca := z_in hM (by decide) ca
  refine z_get (k := 8) (j := 7) (C := RX8) (T := TX8) (N := 12) (fl := zf_8) (v := .int (zI o1.2 7 x0)) X hw_X8_fitsFrom_8 hM rfl zc_8 ca (by decide) fl_X8_fitsFrom_8_7 rfl dX8_fitsFrom_139 ?_
  clear ca
  refine lv_if_eq (tgt := 149) hx hb dX8_fitsFrom_142 (by decide) (fun cc1 => ?_) (fun cc1 => ?_)
  · replace hf := m_ifT hf cc1
    refine lv_iconst (v := (0 : Int32)) hx hb dX8_fitsFrom_149 (by decide) ?_
    exact w_X8_fitsFrom_150 (t0 := (0 : Int32)) (t1 := o1.1) X hret hf hM (lv_sub hl [] rfl)
  · replace hf := m_ifF hf cc1
    refine lv_iconst (v := (1 : Int32)) hx hb dX8_fitsFrom_145 (by decide) ?_
    refine lv_goto (tgt := 150) hx hb dX8_fitsFrom_146 (by decide) ?_
    exact w_X8_fitsFrom_150 (t0 := (1 : Int32)) (t1 := o1.1) X hret hf hM (lv_sub hl [] rfl)
noncomputable def f_X8_fitsFrom_126 (x0 : Nat) (x1 : Nat) (x2 : Int32) (t0 : Int32) (t1 : Int32) (S : ZS) : Option (Int32 × ZS) :=
  m_if (t1 = t0) (
  f_X8_fitsFrom_129 x0 x1 x2 S
  ) (
  f_X8_fitsFrom_157  S
  )

set_option maxRecDepth 100000 in
set_option maxHeartbeats 4000000 in
theorem w_X8_fitsFrom_126 {p : Program} {l : Launch} {e : Env} {s : State} {m : MethodId} {args : Array Value} {below : List Frame} {meth : Method} {c : Code} {Q : State → Prop} {D : va_G} {y : Nat → ClassId} {A0 : Nat → Prop} {o : Int32 × ZS} (X : CallFix p m c cX8_fitsFrom 4 s args wsX8_fitsFrom RX8) (hret : zRi p l e ({ frames := 2, cells := 0, slots := 0, locals := 43 } : Room) s m args below meth c Q cX8_fitsFrom D y A0 .boolean o) {x0 : Nat} {x1 : Nat} {x2 : Int32} {t0 : Int32} {t1 : Int32} {S : ZS} {H : Heap} {locs : List Loc} {ls : Array Slot} (hf : f_X8_fitsFrom_126 x0 x1 x2 t0 t1 S = some o) (hM : zH D y A0 s H locs S) (hl : lv_has ls 4 [(0, .ref (zh y x0)), (1, .ref (zh y x1)), (2, .int x2)]) : W p l e ({ frames := 2, cells := 0, slots := 0, locals := 43 } : Room) s m args below meth c H locs 0 0 Q (F0 m 126 ls [.int t0, .int t1]) := by
  obtain ⟨hx, hb, hml, hown, hts⟩ := id X
  unfold f_X8_fitsFrom_126 at hf
  refine lv_icmp_ne (tgt := 157) hx hb dX8_fitsFrom_126 (by decide) (fun cc1 => ?_) (fun cc1 => ?_)
  · replace hf := m_ifF hf cc1
    exact w_X8_fitsFrom_157 X hret hf hM (lv_sub hl [] rfl)
  · replace hf := m_ifT hf cc1
    exact w_X8_fitsFrom_129 (x0 := x0) (x1 := x1) (x2 := x2) X hret hf hM (lv_sub hl [0, 1, 2] rfl)
noncomputable def f_X8_fitsFrom_104 (x0 : Nat) (x1 : Nat) (x2 : Int32) (x3 : Int32) (S : ZS) : Option (Int32 × ZS) :=
  m_chk (zK S x0 = 8) (
  m_if ((zI S 8 x0) = (-1 : Int32)) (
  f_X8_fitsFrom_129 x0 x1 x2 S
  ) (
  m_chk (zK S x0 = 8) (
  m_if ((zI S 8 x0) = (1 : Int32)) (
  f_X8_fitsFrom_126 x0 x1 x2 (1 : Int32) x3 S
  ) (
  f_X8_fitsFrom_126 x0 x1 x2 (0 : Int32) x3 S
  ))
  ))

set_option maxRecDepth 100000 in
set_option maxHeartbeats 4000000 in
theorem w_X8_fitsFrom_104 {p : Program} {l : Launch} {e : Env} {s : State} {m : MethodId} {args : Array Value} {below : List Frame} {meth : Method} {c : Code} {Q : State → Prop} {D : va_G} {y : Nat → ClassId} {A0 : Nat → Prop} {o : Int32 × ZS} (X : CallFix p m c cX8_fitsFrom 4 s args wsX8_fitsFrom RX8) (hret : zRi p l e ({ frames := 2, cells := 0, slots := 0, locals := 43 } : Room) s m args below meth c Q cX8_fitsFrom D y A0 .boolean o) {x0 : Nat} {x1 : Nat} {x2 : Int32} {x3 : Int32} {S : ZS} {H : Heap} {locs : List Loc} {ls : Array Slot} (hf : f_X8_fitsFrom_104 x0 x1 x2 x3 S = some o) (hM : zH D y A0 s H locs S) (hl : lv_has ls 4 [(0, .ref (zh y x0)), (1, .ref (zh y x1)), (2, .int x2), (3, .int x3)]) : W p l e ({ frames := 2, cells := 0, slots := 0, locals := 43 } : Room) s m args below meth c H locs 0 0 Q (F0 m 104 ls []) := by
  obtain ⟨hx, hb, hml, hown, hts⟩ := id X
  unfold f_X8_fitsFrom_104 at hf
  refine lv_aload_n hx hb dX8_fitsFrom_104 rfl (lv_at hl 0 rfl) ?_
  obtain ⟨ca, hf⟩ := m_chkE hf
  replace ca := z_in hM (by decide) ca
  refine z_get (k := 8) (j := 8) (C := RX8) (T := TX8) (N := 12) (fl := zf_8) (v := .int (zI S 8 x0)) X hw_X8_fitsFrom_8 hM rfl zc_8 ca (by decide) fl_X8_fitsFrom_8_8 rfl dX8_fitsFrom_105 ?_
  clear ca
  refine lv_iconst (v := (-1 : Int32)) hx hb dX8_fitsFrom_108 (by decide) ?_
  refine lv_icmp_eq (tgt := 129) hx hb dX8_fitsFrom_109 (by decide) (fun cc1 => ?_) (fun cc1 => ?_)
  · replace hf := m_ifT hf cc1
    exact w_X8_fitsFrom_129 (x0 := x0) (x1 := x1) (x2 := x2) X hret hf hM (lv_sub hl [0, 1, 2] rfl)
  · replace hf := m_ifF hf cc1
    refine lv_iload_n hx hb dX8_fitsFrom_112 rfl (lv_at hl 3 rfl) ?_
    refine lv_aload_n hx hb dX8_fitsFrom_113 rfl (lv_at hl 0 rfl) ?_
    obtain ⟨ca, hf⟩ := m_chkE hf
    replace ca := z_in hM (by decide) ca
    refine z_get (k := 8) (j := 8) (C := RX8) (T := TX8) (N := 12) (fl := zf_8) (v := .int (zI S 8 x0)) X hw_X8_fitsFrom_8 hM rfl zc_8 ca (by decide) fl_X8_fitsFrom_8_8 rfl dX8_fitsFrom_114 ?_
    clear ca
    refine lv_iconst (v := (1 : Int32)) hx hb dX8_fitsFrom_117 (by decide) ?_
    refine lv_icmp_ne (tgt := 125) hx hb dX8_fitsFrom_118 (by decide) (fun cc1 => ?_) (fun cc1 => ?_)
    · replace hf := m_ifF hf cc1
      refine lv_iconst (v := (0 : Int32)) hx hb dX8_fitsFrom_125 (by decide) ?_
      exact w_X8_fitsFrom_126 (x0 := x0) (x1 := x1) (x2 := x2) (t0 := (0 : Int32)) (t1 := x3) X hret hf hM (lv_sub hl [0, 1, 2] rfl)
    · replace hf := m_ifT hf cc1
      refine lv_iconst (v := (1 : Int32)) hx hb dX8_fitsFrom_121 (by decide) ?_
      refine lv_goto (tgt := 126) hx hb dX8_fitsFrom_122 (by decide) ?_
      exact w_X8_fitsFrom_126 (x0 := x0) (x1 := x1) (x2 := x2) (t0 := (1 : Int32)) (t1 := x3) X hret hf hM (lv_sub hl [0, 1, 2] rfl)
noncomputable def f_X8_fitsFrom_72 (x0 : Nat) (x1 : Nat) (x2 : Int32) (S : ZS) : Option (Int32 × ZS) :=
  m_chk (zK S x0 = 8) (
  m_chk (zK S x1 = 0) (
  m_cal (f_X0_takes x1 x2 (zI S 6 x0) S) (fun o1 =>
  m_chk (zK o1.2 x0 = 8) (
  m_if ((zI o1.2 3 x0) = (1 : Int32)) (
  m_if (o1.1 = 0) (
  f_X8_fitsFrom_104 x0 x1 x2 o1.1 o1.2
  ) (
  m_chk (zK o1.2 x0 = 8) (
  m_if ((zI o1.2 4 x0) = (-1 : Int32)) (
  m_chk (vp_nar .boolean (0 : Int32) = (0 : Int32)) (some ((0 : Int32), o1.2))
  ) (
  f_X8_fitsFrom_104 x0 x1 x2 o1.1 o1.2
  ))
  )
  ) (
  f_X8_fitsFrom_104 x0 x1 x2 o1.1 o1.2
  )))))

set_option maxRecDepth 100000 in
set_option maxHeartbeats 4000000 in
theorem w_X8_fitsFrom_72 {p : Program} {l : Launch} {e : Env} {s : State} {m : MethodId} {args : Array Value} {below : List Frame} {meth : Method} {c : Code} {Q : State → Prop} {D : va_G} {y : Nat → ClassId} {A0 : Nat → Prop} {o : Int32 × ZS} (X : CallFix p m c cX8_fitsFrom 4 s args wsX8_fitsFrom RX8) (hret : zRi p l e ({ frames := 2, cells := 0, slots := 0, locals := 43 } : Room) s m args below meth c Q cX8_fitsFrom D y A0 .boolean o) {x0 : Nat} {x1 : Nat} {x2 : Int32} {S : ZS} {H : Heap} {locs : List Loc} {ls : Array Slot} (hf : f_X8_fitsFrom_72 x0 x1 x2 S = some o) (hM : zH D y A0 s H locs S) (hl : lv_has ls 4 [(0, .ref (zh y x0)), (1, .ref (zh y x1)), (2, .int x2)]) : W p l e ({ frames := 2, cells := 0, slots := 0, locals := 43 } : Room) s m args below meth c H locs 0 0 Q (F0 m 72 ls []) := by
  obtain ⟨hx, hb, hml, hown, hts⟩ := id X
  unfold f_X8_fitsFrom_72 at hf
  refine lv_aload_n hx hb dX8_fitsFrom_72 rfl (lv_at hl 1 rfl) ?_
  refine lv_iload_n hx hb dX8_fitsFrom_73 rfl (lv_at hl 2 rfl) ?_
  refine lv_aload_n hx hb dX8_fitsFrom_74 rfl (lv_at hl 0 rfl) ?_
  obtain ⟨ca, hf⟩ := m_chkE hf
  replace ca := z_in hM (by decide) ca
  refine z_get (k := 8) (j := 6) (C := RX8) (T := TX8) (N := 12) (fl := zf_8) (v := .int (zI S 6 x0)) X hw_X8_fitsFrom_8 hM rfl zc_8 ca (by decide) fl_X8_fitsFrom_8_6 rfl dX8_fitsFrom_75 ?_
  clear ca
  obtain ⟨ca, hf⟩ := m_chkE hf
  replace ca := z_in hM (by decide) ca
  obtain ⟨o1, ho, hf⟩ := m_calE hf
  refine z_callVi (k := 0) (C := RX0) (T := TX0) (N := 7) (fl := zf_0) X hM rfl zc_0 ca (c_X0_takes ho) gX8_fitsFrom_X0_takes rfl ⟨rfl, rfl⟩ hd_X0_takes ⟨Nat.le_of_ble_eq_true rfl, Nat.le_of_ble_eq_true rfl⟩ rfl hl.1 rfl (Nat.le_of_ble_eq_true rfl) dX8_fitsFrom_78 (fun H locs hM => ?_)
  clear ho
  refine lv_istore_n (lv' := [(3, .int o1.1), (0, .ref (zh y x0)), (1, .ref (zh y x1)), (2, .int x2)]) hx hb dX8_fitsFrom_81 rfl hl (by decide) rfl (fun ls hl => ?_)
  refine lv_aload_n hx hb dX8_fitsFrom_82 rfl (lv_at hl 1 rfl) ?_
  obtain ⟨ca, hf⟩ := m_chkE hf
  replace ca := z_in hM (by decide) ca
  refine z_get (k := 8) (j := 3) (C := RX8) (T := TX8) (N := 12) (fl := zf_8) (v := .int (zI o1.2 3 x0)) X hw_X8_fitsFrom_8 hM rfl zc_8 ca (by decide) fl_X8_fitsFrom_8_3 rfl dX8_fitsFrom_83 ?_
  clear ca
  refine lv_iconst (v := (1 : Int32)) hx hb dX8_fitsFrom_86 (by decide) ?_
  refine lv_icmp_ne (tgt := 104) hx hb dX8_fitsFrom_87 (by decide) (fun cc1 => ?_) (fun cc1 => ?_)
  · replace hf := m_ifF hf cc1
    exact w_X8_fitsFrom_104 (x0 := x0) (x1 := x1) (x2 := x2) (x3 := o1.1) X hret hf hM (lv_sub hl [1, 2, 3, 0] rfl)
  · replace hf := m_ifT hf cc1
    refine lv_iload_n hx hb dX8_fitsFrom_90 rfl (lv_at hl 0 rfl) ?_
    refine lv_if_eq (tgt := 104) hx hb dX8_fitsFrom_91 (by decide) (fun cc1 => ?_) (fun cc1 => ?_)
    · replace hf := m_ifT hf cc1
      exact w_X8_fitsFrom_104 (x0 := x0) (x1 := x1) (x2 := x2) (x3 := o1.1) X hret hf hM (lv_sub hl [1, 2, 3, 0] rfl)
    · replace hf := m_ifF hf cc1
      refine lv_aload_n hx hb dX8_fitsFrom_94 rfl (lv_at hl 1 rfl) ?_
      obtain ⟨ca, hf⟩ := m_chkE hf
      replace ca := z_in hM (by decide) ca
      refine z_get (k := 8) (j := 4) (C := RX8) (T := TX8) (N := 12) (fl := zf_8) (v := .int (zI o1.2 4 x0)) X hw_X8_fitsFrom_8 hM rfl zc_8 ca (by decide) fl_X8_fitsFrom_8_4 rfl dX8_fitsFrom_95 ?_
      clear ca
      refine lv_iconst (v := (-1 : Int32)) hx hb dX8_fitsFrom_98 (by decide) ?_
      refine lv_icmp_ne (tgt := 104) hx hb dX8_fitsFrom_99 (by decide) (fun cc1 => ?_) (fun cc1 => ?_)
      · replace hf := m_ifF hf cc1
        exact w_X8_fitsFrom_104 (x0 := x0) (x1 := x1) (x2 := x2) (x3 := o1.1) X hret hf hM (lv_sub hl [1, 2, 3, 0] rfl)
      · replace hf := m_ifT hf cc1
        refine lv_iconst (v := (0 : Int32)) hx hb dX8_fitsFrom_102 (by decide) ?_
        obtain ⟨cd, hf⟩ := m_chkE hf
        cases hf
        exact hret H locs _ ls hM (m_nb cd) dX8_fitsFrom_103
noncomputable def f_X8_fitsFrom_52 (x0 : Nat) (x1 : Nat) (x2 : Int32) (S : ZS) : Option (Int32 × ZS) :=
  m_chk (zK S x0 = 8) (
  m_if ((zI S 5 x0) = (-1 : Int32)) (
  f_X8_fitsFrom_72 x0 x1 x2 S
  ) (
  m_chk (zK S x0 = 8) (
  m_bnd (x2 >>> ((3 : Int32) &&& 31)) (fun v1 =>
  m_if ((zI S 5 x0) = v1) (
  f_X8_fitsFrom_72 x0 x1 x2 S
  ) (
  f_X8_fitsFrom_70  S
  )))
  ))

set_option maxRecDepth 100000 in
set_option maxHeartbeats 4000000 in
theorem w_X8_fitsFrom_52 {p : Program} {l : Launch} {e : Env} {s : State} {m : MethodId} {args : Array Value} {below : List Frame} {meth : Method} {c : Code} {Q : State → Prop} {D : va_G} {y : Nat → ClassId} {A0 : Nat → Prop} {o : Int32 × ZS} (X : CallFix p m c cX8_fitsFrom 4 s args wsX8_fitsFrom RX8) (hret : zRi p l e ({ frames := 2, cells := 0, slots := 0, locals := 43 } : Room) s m args below meth c Q cX8_fitsFrom D y A0 .boolean o) {x0 : Nat} {x1 : Nat} {x2 : Int32} {S : ZS} {H : Heap} {locs : List Loc} {ls : Array Slot} (hf : f_X8_fitsFrom_52 x0 x1 x2 S = some o) (hM : zH D y A0 s H locs S) (hl : lv_has ls 4 [(0, .ref (zh y x0)), (1, .ref (zh y x1)), (2, .int x2)]) : W p l e ({ frames := 2, cells := 0, slots := 0, locals := 43 } : Room) s m args below meth c H locs 0 0 Q (F0 m 52 ls []) := by
  obtain ⟨hx, hb, hml, hown, hts⟩ := id X
  unfold f_X8_fitsFrom_52 at hf
  refine lv_aload_n hx hb dX8_fitsFrom_52 rfl (lv_at hl 0 rfl) ?_
  obtain ⟨ca, hf⟩ := m_chkE hf
  replace ca := z_in hM (by decide) ca
  refine z_get (k := 8) (j := 5) (C := RX8) (T := TX8) (N := 12) (fl := zf_8) (v := .int (zI S 5 x0)) X hw_X8_fitsFrom_8 hM rfl zc_8 ca (by decide) fl_X8_fitsFrom_8_5 rfl dX8_fitsFrom_53 ?_
  clear ca
  refine lv_iconst (v := (-1 : Int32)) hx hb dX8_fitsFrom_56 (by decide) ?_
  refine lv_icmp_eq (tgt := 72) hx hb dX8_fitsFrom_57 (by decide) (fun cc1 => ?_) (fun cc1 => ?_)
  · replace hf := m_ifT hf cc1
    exact w_X8_fitsFrom_72 (x0 := x0) (x1 := x1) (x2 := x2) X hret hf hM (lv_sub hl [0, 1, 2] rfl)
  · replace hf := m_ifF hf cc1
    refine lv_aload_n hx hb dX8_fitsFrom_60 rfl (lv_at hl 0 rfl) ?_
    obtain ⟨ca, hf⟩ := m_chkE hf
    replace ca := z_in hM (by decide) ca
    refine z_get (k := 8) (j := 5) (C := RX8) (T := TX8) (N := 12) (fl := zf_8) (v := .int (zI S 5 x0)) X hw_X8_fitsFrom_8 hM rfl zc_8 ca (by decide) fl_X8_fitsFrom_8_5 rfl dX8_fitsFrom_61 ?_
    clear ca
    refine lv_iload_n hx hb dX8_fitsFrom_64 rfl (lv_at hl 2 rfl) ?_
    refine lv_iconst (v := (3 : Int32)) hx hb dX8_fitsFrom_65 (by decide) ?_
    refine lv_ishr hx hb dX8_fitsFrom_66 ?_
    obtain ⟨v1, ev, hf⟩ := m_bndE hf
    refine m_top ev ?_
    clear ev
    refine lv_icmp_eq (tgt := 72) hx hb dX8_fitsFrom_67 (by decide) (fun cc1 => ?_) (fun cc1 => ?_)
    · replace hf := m_ifT hf cc1
      exact w_X8_fitsFrom_72 (x0 := x0) (x1 := x1) (x2 := x2) X hret hf hM (lv_sub hl [0, 1, 2] rfl)
    · replace hf := m_ifF hf cc1
      exact w_X8_fitsFrom_70 X hret hf hM (lv_sub hl [] rfl)
noncomputable def f_X8_fitsFrom_0 (x0 : Nat) (x1 : Nat) (x2 : Int32) (S : ZS) : Option (Int32 × ZS) :=
  m_chk (zK S x1 = 0) (
  m_cal (zP S 0 x1) (fun b1 =>
  m_chk (zK S b1 = 14) (
  m_chk (¬ (x2 < 0 ∨ zN S b1 ≤ (x2).toNatClampNeg)) (
  m_bnd (zA S b1 (x2).toNatClampNeg) (fun v2 =>
  m_chk (zK S x0 = 8) (
  m_chk (zK S x1 = 0) (
  m_bnd ((8 : Int32) * (zI S 3 x1)) (fun v3 =>
  m_bnd ((zI S 3 x0) + v3) (fun v4 =>
  m_if (v2 = v4) (
  m_chk (zK S x0 = 8) (
  m_chk (zK S x1 = 0) (
  m_cal (f_X0_castles x1 x2 (zI S 6 x0) S) (fun o5 =>
  m_if (o5.1 = 0) (
  m_chk (zK o5.2 x0 = 8) (
  m_if ((zI o5.2 4 x0) = (-1 : Int32)) (
  f_X8_fitsFrom_52 x0 x1 x2 o5.2
  ) (
  m_chk (zK o5.2 x0 = 8) (
  m_bnd (x2 &&& (7 : Int32)) (fun v6 =>
  m_if ((zI o5.2 4 x0) = v6) (
  f_X8_fitsFrom_52 x0 x1 x2 o5.2
  ) (
  f_X8_fitsFrom_70  o5.2
  )))
  ))
  ) (
  f_X8_fitsFrom_70  o5.2
  ))))
  ) (
  f_X8_fitsFrom_70  S
  ))))))))))

set_option maxRecDepth 100000 in
set_option maxHeartbeats 4000000 in
theorem w_X8_fitsFrom_0 {p : Program} {l : Launch} {e : Env} {s : State} {m : MethodId} {args : Array Value} {below : List Frame} {meth : Method} {c : Code} {Q : State → Prop} {D : va_G} {y : Nat → ClassId} {A0 : Nat → Prop} {o : Int32 × ZS} (X : CallFix p m c cX8_fitsFrom 4 s args wsX8_fitsFrom RX8) (hret : zRi p l e ({ frames := 2, cells := 0, slots := 0, locals := 43 } : Room) s m args below meth c Q cX8_fitsFrom D y A0 .boolean o) {x0 : Nat} {x1 : Nat} {x2 : Int32} {S : ZS} {H : Heap} {locs : List Loc} {ls : Array Slot} (hf : f_X8_fitsFrom_0 x0 x1 x2 S = some o) (hM : zH D y A0 s H locs S) (hl : lv_has ls 4 [(0, .ref (zh y x0)), (1, .ref (zh y x1)), (2, .int x2)]) : W p l e ({ frames := 2, cells := 0, slots := 0, locals := 43 } : Room) s m args below meth c H locs 0 0 Q (F0 m 0 ls []) := by
  obtain ⟨hx, hb, hml, hown, hts⟩ := id X
  unfold f_X8_fitsFrom_0 at hf
  refine lv_aload_n hx hb dX8_fitsFrom_0 rfl (lv_at hl 1 rfl) ?_
  obtain ⟨ca, hf⟩ := m_chkE hf
  replace ca := z_in hM (by decide) ca
  refine z_get (k := 0) (j := 0) (C := RX0) (T := TX0) (N := 7) (fl := zf_0) (v := va_rf ((zP S 0 x1).map (zh y))) X hw_X8_fitsFrom_0 hM rfl zc_0 ca (by decide) fl_X8_fitsFrom_0_0 rfl dX8_fitsFrom_1 ?_
  clear ca
  obtain ⟨b1, hb9, hf⟩ := m_calE hf
  refine z_topr hb9 ?_
  clear hb9
  refine lv_iload_n hx hb dX8_fitsFrom_4 rfl (lv_at hl 2 rfl) ?_
  obtain ⟨ca, hf⟩ := m_chkE hf
  replace ca := z_in hM (by decide) ca
  obtain ⟨cd, hf⟩ := m_chkE hf
  refine z_iald X hM ca cd dX8_fitsFrom_5 ?_
  clear ca cd
  obtain ⟨v2, ev, hf⟩ := m_bndE hf
  refine m_top ev ?_
  clear ev
  refine lv_aload_n hx hb dX8_fitsFrom_6 rfl (lv_at hl 0 rfl) ?_
  obtain ⟨ca, hf⟩ := m_chkE hf
  replace ca := z_in hM (by decide) ca
  refine z_get (k := 8) (j := 3) (C := RX8) (T := TX8) (N := 12) (fl := zf_8) (v := .int (zI S 3 x0)) X hw_X8_fitsFrom_8 hM rfl zc_8 ca (by decide) fl_X8_fitsFrom_8_3 rfl dX8_fitsFrom_7 ?_
  clear ca
  refine lv_bipush (v := (8 : Int32)) hx hb dX8_fitsFrom_10 (by decide) ?_
  refine lv_aload_n hx hb dX8_fitsFrom_12 rfl (lv_at hl 1 rfl) ?_
  obtain ⟨ca, hf⟩ := m_chkE hf
  replace ca := z_in hM (by decide) ca
  refine z_get (k := 0) (j := 3) (C := RX0) (T := TX0) (N := 7) (fl := zf_0) (v := .int (zI S 3 x1)) X hw_X8_fitsFrom_0 hM rfl zc_0 ca (by decide) fl_X8_fitsFrom_0_3 rfl dX8_fitsFrom_13 ?_
  clear ca
  refine lv_imul hx hb dX8_fitsFrom_16 ?_
  obtain ⟨v3, ev, hf⟩ := m_bndE hf
  refine m_top ev ?_
  clear ev
  refine lv_iadd hx hb dX8_fitsFrom_17 ?_
  obtain ⟨v4, ev, hf⟩ := m_bndE hf
  refine m_top ev ?_
  clear ev
  refine lv_icmp_ne (tgt := 70) hx hb dX8_fitsFrom_18 (by decide) (fun cc1 => ?_) (fun cc1 => ?_)
  · replace hf := m_ifF hf cc1
    exact w_X8_fitsFrom_70 X hret hf hM (lv_sub hl [] rfl)
  · replace hf := m_ifT hf cc1
    refine lv_aload_n hx hb dX8_fitsFrom_21 rfl (lv_at hl 1 rfl) ?_
    refine lv_iload_n hx hb dX8_fitsFrom_22 rfl (lv_at hl 2 rfl) ?_
    refine lv_aload_n hx hb dX8_fitsFrom_23 rfl (lv_at hl 0 rfl) ?_
    obtain ⟨ca, hf⟩ := m_chkE hf
    replace ca := z_in hM (by decide) ca
    refine z_get (k := 8) (j := 6) (C := RX8) (T := TX8) (N := 12) (fl := zf_8) (v := .int (zI S 6 x0)) X hw_X8_fitsFrom_8 hM rfl zc_8 ca (by decide) fl_X8_fitsFrom_8_6 rfl dX8_fitsFrom_24 ?_
    clear ca
    obtain ⟨ca, hf⟩ := m_chkE hf
    replace ca := z_in hM (by decide) ca
    obtain ⟨o5, ho, hf⟩ := m_calE hf
    refine z_callVi (k := 0) (C := RX0) (T := TX0) (N := 7) (fl := zf_0) X hM rfl zc_0 ca (c_X0_castles ho) gX8_fitsFrom_X0_castles rfl ⟨rfl, rfl⟩ hd_X0_castles ⟨Nat.le_of_ble_eq_true rfl, Nat.le_of_ble_eq_true rfl⟩ rfl hl.1 rfl (Nat.le_of_ble_eq_true rfl) dX8_fitsFrom_27 (fun H locs hM => ?_)
    clear ho
    refine lv_if_ne (tgt := 70) hx hb dX8_fitsFrom_30 (by decide) (fun cc1 => ?_) (fun cc1 => ?_)
    · replace hf := m_ifF hf cc1
      exact w_X8_fitsFrom_70 X hret hf hM (lv_sub hl [] rfl)
    · replace hf := m_ifT hf cc1
      refine lv_aload_n hx hb dX8_fitsFrom_33 rfl (lv_at hl 0 rfl) ?_
      obtain ⟨ca, hf⟩ := m_chkE hf
      replace ca := z_in hM (by decide) ca
      refine z_get (k := 8) (j := 4) (C := RX8) (T := TX8) (N := 12) (fl := zf_8) (v := .int (zI o5.2 4 x0)) X hw_X8_fitsFrom_8 hM rfl zc_8 ca (by decide) fl_X8_fitsFrom_8_4 rfl dX8_fitsFrom_34 ?_
      clear ca
      refine lv_iconst (v := (-1 : Int32)) hx hb dX8_fitsFrom_37 (by decide) ?_
      refine lv_icmp_eq (tgt := 52) hx hb dX8_fitsFrom_38 (by decide) (fun cc1 => ?_) (fun cc1 => ?_)
      · replace hf := m_ifT hf cc1
        exact w_X8_fitsFrom_52 (x0 := x0) (x1 := x1) (x2 := x2) X hret hf hM (lv_sub hl [0, 1, 2] rfl)
      · replace hf := m_ifF hf cc1
        refine lv_aload_n hx hb dX8_fitsFrom_41 rfl (lv_at hl 0 rfl) ?_
        obtain ⟨ca, hf⟩ := m_chkE hf
        replace ca := z_in hM (by decide) ca
        refine z_get (k := 8) (j := 4) (C := RX8) (T := TX8) (N := 12) (fl := zf_8) (v := .int (zI o5.2 4 x0)) X hw_X8_fitsFrom_8 hM rfl zc_8 ca (by decide) fl_X8_fitsFrom_8_4 rfl dX8_fitsFrom_42 ?_
        clear ca
        refine lv_iload_n hx hb dX8_fitsFrom_45 rfl (lv_at hl 2 rfl) ?_
        refine lv_bipush (v := (7 : Int32)) hx hb dX8_fitsFrom_46 (by decide) ?_
        refine lv_iand hx hb dX8_fitsFrom_48 ?_
        obtain ⟨v6, ev, hf⟩ := m_bndE hf
        refine m_top ev ?_
        clear ev
        refine lv_icmp_ne (tgt := 70) hx hb dX8_fitsFrom_49 (by decide) (fun cc1 => ?_) (fun cc1 => ?_)
        · replace hf := m_ifF hf cc1
          exact w_X8_fitsFrom_70 X hret hf hM (lv_sub hl [] rfl)
        · replace hf := m_ifT hf cc1
          exact w_X8_fitsFrom_52 (x0 := x0) (x1 := x1) (x2 := x2) X hret hf hM (lv_sub hl [0, 1, 2] rfl)
noncomputable def f_X8_fitsFrom (x0 : Nat) (x1 : Nat) (x2 : Int32) (S : ZS) : Option (Int32 × ZS) := f_X8_fitsFrom_0 x0 x1 x2 S
theorem c_X8_fitsFrom {l : Launch} {D : va_G} {y : Nat → ClassId} {x0 : Nat} {x1 : Nat} {x2 : Int32} {S : ZS} {o : Int32 × ZS} (hf : f_X8_fitsFrom x0 x1 x2 S = some o) : zMi l yX8_fitsFrom wsX8_fitsFrom ({ frames := 2, cells := 0, slots := 0, locals := 43 } : Room) [.ref (zh y x0), .ref (zh y x1), .int x2] D y S o :=
  z_entryI (own := RX8) (cc := cX8_fitsFrom) (maxL := 4) (by decide) rfl rfl (Nat.le_of_ble_eq_true rfl) (fun p e s m args below meth c A0 Q H locs ls X hret hM hl => w_X8_fitsFrom_0 X hret hf hM (lv_sub hl [0, 1, 2] rfl))
theorem hd_X7_isSafe : yX7_isSafe.cls = RX7 ∧ yX7_isSafe.cls ≠ "java/lang/invoke/MethodHandle" ∧ yX7_isSafe.cls ≠ "java/lang/invoke/VarHandle" ∧ (parseMethodDescriptor yX7_isSafe.desc).map (fun d => d.parameters.length) = some 2 := by decide +kernel
theorem fl_X7_isSafe_0_3 : Cond.fieldLink RX7 21 "MoveTexts$Board" "side" "I" ∈ wsX7_isSafe := by decide +kernel
theorem fl_X7_isSafe_7_0 : Cond.fieldLink RX7 12 "MoveTexts$Rules" "trial" "LMoveTexts$Board;" ∈ wsX7_isSafe := by decide +kernel
theorem hw_X7_isSafe_0 : ∀ w ∈ wsX00, w ∈ wsX7_isSafe := by decide +kernel
theorem hw_X7_isSafe_7 : ∀ w ∈ wsX70, w ∈ wsX7_isSafe := by decide +kernel
noncomputable def f_X7_isSafe_105 (t0 : Int32) (S : ZS) : Option (Int32 × ZS) :=
  m_chk (vp_nar .boolean t0 = t0) (some (t0, S))

set_option maxRecDepth 100000 in
set_option maxHeartbeats 4000000 in
theorem w_X7_isSafe_105 {p : Program} {l : Launch} {e : Env} {s : State} {m : MethodId} {args : Array Value} {below : List Frame} {meth : Method} {c : Code} {Q : State → Prop} {D : va_G} {y : Nat → ClassId} {A0 : Nat → Prop} {o : Int32 × ZS} (X : CallFix p m c cX7_isSafe 6 s args wsX7_isSafe RX7) (hret : zRi p l e ({ frames := 2, cells := 0, slots := 0, locals := 81 } : Room) s m args below meth c Q cX7_isSafe D y A0 .boolean o) {t0 : Int32} {S : ZS} {H : Heap} {locs : List Loc} {ls : Array Slot} (hf : f_X7_isSafe_105 t0 S = some o) (hM : zH D y A0 s H locs S) (hl : lv_has ls 6 []) : W p l e ({ frames := 2, cells := 0, slots := 0, locals := 81 } : Room) s m args below meth c H locs 0 0 Q (F0 m 105 ls [.int t0]) := by
  obtain ⟨hx, hb, hml, hown, hts⟩ := id X
  unfold f_X7_isSafe_105 at hf
  obtain ⟨cd, hf⟩ := m_chkE hf
  cases hf
  exact hret H locs _ ls hM (m_nb cd) dX7_isSafe_105
noncomputable def f_X7_isSafe_61 (x0 : Nat) (x1 : Nat) (x2 : Int32) (x5 : Int32) (S : ZS) : Option (Int32 × ZS) :=
  m_chk (zK S x0 = 7) (
  m_cal (zP S 0 x0) (fun b1 =>
  m_chk (zK S b1 = 0) (
  m_cal (f_X0_copyFrom b1 x1 S) (fun o2 =>
  m_chk (zK o2.2 x0 = 7) (
  m_cal (zP o2.2 0 x0) (fun b3 =>
  m_chk (zK o2.2 b3 = 0) (
  m_cal (f_X0_play b3 x2 o2.2) (fun o4 =>
  m_chk (zK o4.2 x0 = 7) (
  m_cal (zP o4.2 0 x0) (fun b5 =>
  m_chk (zK o4.2 x0 = 7) (
  m_cal (zP o4.2 0 x0) (fun b6 =>
  m_chk (zK o4.2 b6 = 0) (
  m_cal (f_X0_kingOf b6 x5 o4.2) (fun o7 =>
  m_bnd ((1 : Int32) - x5) (fun v8 =>
  m_chk (zK o7.2 b5 = 0) (
  m_cal (f_X0_attacked b5 o7.1 v8 o7.2) (fun o9 =>
  m_if (o9.1 = 0) (
  f_X7_isSafe_105 (1 : Int32) o9.2
  ) (
  f_X7_isSafe_105 (0 : Int32) o9.2
  ))))))))))))))))))

set_option maxRecDepth 100000 in
set_option maxHeartbeats 4000000 in
theorem w_X7_isSafe_61 {p : Program} {l : Launch} {e : Env} {s : State} {m : MethodId} {args : Array Value} {below : List Frame} {meth : Method} {c : Code} {Q : State → Prop} {D : va_G} {y : Nat → ClassId} {A0 : Nat → Prop} {o : Int32 × ZS} (X : CallFix p m c cX7_isSafe 6 s args wsX7_isSafe RX7) (hret : zRi p l e ({ frames := 2, cells := 0, slots := 0, locals := 81 } : Room) s m args below meth c Q cX7_isSafe D y A0 .boolean o) {x0 : Nat} {x1 : Nat} {x2 : Int32} {x5 : Int32} {S : ZS} {H : Heap} {locs : List Loc} {ls : Array Slot} (hf : f_X7_isSafe_61 x0 x1 x2 x5 S = some o) (hM : zH D y A0 s H locs S) (hl : lv_has ls 6 [(0, .ref (zh y x0)), (1, .ref (zh y x1)), (2, .int x2), (5, .int x5)]) : W p l e ({ frames := 2, cells := 0, slots := 0, locals := 81 } : Room) s m args below meth c H locs 0 0 Q (F0 m 61 ls []) := by
  obtain ⟨hx, hb, hml, hown, hts⟩ := id X
  unfold f_X7_isSafe_61 at hf
  refine lv_aload_n hx hb dX7_isSafe_61 rfl (lv_at hl 0 rfl) ?_
  obtain ⟨ca, hf⟩ := m_chkE hf
  replace ca := z_in hM (by decide) ca
  refine z_get (k := 7) (j := 0) (C := RX7) (T := TX7) (N := 2) (fl := zf_7) (v := va_rf ((zP S 0 x0).map (zh y))) X hw_X7_isSafe_7 hM rfl zc_7 ca (by decide) fl_X7_isSafe_7_0 rfl dX7_isSafe_62 ?_
  clear ca
  obtain ⟨b1, hb9, hf⟩ := m_calE hf
  refine z_topr hb9 ?_
  clear hb9
  refine lv_aload_n hx hb dX7_isSafe_65 rfl (lv_at hl 1 rfl) ?_
  obtain ⟨ca, hf⟩ := m_chkE hf
  replace ca := z_in hM (by decide) ca
  obtain ⟨o2, ho, hf⟩ := m_calE hf
  refine z_callVv (k := 0) (C := RX0) (T := TX0) (N := 7) (fl := zf_0) X hM rfl zc_0 ca (c_X0_copyFrom ho) gX7_isSafe_X0_copyFrom rfl ⟨rfl, rfl⟩ hd_X0_copyFrom ⟨Nat.le_of_ble_eq_true rfl, Nat.le_of_ble_eq_true rfl⟩ rfl hl.1 rfl (Nat.le_of_ble_eq_true rfl) dX7_isSafe_66 (fun H locs hM => ?_)
  clear ho
  refine lv_aload_n hx hb dX7_isSafe_69 rfl (lv_at hl 0 rfl) ?_
  obtain ⟨ca, hf⟩ := m_chkE hf
  replace ca := z_in hM (by decide) ca
  refine z_get (k := 7) (j := 0) (C := RX7) (T := TX7) (N := 2) (fl := zf_7) (v := va_rf ((zP o2.2 0 x0).map (zh y))) X hw_X7_isSafe_7 hM rfl zc_7 ca (by decide) fl_X7_isSafe_7_0 rfl dX7_isSafe_70 ?_
  clear ca
  obtain ⟨b3, hb9, hf⟩ := m_calE hf
  refine z_topr hb9 ?_
  clear hb9
  refine lv_iload_n hx hb dX7_isSafe_73 rfl (lv_at hl 2 rfl) ?_
  obtain ⟨ca, hf⟩ := m_chkE hf
  replace ca := z_in hM (by decide) ca
  obtain ⟨o4, ho, hf⟩ := m_calE hf
  refine z_callVv (k := 0) (C := RX0) (T := TX0) (N := 7) (fl := zf_0) X hM rfl zc_0 ca (c_X0_play ho) gX7_isSafe_X0_play rfl ⟨rfl, rfl⟩ hd_X0_play ⟨Nat.le_of_ble_eq_true rfl, Nat.le_of_ble_eq_true rfl⟩ rfl hl.1 rfl (Nat.le_of_ble_eq_true rfl) dX7_isSafe_74 (fun H locs hM => ?_)
  clear ho
  refine lv_aload_n hx hb dX7_isSafe_77 rfl (lv_at hl 0 rfl) ?_
  obtain ⟨ca, hf⟩ := m_chkE hf
  replace ca := z_in hM (by decide) ca
  refine z_get (k := 7) (j := 0) (C := RX7) (T := TX7) (N := 2) (fl := zf_7) (v := va_rf ((zP o4.2 0 x0).map (zh y))) X hw_X7_isSafe_7 hM rfl zc_7 ca (by decide) fl_X7_isSafe_7_0 rfl dX7_isSafe_78 ?_
  clear ca
  obtain ⟨b5, hb9, hf⟩ := m_calE hf
  refine z_topr hb9 ?_
  clear hb9
  refine lv_aload_n hx hb dX7_isSafe_81 rfl (lv_at hl 0 rfl) ?_
  obtain ⟨ca, hf⟩ := m_chkE hf
  replace ca := z_in hM (by decide) ca
  refine z_get (k := 7) (j := 0) (C := RX7) (T := TX7) (N := 2) (fl := zf_7) (v := va_rf ((zP o4.2 0 x0).map (zh y))) X hw_X7_isSafe_7 hM rfl zc_7 ca (by decide) fl_X7_isSafe_7_0 rfl dX7_isSafe_82 ?_
  clear ca
  obtain ⟨b6, hb9, hf⟩ := m_calE hf
  refine z_topr hb9 ?_
  clear hb9
  refine lv_iload hx hb dX7_isSafe_85 (lv_at hl 3 rfl) ?_
  obtain ⟨ca, hf⟩ := m_chkE hf
  replace ca := z_in hM (by decide) ca
  obtain ⟨o7, ho, hf⟩ := m_calE hf
  refine z_callVi (k := 0) (C := RX0) (T := TX0) (N := 7) (fl := zf_0) X hM rfl zc_0 ca (c_X0_kingOf ho) gX7_isSafe_X0_kingOf rfl ⟨rfl, rfl⟩ hd_X0_kingOf ⟨Nat.le_of_ble_eq_true rfl, Nat.le_of_ble_eq_true rfl⟩ rfl hl.1 rfl (Nat.le_of_ble_eq_true rfl) dX7_isSafe_87 (fun H locs hM => ?_)
  clear ho
  refine lv_iconst (v := (1 : Int32)) hx hb dX7_isSafe_90 (by decide) ?_
  refine lv_iload hx hb dX7_isSafe_91 (lv_at hl 3 rfl) ?_
  refine lv_isub hx hb dX7_isSafe_93 ?_
  obtain ⟨v8, ev, hf⟩ := m_bndE hf
  refine m_top ev ?_
  clear ev
  obtain ⟨ca, hf⟩ := m_chkE hf
  replace ca := z_in hM (by decide) ca
  obtain ⟨o9, ho, hf⟩ := m_calE hf
  refine z_callVi (k := 0) (C := RX0) (T := TX0) (N := 7) (fl := zf_0) X hM rfl zc_0 ca (c_X0_attacked ho) gX7_isSafe_X0_attacked rfl ⟨rfl, rfl⟩ hd_X0_attacked ⟨Nat.le_of_ble_eq_true rfl, Nat.le_of_ble_eq_true rfl⟩ rfl hl.1 rfl (Nat.le_of_ble_eq_true rfl) dX7_isSafe_94 (fun H locs hM => ?_)
  clear ho
  refine lv_if_ne (tgt := 104) hx hb dX7_isSafe_97 (by decide) (fun cc1 => ?_) (fun cc1 => ?_)
  · replace hf := m_ifF hf cc1
    refine lv_iconst (v := (0 : Int32)) hx hb dX7_isSafe_104 (by decide) ?_
    exact w_X7_isSafe_105 (t0 := (0 : Int32)) X hret hf hM (lv_sub hl [] rfl)
  · replace hf := m_ifT hf cc1
    refine lv_iconst (v := (1 : Int32)) hx hb dX7_isSafe_100 (by decide) ?_
    refine lv_goto (tgt := 105) hx hb dX7_isSafe_101 (by decide) ?_
    exact w_X7_isSafe_105 (t0 := (1 : Int32)) X hret hf hM (lv_sub hl [] rfl)
noncomputable def f_X7_isSafe_59 (S : ZS) : Option (Int32 × ZS) :=
  m_chk (vp_nar .boolean (0 : Int32) = (0 : Int32)) (some ((0 : Int32), S))

set_option maxRecDepth 100000 in
set_option maxHeartbeats 4000000 in
theorem w_X7_isSafe_59 {p : Program} {l : Launch} {e : Env} {s : State} {m : MethodId} {args : Array Value} {below : List Frame} {meth : Method} {c : Code} {Q : State → Prop} {D : va_G} {y : Nat → ClassId} {A0 : Nat → Prop} {o : Int32 × ZS} (X : CallFix p m c cX7_isSafe 6 s args wsX7_isSafe RX7) (hret : zRi p l e ({ frames := 2, cells := 0, slots := 0, locals := 81 } : Room) s m args below meth c Q cX7_isSafe D y A0 .boolean o) {S : ZS} {H : Heap} {locs : List Loc} {ls : Array Slot} (hf : f_X7_isSafe_59  S = some o) (hM : zH D y A0 s H locs S) (hl : lv_has ls 6 []) : W p l e ({ frames := 2, cells := 0, slots := 0, locals := 81 } : Room) s m args below meth c H locs 0 0 Q (F0 m 59 ls []) := by
  obtain ⟨hx, hb, hml, hown, hts⟩ := id X
  unfold f_X7_isSafe_59 at hf
  refine lv_iconst (v := (0 : Int32)) hx hb dX7_isSafe_59 (by decide) ?_
  obtain ⟨cd, hf⟩ := m_chkE hf
  cases hf
  exact hret H locs _ ls hM (m_nb cd) dX7_isSafe_60
noncomputable def f_X7_isSafe_0 (x0 : Nat) (x1 : Nat) (x2 : Int32) (S : ZS) : Option (Int32 × ZS) :=
  m_bnd (x2 &&& (63 : Int32)) (fun v1 =>
  m_bnd (x2 >>> ((6 : Int32) &&& 31)) (fun v2 =>
  m_bnd (v2 &&& (63 : Int32)) (fun v3 =>
  m_chk (zK S x1 = 0) (
  m_chk (zK S x1 = 0) (
  m_cal (f_X0_castles x1 v1 v3 S) (fun o4 =>
  m_if (o4.1 = 0) (
  f_X7_isSafe_61 x0 x1 x2 (zI S 3 x1) o4.2
  ) (
  m_bnd ((1 : Int32) - (zI S 3 x1)) (fun v5 =>
  m_chk (zK o4.2 x1 = 0) (
  m_cal (f_X0_attacked x1 v1 v5 o4.2) (fun o6 =>
  m_if (o6.1 = 0) (
  m_bnd (v1 + v3) (fun v7 =>
  m_bnd (v7 / (2 : Int32)) (fun v8 =>
  m_bnd ((1 : Int32) - (zI S 3 x1)) (fun v9 =>
  m_chk (zK o6.2 x1 = 0) (
  m_cal (f_X0_attacked x1 v8 v9 o6.2) (fun o10 =>
  m_if (o10.1 = 0) (
  f_X7_isSafe_61 x0 x1 x2 (zI S 3 x1) o10.2
  ) (
  f_X7_isSafe_59  o10.2
  ))))))
  ) (
  f_X7_isSafe_59  o6.2
  ))))
  )))))))

set_option maxRecDepth 100000 in
set_option maxHeartbeats 4000000 in
theorem w_X7_isSafe_0 {p : Program} {l : Launch} {e : Env} {s : State} {m : MethodId} {args : Array Value} {below : List Frame} {meth : Method} {c : Code} {Q : State → Prop} {D : va_G} {y : Nat → ClassId} {A0 : Nat → Prop} {o : Int32 × ZS} (X : CallFix p m c cX7_isSafe 6 s args wsX7_isSafe RX7) (hret : zRi p l e ({ frames := 2, cells := 0, slots := 0, locals := 81 } : Room) s m args below meth c Q cX7_isSafe D y A0 .boolean o) {x0 : Nat} {x1 : Nat} {x2 : Int32} {S : ZS} {H : Heap} {locs : List Loc} {ls : Array Slot} (hf : f_X7_isSafe_0 x0 x1 x2 S = some o) (hM : zH D y A0 s H locs S) (hl : lv_has ls 6 [(0, .ref (zh y x0)), (1, .ref (zh y x1)), (2, .int x2)]) : W p l e ({ frames := 2, cells := 0, slots := 0, locals := 81 } : Room) s m args below meth c H locs 0 0 Q (F0 m 0 ls []) := by
  obtain ⟨hx, hb, hml, hown, hts⟩ := id X
  unfold f_X7_isSafe_0 at hf
  refine lv_iload_n hx hb dX7_isSafe_0 rfl (lv_at hl 2 rfl) ?_
  refine lv_bipush (v := (63 : Int32)) hx hb dX7_isSafe_1 (by decide) ?_
  refine lv_iand hx hb dX7_isSafe_3 ?_
  obtain ⟨v1, ev, hf⟩ := m_bndE hf
  refine m_top ev ?_
  clear ev
  refine lv_istore_n (lv' := [(3, .int v1), (0, .ref (zh y x0)), (1, .ref (zh y x1)), (2, .int x2)]) hx hb dX7_isSafe_4 rfl hl (by decide) rfl (fun ls hl => ?_)
  refine lv_iload_n hx hb dX7_isSafe_5 rfl (lv_at hl 3 rfl) ?_
  refine lv_bipush (v := (6 : Int32)) hx hb dX7_isSafe_6 (by decide) ?_
  refine lv_ishr hx hb dX7_isSafe_8 ?_
  obtain ⟨v2, ev, hf⟩ := m_bndE hf
  refine m_top ev ?_
  clear ev
  refine lv_bipush (v := (63 : Int32)) hx hb dX7_isSafe_9 (by decide) ?_
  refine lv_iand hx hb dX7_isSafe_11 ?_
  obtain ⟨v3, ev, hf⟩ := m_bndE hf
  refine m_top ev ?_
  clear ev
  refine lv_istore (lv' := [(4, .int v3), (3, .int v1), (0, .ref (zh y x0)), (1, .ref (zh y x1)), (2, .int x2)]) hx hb dX7_isSafe_12 hl (by decide) rfl (fun ls hl => ?_)
  refine lv_aload_n hx hb dX7_isSafe_14 rfl (lv_at hl 3 rfl) ?_
  obtain ⟨ca, hf⟩ := m_chkE hf
  replace ca := z_in hM (by decide) ca
  refine z_get (k := 0) (j := 3) (C := RX0) (T := TX0) (N := 7) (fl := zf_0) (v := .int (zI S 3 x1)) X hw_X7_isSafe_0 hM rfl zc_0 ca (by decide) fl_X7_isSafe_0_3 rfl dX7_isSafe_15 ?_
  clear ca
  refine lv_istore (lv' := [(5, .int (zI S 3 x1)), (4, .int v3), (3, .int v1), (0, .ref (zh y x0)), (1, .ref (zh y x1)), (2, .int x2)]) hx hb dX7_isSafe_18 hl (by decide) rfl (fun ls hl => ?_)
  refine lv_aload_n hx hb dX7_isSafe_20 rfl (lv_at hl 4 rfl) ?_
  refine lv_iload_n hx hb dX7_isSafe_21 rfl (lv_at hl 2 rfl) ?_
  refine lv_iload hx hb dX7_isSafe_22 (lv_at hl 1 rfl) ?_
  obtain ⟨ca, hf⟩ := m_chkE hf
  replace ca := z_in hM (by decide) ca
  obtain ⟨o4, ho, hf⟩ := m_calE hf
  refine z_callVi (k := 0) (C := RX0) (T := TX0) (N := 7) (fl := zf_0) X hM rfl zc_0 ca (c_X0_castles ho) gX7_isSafe_X0_castles rfl ⟨rfl, rfl⟩ hd_X0_castles ⟨Nat.le_of_ble_eq_true rfl, Nat.le_of_ble_eq_true rfl⟩ rfl hl.1 rfl (Nat.le_of_ble_eq_true rfl) dX7_isSafe_24 (fun H locs hM => ?_)
  clear ho
  refine lv_if_eq (tgt := 61) hx hb dX7_isSafe_27 (by decide) (fun cc1 => ?_) (fun cc1 => ?_)
  · replace hf := m_ifT hf cc1
    exact w_X7_isSafe_61 (x0 := x0) (x1 := x1) (x2 := x2) (x5 := (zI S 3 x1)) X hret hf hM (lv_sub hl [3, 4, 5, 0] rfl)
  · replace hf := m_ifF hf cc1
    refine lv_aload_n hx hb dX7_isSafe_30 rfl (lv_at hl 4 rfl) ?_
    refine lv_iload_n hx hb dX7_isSafe_31 rfl (lv_at hl 2 rfl) ?_
    refine lv_iconst (v := (1 : Int32)) hx hb dX7_isSafe_32 (by decide) ?_
    refine lv_iload hx hb dX7_isSafe_33 (lv_at hl 0 rfl) ?_
    refine lv_isub hx hb dX7_isSafe_35 ?_
    obtain ⟨v5, ev, hf⟩ := m_bndE hf
    refine m_top ev ?_
    clear ev
    obtain ⟨ca, hf⟩ := m_chkE hf
    replace ca := z_in hM (by decide) ca
    obtain ⟨o6, ho, hf⟩ := m_calE hf
    refine z_callVi (k := 0) (C := RX0) (T := TX0) (N := 7) (fl := zf_0) X hM rfl zc_0 ca (c_X0_attacked ho) gX7_isSafe_X0_attacked rfl ⟨rfl, rfl⟩ hd_X0_attacked ⟨Nat.le_of_ble_eq_true rfl, Nat.le_of_ble_eq_true rfl⟩ rfl hl.1 rfl (Nat.le_of_ble_eq_true rfl) dX7_isSafe_36 (fun H locs hM => ?_)
    clear ho
    refine lv_if_ne (tgt := 59) hx hb dX7_isSafe_39 (by decide) (fun cc1 => ?_) (fun cc1 => ?_)
    · replace hf := m_ifF hf cc1
      exact w_X7_isSafe_59 X hret hf hM (lv_sub hl [] rfl)
    · replace hf := m_ifT hf cc1
      refine lv_aload_n hx hb dX7_isSafe_42 rfl (lv_at hl 4 rfl) ?_
      refine lv_iload_n hx hb dX7_isSafe_43 rfl (lv_at hl 2 rfl) ?_
      refine lv_iload hx hb dX7_isSafe_44 (lv_at hl 1 rfl) ?_
      refine lv_iadd hx hb dX7_isSafe_46 ?_
      obtain ⟨v7, ev, hf⟩ := m_bndE hf
      refine m_top ev ?_
      clear ev
      refine lv_iconst (v := (2 : Int32)) hx hb dX7_isSafe_47 (by decide) ?_
      refine lv_idiv hx hb dX7_isSafe_48 (by decide) ?_
      obtain ⟨v8, ev, hf⟩ := m_bndE hf
      refine m_top ev ?_
      clear ev
      refine lv_iconst (v := (1 : Int32)) hx hb dX7_isSafe_49 (by decide) ?_
      refine lv_iload hx hb dX7_isSafe_50 (lv_at hl 0 rfl) ?_
      refine lv_isub hx hb dX7_isSafe_52 ?_
      obtain ⟨v9, ev, hf⟩ := m_bndE hf
      refine m_top ev ?_
      clear ev
      obtain ⟨ca, hf⟩ := m_chkE hf
      replace ca := z_in hM (by decide) ca
      obtain ⟨o10, ho, hf⟩ := m_calE hf
      refine z_callVi (k := 0) (C := RX0) (T := TX0) (N := 7) (fl := zf_0) X hM rfl zc_0 ca (c_X0_attacked ho) gX7_isSafe_X0_attacked rfl ⟨rfl, rfl⟩ hd_X0_attacked ⟨Nat.le_of_ble_eq_true rfl, Nat.le_of_ble_eq_true rfl⟩ rfl hl.1 rfl (Nat.le_of_ble_eq_true rfl) dX7_isSafe_53 (fun H locs hM => ?_)
      clear ho
      refine lv_if_eq (tgt := 61) hx hb dX7_isSafe_56 (by decide) (fun cc1 => ?_) (fun cc1 => ?_)
      · replace hf := m_ifT hf cc1
        exact w_X7_isSafe_61 (x0 := x0) (x1 := x1) (x2 := x2) (x5 := (zI S 3 x1)) X hret hf hM (lv_sub hl [3, 4, 5, 0] rfl)
      · replace hf := m_ifF hf cc1
        exact w_X7_isSafe_59 X hret hf hM (lv_sub hl [] rfl)
noncomputable def f_X7_isSafe (x0 : Nat) (x1 : Nat) (x2 : Int32) (S : ZS) : Option (Int32 × ZS) := f_X7_isSafe_0 x0 x1 x2 S
theorem c_X7_isSafe {l : Launch} {D : va_G} {y : Nat → ClassId} {x0 : Nat} {x1 : Nat} {x2 : Int32} {S : ZS} {o : Int32 × ZS} (hf : f_X7_isSafe x0 x1 x2 S = some o) : zMi l yX7_isSafe wsX7_isSafe ({ frames := 2, cells := 0, slots := 0, locals := 81 } : Room) [.ref (zh y x0), .ref (zh y x1), .int x2] D y S o :=
  z_entryI (own := RX7) (cc := cX7_isSafe) (maxL := 6) (by decide) rfl rfl (Nat.le_of_ble_eq_true rfl) (fun p e s m args below meth c A0 Q H locs ls X hret hM hl => w_X7_isSafe_0 X hret hf hM (lv_sub hl [0, 1, 2] rfl))
theorem hd_X8_gather : yX8_gather.cls = RX8 ∧ yX8_gather.cls ≠ "java/lang/invoke/MethodHandle" ∧ yX8_gather.cls ≠ "java/lang/invoke/VarHandle" ∧ (parseMethodDescriptor yX8_gather.desc).map (fun d => d.parameters.length) = some 1 := by decide +kernel
theorem fl_X8_gather_0_3 : Cond.fieldLink RX8 120 "MoveTexts$Board" "side" "I" ∈ wsX8_gather := by decide +kernel
theorem fl_X8_gather_8_0 : Cond.fieldLink RX8 12 "MoveTexts$SignReader" "rules" "LMoveTexts$Rules;" ∈ wsX8_gather := by decide +kernel
theorem fl_X8_gather_8_10 : Cond.fieldLink RX8 25 "MoveTexts$SignReader" "fitting" "[I" ∈ wsX8_gather := by decide +kernel
theorem fl_X8_gather_8_11 : Cond.fieldLink RX8 41 "MoveTexts$SignReader" "fits" "I" ∈ wsX8_gather := by decide +kernel
theorem fl_X8_gather_8_2 : Cond.fieldLink RX8 86 "MoveTexts$SignReader" "castling" "I" ∈ wsX8_gather := by decide +kernel
theorem fl_X8_gather_8_6 : Cond.fieldLink RX8 100 "MoveTexts$SignReader" "to" "I" ∈ wsX8_gather := by decide +kernel
theorem fl_X8_gather_8_7 : Cond.fieldLink RX8 75 "MoveTexts$SignReader" "becomes" "I" ∈ wsX8_gather := by decide +kernel
theorem hw_X8_gather_0 : ∀ w ∈ wsX00, w ∈ wsX8_gather := by decide +kernel
theorem hw_X8_gather_8 : ∀ w ∈ wsX80, w ∈ wsX8_gather := by decide +kernel
noncomputable def f_X8_gather_155 (self38 : Nat → Nat → Int32 → Int32 → ZS → Option (Int32 × ZS)) (x0 : Nat) (x1 : Nat) (x2 : Int32) (x3 : Int32) (S : ZS) : Option (Int32 × ZS) :=
  m_bnd (x3 + (1 : Int32)) (fun v1 =>
  self38 x0 x1 x2 v1 S)

set_option maxRecDepth 100000 in
set_option maxHeartbeats 4000000 in
theorem w_X8_gather_155 {p : Program} {l : Launch} {e : Env} {s : State} {m : MethodId} {args : Array Value} {below : List Frame} {meth : Method} {c : Code} {Q : State → Prop} {D : va_G} {y : Nat → ClassId} {A0 : Nat → Prop} {o : Int32 × ZS} (X : CallFix p m c cX8_gather 6 s args wsX8_gather RX8) (hret : zRv p l e ({ frames := 3, cells := 0, slots := 0, locals := 106 } : Room) s m args below meth c Q cX8_gather D y A0 o) {self38 : Nat → Nat → Int32 → Int32 → ZS → Option (Int32 × ZS)} (hself38 : ∀ (x0 : Nat) (x1 : Nat) (x2 : Int32) (x3 : Int32) (S : ZS) (H : Heap) (locs : List Loc) (ls : Array Slot), self38 x0 x1 x2 x3 S = some o → zH D y A0 s H locs S → lv_has ls 6 [(0, .ref (zh y x0)), (1, .ref (zh y x1)), (2, .int x2), (3, .int x3)] → W p l e ({ frames := 3, cells := 0, slots := 0, locals := 106 } : Room) s m args below meth c H locs 0 0 Q (F0 m 38 ls [])) {x0 : Nat} {x1 : Nat} {x2 : Int32} {x3 : Int32} {S : ZS} {H : Heap} {locs : List Loc} {ls : Array Slot} (hf : f_X8_gather_155 self38 x0 x1 x2 x3 S = some o) (hM : zH D y A0 s H locs S) (hl : lv_has ls 6 [(0, .ref (zh y x0)), (1, .ref (zh y x1)), (2, .int x2), (3, .int x3)]) : W p l e ({ frames := 3, cells := 0, slots := 0, locals := 106 } : Room) s m args below meth c H locs 0 0 Q (F0 m 155 ls []) := by
  obtain ⟨hx, hb, hml, hown, hts⟩ := id X
  unfold f_X8_gather_155 at hf
  obtain ⟨v1, ev, hf⟩ := m_bndE hf
  refine lv_iinc (v := v1) (lv' := [(3, .int v1), (0, .ref (zh y x0)), (1, .ref (zh y x1)), (2, .int x2)]) hx hb dX8_gather_155 hl (k := 3) rfl (by rw [ev]; rfl) (by decide) rfl (fun ls hl => ?_)
  clear ev
  refine lv_goto (tgt := 38) hx hb dX8_gather_158 (by decide) ?_
  exact hself38 x0 x1 x2 v1 _ _ _ _ hf hM (lv_sub hl [1, 2, 3, 0] rfl)
noncomputable def f_X8_gather_82 (self38 : Nat → Nat → Int32 → Int32 → ZS → Option (Int32 × ZS)) (x0 : Nat) (x1 : Nat) (x2 : Int32) (x3 : Int32) (t0 : Int32) (S : ZS) : Option (Int32 × ZS) :=
  m_chk (zK S x0 = 8) (
  m_bnd ((64 : Int32) * (zI S 6 x0)) (fun v1 =>
  m_bnd (x3 + v1) (fun v2 =>
  m_chk (zK S x0 = 8) (
  m_bnd ((4096 : Int32) * (zI S 7 x0)) (fun v3 =>
  m_bnd (v2 + v3) (fun v4 =>
  m_if (t0 = 0) (
  f_X8_gather_155 self38 x0 x1 x2 x3 S
  ) (
  m_chk (zK S x0 = 8) (
  m_chk (zK S x1 = 0) (
  m_cal (f_X0_reaches x1 x3 (zI S 6 x0) S) (fun o5 =>
  m_if (o5.1 = 0) (
  f_X8_gather_155 self38 x0 x1 x2 x3 o5.2
  ) (
  m_chk (zK o5.2 x0 = 8) (
  m_cal (zP o5.2 0 x0) (fun b6 =>
  m_chk (zK o5.2 b6 = 7) (
  m_cal (f_X7_isSafe b6 x1 v4 o5.2) (fun o7 =>
  m_if (o7.1 = 0) (
  f_X8_gather_155 self38 x0 x1 x2 x3 o7.2
  ) (
  m_chk (zK o7.2 x0 = 8) (
  m_cal (zP o7.2 10 x0) (fun b8 =>
  m_chk (zK o7.2 x0 = 8) (
  m_chk (zK o7.2 b8 = 14) (
  m_chk (¬ ((zI o7.2 11 x0) < 0 ∨ zN o7.2 b8 ≤ ((zI o7.2 11 x0)).toNatClampNeg)) (
  m_bnd (zsA o7.2 b8 ((zI o7.2 11 x0)).toNatClampNeg v4) (fun S9 =>
  m_chk (zK S9 x0 = 8) (
  m_bnd ((zI S9 11 x0) + (1 : Int32)) (fun v10 =>
  m_chk (zK S9 x0 = 8) (
  m_bnd (zsI S9 11 x0 v10) (fun S11 =>
  f_X8_gather_155 self38 x0 x1 x2 x3 S11))))))))))
  )))))
  ))))
  )))))))

set_option maxRecDepth 100000 in
set_option maxHeartbeats 4000000 in
theorem w_X8_gather_82 {p : Program} {l : Launch} {e : Env} {s : State} {m : MethodId} {args : Array Value} {below : List Frame} {meth : Method} {c : Code} {Q : State → Prop} {D : va_G} {y : Nat → ClassId} {A0 : Nat → Prop} {o : Int32 × ZS} (X : CallFix p m c cX8_gather 6 s args wsX8_gather RX8) (hret : zRv p l e ({ frames := 3, cells := 0, slots := 0, locals := 106 } : Room) s m args below meth c Q cX8_gather D y A0 o) {self38 : Nat → Nat → Int32 → Int32 → ZS → Option (Int32 × ZS)} (hself38 : ∀ (x0 : Nat) (x1 : Nat) (x2 : Int32) (x3 : Int32) (S : ZS) (H : Heap) (locs : List Loc) (ls : Array Slot), self38 x0 x1 x2 x3 S = some o → zH D y A0 s H locs S → lv_has ls 6 [(0, .ref (zh y x0)), (1, .ref (zh y x1)), (2, .int x2), (3, .int x3)] → W p l e ({ frames := 3, cells := 0, slots := 0, locals := 106 } : Room) s m args below meth c H locs 0 0 Q (F0 m 38 ls [])) {x0 : Nat} {x1 : Nat} {x2 : Int32} {x3 : Int32} {t0 : Int32} {S : ZS} {H : Heap} {locs : List Loc} {ls : Array Slot} (hf : f_X8_gather_82 self38 x0 x1 x2 x3 t0 S = some o) (hM : zH D y A0 s H locs S) (hl : lv_has ls 6 [(0, .ref (zh y x0)), (1, .ref (zh y x1)), (2, .int x2), (3, .int x3)]) : W p l e ({ frames := 3, cells := 0, slots := 0, locals := 106 } : Room) s m args below meth c H locs 0 0 Q (F0 m 82 ls [.int t0]) := by
  obtain ⟨hx, hb, hml, hown, hts⟩ := id X
  unfold f_X8_gather_82 at hf
  refine lv_istore (lv' := [(4, .int t0), (0, .ref (zh y x0)), (1, .ref (zh y x1)), (2, .int x2), (3, .int x3)]) hx hb dX8_gather_82 hl (by decide) rfl (fun ls hl => ?_)
  refine lv_iload_n hx hb dX8_gather_84 rfl (lv_at hl 4 rfl) ?_
  refine lv_bipush (v := (64 : Int32)) hx hb dX8_gather_85 (by decide) ?_
  refine lv_aload_n hx hb dX8_gather_87 rfl (lv_at hl 1 rfl) ?_
  obtain ⟨ca, hf⟩ := m_chkE hf
  replace ca := z_in hM (by decide) ca
  refine z_get (k := 8) (j := 6) (C := RX8) (T := TX8) (N := 12) (fl := zf_8) (v := .int (zI S 6 x0)) X hw_X8_gather_8 hM rfl zc_8 ca (by decide) fl_X8_gather_8_6 rfl dX8_gather_88 ?_
  clear ca
  refine lv_imul hx hb dX8_gather_91 ?_
  obtain ⟨v1, ev, hf⟩ := m_bndE hf
  refine m_top ev ?_
  clear ev
  refine lv_iadd hx hb dX8_gather_92 ?_
  obtain ⟨v2, ev, hf⟩ := m_bndE hf
  refine m_top ev ?_
  clear ev
  refine lv_sipush (v := (4096 : Int32)) hx hb dX8_gather_93 (by decide) ?_
  refine lv_aload_n hx hb dX8_gather_96 rfl (lv_at hl 1 rfl) ?_
  obtain ⟨ca, hf⟩ := m_chkE hf
  replace ca := z_in hM (by decide) ca
  refine z_get (k := 8) (j := 7) (C := RX8) (T := TX8) (N := 12) (fl := zf_8) (v := .int (zI S 7 x0)) X hw_X8_gather_8 hM rfl zc_8 ca (by decide) fl_X8_gather_8_7 rfl dX8_gather_97 ?_
  clear ca
  refine lv_imul hx hb dX8_gather_100 ?_
  obtain ⟨v3, ev, hf⟩ := m_bndE hf
  refine m_top ev ?_
  clear ev
  refine lv_iadd hx hb dX8_gather_101 ?_
  obtain ⟨v4, ev, hf⟩ := m_bndE hf
  refine m_top ev ?_
  clear ev
  refine lv_istore (lv' := [(5, .int v4), (4, .int t0), (0, .ref (zh y x0)), (1, .ref (zh y x1)), (2, .int x2), (3, .int x3)]) hx hb dX8_gather_102 hl (by decide) rfl (fun ls hl => ?_)
  refine lv_iload hx hb dX8_gather_104 (lv_at hl 1 rfl) ?_
  refine lv_if_eq (tgt := 155) hx hb dX8_gather_106 (by decide) (fun cc1 => ?_) (fun cc1 => ?_)
  · replace hf := m_ifT hf cc1
    exact w_X8_gather_155 (x0 := x0) (x1 := x1) (x2 := x2) (x3 := x3) X hret hself38 hf hM (lv_sub hl [2, 3, 4, 5] rfl)
  · replace hf := m_ifF hf cc1
    refine lv_aload_n hx hb dX8_gather_109 rfl (lv_at hl 3 rfl) ?_
    refine lv_iload_n hx hb dX8_gather_110 rfl (lv_at hl 5 rfl) ?_
    refine lv_aload_n hx hb dX8_gather_111 rfl (lv_at hl 2 rfl) ?_
    obtain ⟨ca, hf⟩ := m_chkE hf
    replace ca := z_in hM (by decide) ca
    refine z_get (k := 8) (j := 6) (C := RX8) (T := TX8) (N := 12) (fl := zf_8) (v := .int (zI S 6 x0)) X hw_X8_gather_8 hM rfl zc_8 ca (by decide) fl_X8_gather_8_6 rfl dX8_gather_112 ?_
    clear ca
    obtain ⟨ca, hf⟩ := m_chkE hf
    replace ca := z_in hM (by decide) ca
    obtain ⟨o5, ho, hf⟩ := m_calE hf
    refine z_callVi (k := 0) (C := RX0) (T := TX0) (N := 7) (fl := zf_0) X hM rfl zc_0 ca (c_X0_reaches ho) gX8_gather_X0_reaches rfl ⟨rfl, rfl⟩ hd_X0_reaches ⟨Nat.le_of_ble_eq_true rfl, Nat.le_of_ble_eq_true rfl⟩ rfl hl.1 rfl (Nat.le_of_ble_eq_true rfl) dX8_gather_115 (fun H locs hM => ?_)
    clear ho
    refine lv_if_eq (tgt := 155) hx hb dX8_gather_118 (by decide) (fun cc1 => ?_) (fun cc1 => ?_)
    · replace hf := m_ifT hf cc1
      exact w_X8_gather_155 (x0 := x0) (x1 := x1) (x2 := x2) (x3 := x3) X hret hself38 hf hM (lv_sub hl [2, 3, 4, 5] rfl)
    · replace hf := m_ifF hf cc1
      refine lv_aload_n hx hb dX8_gather_121 rfl (lv_at hl 2 rfl) ?_
      obtain ⟨ca, hf⟩ := m_chkE hf
      replace ca := z_in hM (by decide) ca
      refine z_get (k := 8) (j := 0) (C := RX8) (T := TX8) (N := 12) (fl := zf_8) (v := va_rf ((zP o5.2 0 x0).map (zh y))) X hw_X8_gather_8 hM rfl zc_8 ca (by decide) fl_X8_gather_8_0 rfl dX8_gather_122 ?_
      clear ca
      obtain ⟨b6, hb9, hf⟩ := m_calE hf
      refine z_topr hb9 ?_
      clear hb9
      refine lv_aload_n hx hb dX8_gather_125 rfl (lv_at hl 3 rfl) ?_
      refine lv_iload hx hb dX8_gather_126 (lv_at hl 0 rfl) ?_
      obtain ⟨ca, hf⟩ := m_chkE hf
      replace ca := z_in hM (by decide) ca
      obtain ⟨o7, ho, hf⟩ := m_calE hf
      refine z_callVi (k := 7) (C := RX7) (T := TX7) (N := 2) (fl := zf_7) X hM rfl zc_7 ca (c_X7_isSafe ho) gX8_gather_X7_isSafe rfl ⟨rfl, rfl⟩ hd_X7_isSafe ⟨Nat.le_of_ble_eq_true rfl, Nat.le_of_ble_eq_true rfl⟩ rfl hl.1 rfl (Nat.le_of_ble_eq_true rfl) dX8_gather_128 (fun H locs hM => ?_)
      clear ho
      refine lv_if_eq (tgt := 155) hx hb dX8_gather_131 (by decide) (fun cc1 => ?_) (fun cc1 => ?_)
      · replace hf := m_ifT hf cc1
        exact w_X8_gather_155 (x0 := x0) (x1 := x1) (x2 := x2) (x3 := x3) X hret hself38 hf hM (lv_sub hl [2, 3, 4, 5] rfl)
      · replace hf := m_ifF hf cc1
        refine lv_aload_n hx hb dX8_gather_134 rfl (lv_at hl 2 rfl) ?_
        obtain ⟨ca, hf⟩ := m_chkE hf
        replace ca := z_in hM (by decide) ca
        refine z_get (k := 8) (j := 10) (C := RX8) (T := TX8) (N := 12) (fl := zf_8) (v := va_rf ((zP o7.2 10 x0).map (zh y))) X hw_X8_gather_8 hM rfl zc_8 ca (by decide) fl_X8_gather_8_10 rfl dX8_gather_135 ?_
        clear ca
        obtain ⟨b8, hb9, hf⟩ := m_calE hf
        refine z_topr hb9 ?_
        clear hb9
        refine lv_aload_n hx hb dX8_gather_138 rfl (lv_at hl 2 rfl) ?_
        obtain ⟨ca, hf⟩ := m_chkE hf
        replace ca := z_in hM (by decide) ca
        refine z_get (k := 8) (j := 11) (C := RX8) (T := TX8) (N := 12) (fl := zf_8) (v := .int (zI o7.2 11 x0)) X hw_X8_gather_8 hM rfl zc_8 ca (by decide) fl_X8_gather_8_11 rfl dX8_gather_139 ?_
        clear ca
        refine lv_iload hx hb dX8_gather_142 (lv_at hl 0 rfl) ?_
        obtain ⟨ca, hf⟩ := m_chkE hf
        replace ca := z_in hM (by decide) ca
        obtain ⟨cd, hf⟩ := m_chkE hf
        refine z_iast X hM ca cd dX8_gather_144 (fun H locs hM => ?_)
        clear ca cd
        obtain ⟨S9, ev, hf⟩ := m_bndE hf
        replace hM := z_hS hM ev
        clear ev
        refine lv_aload_n hx hb dX8_gather_145 rfl (lv_at hl 2 rfl) ?_
        refine lv_dup hx hb dX8_gather_146 rfl ?_
        obtain ⟨ca, hf⟩ := m_chkE hf
        replace ca := z_in hM (by decide) ca
        refine z_get (k := 8) (j := 11) (C := RX8) (T := TX8) (N := 12) (fl := zf_8) (v := .int (zI S9 11 x0)) X hw_X8_gather_8 hM rfl zc_8 ca (by decide) fl_X8_gather_8_11 rfl dX8_gather_147 ?_
        clear ca
        refine lv_iconst (v := (1 : Int32)) hx hb dX8_gather_150 (by decide) ?_
        refine lv_iadd hx hb dX8_gather_151 ?_
        obtain ⟨v10, ev, hf⟩ := m_bndE hf
        refine m_top ev ?_
        clear ev
        obtain ⟨ca, hf⟩ := m_chkE hf
        replace ca := z_in hM (by decide) ca
        refine z_putI (k := 8) (j := 11) (C := RX8) (T := TX8) (N := 12) (fl := zf_8) (ty := .int) X hw_X8_gather_8 tyX8_ok nmX8 hM rfl zc_8 ca (by decide) fl_X8_gather_8_11 rfl (tyX8_ok 11 (by decide)) rfl rfl zi_8_11 (Nat.le_of_ble_eq_true rfl) dX8_gather_152 (fun H locs hM => ?_)
        clear ca
        obtain ⟨S11, ev, hf⟩ := m_bndE hf
        replace hM := z_hS hM ev
        clear ev
        exact w_X8_gather_155 (x0 := x0) (x1 := x1) (x2 := x2) (x3 := x3) X hret hself38 hf hM (lv_sub hl [2, 3, 4, 5] rfl)
noncomputable def f_X8_gather_72 (self38 : Nat → Nat → Int32 → Int32 → ZS → Option (Int32 × ZS)) (x0 : Nat) (x1 : Nat) (x2 : Int32) (x3 : Int32) (S : ZS) : Option (Int32 × ZS) :=
  f_X8_gather_82 self38 x0 x1 x2 x3 (0 : Int32) S

set_option maxRecDepth 100000 in
set_option maxHeartbeats 4000000 in
theorem w_X8_gather_72 {p : Program} {l : Launch} {e : Env} {s : State} {m : MethodId} {args : Array Value} {below : List Frame} {meth : Method} {c : Code} {Q : State → Prop} {D : va_G} {y : Nat → ClassId} {A0 : Nat → Prop} {o : Int32 × ZS} (X : CallFix p m c cX8_gather 6 s args wsX8_gather RX8) (hret : zRv p l e ({ frames := 3, cells := 0, slots := 0, locals := 106 } : Room) s m args below meth c Q cX8_gather D y A0 o) {self38 : Nat → Nat → Int32 → Int32 → ZS → Option (Int32 × ZS)} (hself38 : ∀ (x0 : Nat) (x1 : Nat) (x2 : Int32) (x3 : Int32) (S : ZS) (H : Heap) (locs : List Loc) (ls : Array Slot), self38 x0 x1 x2 x3 S = some o → zH D y A0 s H locs S → lv_has ls 6 [(0, .ref (zh y x0)), (1, .ref (zh y x1)), (2, .int x2), (3, .int x3)] → W p l e ({ frames := 3, cells := 0, slots := 0, locals := 106 } : Room) s m args below meth c H locs 0 0 Q (F0 m 38 ls [])) {x0 : Nat} {x1 : Nat} {x2 : Int32} {x3 : Int32} {S : ZS} {H : Heap} {locs : List Loc} {ls : Array Slot} (hf : f_X8_gather_72 self38 x0 x1 x2 x3 S = some o) (hM : zH D y A0 s H locs S) (hl : lv_has ls 6 [(0, .ref (zh y x0)), (1, .ref (zh y x1)), (2, .int x2), (3, .int x3)]) : W p l e ({ frames := 3, cells := 0, slots := 0, locals := 106 } : Room) s m args below meth c H locs 0 0 Q (F0 m 72 ls []) := by
  obtain ⟨hx, hb, hml, hown, hts⟩ := id X
  unfold f_X8_gather_72 at hf
  refine lv_iconst (v := (0 : Int32)) hx hb dX8_gather_72 (by decide) ?_
  refine lv_goto (tgt := 82) hx hb dX8_gather_73 (by decide) ?_
  exact w_X8_gather_82 (x0 := x0) (x1 := x1) (x2 := x2) (x3 := x3) (t0 := (0 : Int32)) X hret hself38 hf hM (lv_sub hl [0, 1, 2, 3] rfl)
noncomputable def f_X8_gather_38s (self38 : Nat → Nat → Int32 → Int32 → ZS → Option (Int32 × ZS)) (x0 : Nat) (x1 : Nat) (x2 : Int32) (x3 : Int32) (S : ZS) : Option (Int32 × ZS) :=
  m_if ((64 : Int32) ≤ x3) (
  some (0, S)
  ) (
  m_chk (zK S x0 = 8) (
  m_if ((zI S 2 x0) = 0) (
  m_chk (zK S x0 = 8) (
  m_cal (f_X8_fitsFrom x0 x1 x3 S) (fun o1 =>
  f_X8_gather_82 self38 x0 x1 x2 x3 o1.1 o1.2))
  ) (
  m_if (x3 = x2) (
  m_chk (zK S x0 = 8) (
  m_chk (zK S x1 = 0) (
  m_cal (f_X0_castles x1 x3 (zI S 6 x0) S) (fun o2 =>
  m_if (o2.1 = 0) (
  f_X8_gather_72 self38 x0 x1 x2 x3 o2.2
  ) (
  f_X8_gather_82 self38 x0 x1 x2 x3 (1 : Int32) o2.2
  ))))
  ) (
  f_X8_gather_72 self38 x0 x1 x2 x3 S
  )
  ))
  )

set_option maxRecDepth 100000 in
set_option maxHeartbeats 4000000 in
theorem ws_X8_gather_38 {p : Program} {l : Launch} {e : Env} {s : State} {m : MethodId} {args : Array Value} {below : List Frame} {meth : Method} {c : Code} {Q : State → Prop} {D : va_G} {y : Nat → ClassId} {A0 : Nat → Prop} {o : Int32 × ZS} (X : CallFix p m c cX8_gather 6 s args wsX8_gather RX8) (hret : zRv p l e ({ frames := 3, cells := 0, slots := 0, locals := 106 } : Room) s m args below meth c Q cX8_gather D y A0 o) {self38 : Nat → Nat → Int32 → Int32 → ZS → Option (Int32 × ZS)} (hself38 : ∀ (x0 : Nat) (x1 : Nat) (x2 : Int32) (x3 : Int32) (S : ZS) (H : Heap) (locs : List Loc) (ls : Array Slot), self38 x0 x1 x2 x3 S = some o → zH D y A0 s H locs S → lv_has ls 6 [(0, .ref (zh y x0)), (1, .ref (zh y x1)), (2, .int x2), (3, .int x3)] → W p l e ({ frames := 3, cells := 0, slots := 0, locals := 106 } : Room) s m args below meth c H locs 0 0 Q (F0 m 38 ls [])) {x0 : Nat} {x1 : Nat} {x2 : Int32} {x3 : Int32} {S : ZS} {H : Heap} {locs : List Loc} {ls : Array Slot} (hf : f_X8_gather_38s self38 x0 x1 x2 x3 S = some o) (hM : zH D y A0 s H locs S) (hl : lv_has ls 6 [(0, .ref (zh y x0)), (1, .ref (zh y x1)), (2, .int x2), (3, .int x3)]) : W p l e ({ frames := 3, cells := 0, slots := 0, locals := 106 } : Room) s m args below meth c H locs 0 0 Q (F0 m 38 ls []) := by
  obtain ⟨hx, hb, hml, hown, hts⟩ := id X
  unfold f_X8_gather_38s at hf
  refine lv_iload_n hx hb dX8_gather_38 rfl (lv_at hl 3 rfl) ?_
  refine lv_bipush (v := (64 : Int32)) hx hb dX8_gather_39 (by decide) ?_
  refine lv_icmp_ge (tgt := 161) hx hb dX8_gather_41 (by decide) (fun cc1 => ?_) (fun cc1 => ?_)
  · replace hf := m_ifT hf cc1
    cases hf
    exact hret H locs _ ls hM dX8_gather_161
  · replace hf := m_ifF hf cc1
    refine lv_aload_n hx hb dX8_gather_44 rfl (lv_at hl 0 rfl) ?_
    obtain ⟨ca, hf⟩ := m_chkE hf
    replace ca := z_in hM (by decide) ca
    refine z_get (k := 8) (j := 2) (C := RX8) (T := TX8) (N := 12) (fl := zf_8) (v := .int (zI S 2 x0)) X hw_X8_gather_8 hM rfl zc_8 ca (by decide) fl_X8_gather_8_2 rfl dX8_gather_45 ?_
    clear ca
    refine lv_if_eq (tgt := 76) hx hb dX8_gather_48 (by decide) (fun cc1 => ?_) (fun cc1 => ?_)
    · replace hf := m_ifT hf cc1
      refine lv_aload_n hx hb dX8_gather_76 rfl (lv_at hl 0 rfl) ?_
      refine lv_aload_n hx hb dX8_gather_77 rfl (lv_at hl 1 rfl) ?_
      refine lv_iload_n hx hb dX8_gather_78 rfl (lv_at hl 3 rfl) ?_
      obtain ⟨ca, hf⟩ := m_chkE hf
      replace ca := z_in hM (by decide) ca
      obtain ⟨o1, ho, hf⟩ := m_calE hf
      refine z_callVi (k := 8) (C := RX8) (T := TX8) (N := 12) (fl := zf_8) X hM rfl zc_8 ca (c_X8_fitsFrom ho) gX8_gather_X8_fitsFrom rfl ⟨rfl, rfl⟩ hd_X8_fitsFrom ⟨Nat.le_of_ble_eq_true rfl, Nat.le_of_ble_eq_true rfl⟩ rfl hl.1 rfl (Nat.le_of_ble_eq_true rfl) dX8_gather_79 (fun H locs hM => ?_)
      clear ho
      exact w_X8_gather_82 (x0 := x0) (x1 := x1) (x2 := x2) (x3 := x3) (t0 := o1.1) X hret hself38 hf hM (lv_sub hl [0, 1, 2, 3] rfl)
    · replace hf := m_ifF hf cc1
      refine lv_iload_n hx hb dX8_gather_51 rfl (lv_at hl 3 rfl) ?_
      refine lv_iload_n hx hb dX8_gather_52 rfl (lv_at hl 2 rfl) ?_
      refine lv_icmp_ne (tgt := 72) hx hb dX8_gather_53 (by decide) (fun cc1 => ?_) (fun cc1 => ?_)
      · replace hf := m_ifF hf cc1
        exact w_X8_gather_72 (x0 := x0) (x1 := x1) (x2 := x2) (x3 := x3) X hret hself38 hf hM (lv_sub hl [0, 1, 2, 3] rfl)
      · replace hf := m_ifT hf cc1
        refine lv_aload_n hx hb dX8_gather_56 rfl (lv_at hl 1 rfl) ?_
        refine lv_iload_n hx hb dX8_gather_57 rfl (lv_at hl 3 rfl) ?_
        refine lv_aload_n hx hb dX8_gather_58 rfl (lv_at hl 0 rfl) ?_
        obtain ⟨ca, hf⟩ := m_chkE hf
        replace ca := z_in hM (by decide) ca
        refine z_get (k := 8) (j := 6) (C := RX8) (T := TX8) (N := 12) (fl := zf_8) (v := .int (zI S 6 x0)) X hw_X8_gather_8 hM rfl zc_8 ca (by decide) fl_X8_gather_8_6 rfl dX8_gather_59 ?_
        clear ca
        obtain ⟨ca, hf⟩ := m_chkE hf
        replace ca := z_in hM (by decide) ca
        obtain ⟨o2, ho, hf⟩ := m_calE hf
        refine z_callVi (k := 0) (C := RX0) (T := TX0) (N := 7) (fl := zf_0) X hM rfl zc_0 ca (c_X0_castles ho) gX8_gather_X0_castles rfl ⟨rfl, rfl⟩ hd_X0_castles ⟨Nat.le_of_ble_eq_true rfl, Nat.le_of_ble_eq_true rfl⟩ rfl hl.1 rfl (Nat.le_of_ble_eq_true rfl) dX8_gather_62 (fun H locs hM => ?_)
        clear ho
        refine lv_if_eq (tgt := 72) hx hb dX8_gather_65 (by decide) (fun cc1 => ?_) (fun cc1 => ?_)
        · replace hf := m_ifT hf cc1
          exact w_X8_gather_72 (x0 := x0) (x1 := x1) (x2 := x2) (x3 := x3) X hret hself38 hf hM (lv_sub hl [0, 1, 2, 3] rfl)
        · replace hf := m_ifF hf cc1
          refine lv_iconst (v := (1 : Int32)) hx hb dX8_gather_68 (by decide) ?_
          refine lv_goto (tgt := 82) hx hb dX8_gather_69 (by decide) ?_
          exact w_X8_gather_82 (x0 := x0) (x1 := x1) (x2 := x2) (x3 := x3) (t0 := (1 : Int32)) X hret hself38 hf hM (lv_sub hl [0, 1, 2, 3] rfl)
noncomputable def f_X8_gather_38 : Nat → Nat → Nat → Int32 → Int32 → ZS → Option (Int32 × ZS)
  | 0 => fun _ _ _ _ _ => none
  | n + 1 => f_X8_gather_38s (f_X8_gather_38 n)
theorem w_X8_gather_38 {p : Program} {l : Launch} {e : Env} {s : State} {m : MethodId} {args : Array Value} {below : List Frame} {meth : Method} {c : Code} {Q : State → Prop} {D : va_G} {y : Nat → ClassId} {A0 : Nat → Prop} {o : Int32 × ZS} (X : CallFix p m c cX8_gather 6 s args wsX8_gather RX8) (hret : zRv p l e ({ frames := 3, cells := 0, slots := 0, locals := 106 } : Room) s m args below meth c Q cX8_gather D y A0 o) (n : Nat) : ∀ (x0 : Nat) (x1 : Nat) (x2 : Int32) (x3 : Int32) (S : ZS) (H : Heap) (locs : List Loc) (ls : Array Slot), f_X8_gather_38 n x0 x1 x2 x3 S = some o → zH D y A0 s H locs S → lv_has ls 6 [(0, .ref (zh y x0)), (1, .ref (zh y x1)), (2, .int x2), (3, .int x3)] → W p l e ({ frames := 3, cells := 0, slots := 0, locals := 106 } : Room) s m args below meth c H locs 0 0 Q (F0 m 38 ls []) := by
  induction n with
  | zero => intro x0 x1 x2 x3 S H locs ls hf; cases hf
  | succ n ih => intro x0 x1 x2 x3 S H locs ls hf hM hl; exact ws_X8_gather_38 X hret (self38 := f_X8_gather_38 n) ih hf hM hl
noncomputable def f_X8_gather_36 (x0 : Nat) (x1 : Nat) (x2 : Int32) (S : ZS) : Option (Int32 × ZS) :=
  f_X8_gather_38 mFuel x0 x1 x2 (0 : Int32) S

set_option maxRecDepth 100000 in
set_option maxHeartbeats 4000000 in
theorem w_X8_gather_36 {p : Program} {l : Launch} {e : Env} {s : State} {m : MethodId} {args : Array Value} {below : List Frame} {meth : Method} {c : Code} {Q : State → Prop} {D : va_G} {y : Nat → ClassId} {A0 : Nat → Prop} {o : Int32 × ZS} (X : CallFix p m c cX8_gather 6 s args wsX8_gather RX8) (hret : zRv p l e ({ frames := 3, cells := 0, slots := 0, locals := 106 } : Room) s m args below meth c Q cX8_gather D y A0 o) {x0 : Nat} {x1 : Nat} {x2 : Int32} {S : ZS} {H : Heap} {locs : List Loc} {ls : Array Slot} (hf : f_X8_gather_36 x0 x1 x2 S = some o) (hM : zH D y A0 s H locs S) (hl : lv_has ls 6 [(0, .ref (zh y x0)), (1, .ref (zh y x1)), (2, .int x2)]) : W p l e ({ frames := 3, cells := 0, slots := 0, locals := 106 } : Room) s m args below meth c H locs 0 0 Q (F0 m 36 ls []) := by
  obtain ⟨hx, hb, hml, hown, hts⟩ := id X
  unfold f_X8_gather_36 at hf
  refine lv_iconst (v := (0 : Int32)) hx hb dX8_gather_36 (by decide) ?_
  refine lv_istore_n (lv' := [(3, .int (0 : Int32)), (0, .ref (zh y x0)), (1, .ref (zh y x1)), (2, .int x2)]) hx hb dX8_gather_37 rfl hl (by decide) rfl (fun ls hl => ?_)
  exact w_X8_gather_38 X hret _ x0 x1 x2 (0 : Int32) _ _ _ _ hf hM (lv_sub hl [1, 2, 3, 0] rfl)
noncomputable def f_X8_gather_18 (x0 : Nat) (x1 : Nat) (t0 : Int32) (S : ZS) : Option (Int32 × ZS) :=
  m_chk (zK S x0 = 8) (
  m_if ((zI S 2 x0) = 0) (
  f_X8_gather_36 x0 x1 t0 S
  ) (
  m_chk (zK S x0 = 8) (
  m_bnd (t0 + (zI S 2 x0)) (fun v1 =>
  m_chk (zK S x0 = 8) (
  m_bnd (zsI S 6 x0 v1) (fun S2 =>
  f_X8_gather_36 x0 x1 t0 S2))))
  ))

set_option maxRecDepth 100000 in
set_option maxHeartbeats 4000000 in
theorem w_X8_gather_18 {p : Program} {l : Launch} {e : Env} {s : State} {m : MethodId} {args : Array Value} {below : List Frame} {meth : Method} {c : Code} {Q : State → Prop} {D : va_G} {y : Nat → ClassId} {A0 : Nat → Prop} {o : Int32 × ZS} (X : CallFix p m c cX8_gather 6 s args wsX8_gather RX8) (hret : zRv p l e ({ frames := 3, cells := 0, slots := 0, locals := 106 } : Room) s m args below meth c Q cX8_gather D y A0 o) {x0 : Nat} {x1 : Nat} {t0 : Int32} {S : ZS} {H : Heap} {locs : List Loc} {ls : Array Slot} (hf : f_X8_gather_18 x0 x1 t0 S = some o) (hM : zH D y A0 s H locs S) (hl : lv_has ls 6 [(0, .ref (zh y x0)), (1, .ref (zh y x1))]) : W p l e ({ frames := 3, cells := 0, slots := 0, locals := 106 } : Room) s m args below meth c H locs 0 0 Q (F0 m 18 ls [.int t0]) := by
  obtain ⟨hx, hb, hml, hown, hts⟩ := id X
  unfold f_X8_gather_18 at hf
  refine lv_istore_n (lv' := [(2, .int t0), (0, .ref (zh y x0)), (1, .ref (zh y x1))]) hx hb dX8_gather_18 rfl hl (by decide) rfl (fun ls hl => ?_)
  refine lv_aload_n hx hb dX8_gather_19 rfl (lv_at hl 1 rfl) ?_
  obtain ⟨ca, hf⟩ := m_chkE hf
  replace ca := z_in hM (by decide) ca
  refine z_get (k := 8) (j := 2) (C := RX8) (T := TX8) (N := 12) (fl := zf_8) (v := .int (zI S 2 x0)) X hw_X8_gather_8 hM rfl zc_8 ca (by decide) fl_X8_gather_8_2 rfl dX8_gather_20 ?_
  clear ca
  refine lv_if_eq (tgt := 36) hx hb dX8_gather_23 (by decide) (fun cc1 => ?_) (fun cc1 => ?_)
  · replace hf := m_ifT hf cc1
    exact w_X8_gather_36 (x0 := x0) (x1 := x1) (x2 := t0) X hret hf hM (lv_sub hl [1, 2, 0] rfl)
  · replace hf := m_ifF hf cc1
    refine lv_aload_n hx hb dX8_gather_26 rfl (lv_at hl 1 rfl) ?_
    refine lv_iload_n hx hb dX8_gather_27 rfl (lv_at hl 0 rfl) ?_
    refine lv_aload_n hx hb dX8_gather_28 rfl (lv_at hl 1 rfl) ?_
    obtain ⟨ca, hf⟩ := m_chkE hf
    replace ca := z_in hM (by decide) ca
    refine z_get (k := 8) (j := 2) (C := RX8) (T := TX8) (N := 12) (fl := zf_8) (v := .int (zI S 2 x0)) X hw_X8_gather_8 hM rfl zc_8 ca (by decide) fl_X8_gather_8_2 rfl dX8_gather_29 ?_
    clear ca
    refine lv_iadd hx hb dX8_gather_32 ?_
    obtain ⟨v1, ev, hf⟩ := m_bndE hf
    refine m_top ev ?_
    clear ev
    obtain ⟨ca, hf⟩ := m_chkE hf
    replace ca := z_in hM (by decide) ca
    refine z_putI (k := 8) (j := 6) (C := RX8) (T := TX8) (N := 12) (fl := zf_8) (ty := .int) X hw_X8_gather_8 tyX8_ok nmX8 hM rfl zc_8 ca (by decide) fl_X8_gather_8_6 rfl (tyX8_ok 6 (by decide)) rfl rfl zi_8_6 (Nat.le_of_ble_eq_true rfl) dX8_gather_33 (fun H locs hM => ?_)
    clear ca
    obtain ⟨S2, ev, hf⟩ := m_bndE hf
    replace hM := z_hS hM ev
    clear ev
    exact w_X8_gather_36 (x0 := x0) (x1 := x1) (x2 := t0) X hret hf hM (lv_sub hl [1, 2, 0] rfl)
noncomputable def f_X8_gather_0 (x0 : Nat) (x1 : Nat) (S : ZS) : Option (Int32 × ZS) :=
  m_chk (zK S x0 = 8) (
  m_bnd (zsI S 11 x0 (0 : Int32)) (fun S1 =>
  m_chk (zK S1 x1 = 0) (
  m_if ((zI S1 3 x1) = 0) (
  f_X8_gather_18 x0 x1 (4 : Int32) S1
  ) (
  f_X8_gather_18 x0 x1 (60 : Int32) S1
  ))))

set_option maxRecDepth 100000 in
set_option maxHeartbeats 4000000 in
theorem w_X8_gather_0 {p : Program} {l : Launch} {e : Env} {s : State} {m : MethodId} {args : Array Value} {below : List Frame} {meth : Method} {c : Code} {Q : State → Prop} {D : va_G} {y : Nat → ClassId} {A0 : Nat → Prop} {o : Int32 × ZS} (X : CallFix p m c cX8_gather 6 s args wsX8_gather RX8) (hret : zRv p l e ({ frames := 3, cells := 0, slots := 0, locals := 106 } : Room) s m args below meth c Q cX8_gather D y A0 o) {x0 : Nat} {x1 : Nat} {S : ZS} {H : Heap} {locs : List Loc} {ls : Array Slot} (hf : f_X8_gather_0 x0 x1 S = some o) (hM : zH D y A0 s H locs S) (hl : lv_has ls 6 [(0, .ref (zh y x0)), (1, .ref (zh y x1))]) : W p l e ({ frames := 3, cells := 0, slots := 0, locals := 106 } : Room) s m args below meth c H locs 0 0 Q (F0 m 0 ls []) := by
  obtain ⟨hx, hb, hml, hown, hts⟩ := id X
  unfold f_X8_gather_0 at hf
  refine lv_aload_n hx hb dX8_gather_0 rfl (lv_at hl 0 rfl) ?_
  refine lv_iconst (v := (0 : Int32)) hx hb dX8_gather_1 (by decide) ?_
  obtain ⟨ca, hf⟩ := m_chkE hf
  replace ca := z_in hM (by decide) ca
  refine z_putI (k := 8) (j := 11) (C := RX8) (T := TX8) (N := 12) (fl := zf_8) (ty := .int) X hw_X8_gather_8 tyX8_ok nmX8 hM rfl zc_8 ca (by decide) fl_X8_gather_8_11 rfl (tyX8_ok 11 (by decide)) rfl rfl zi_8_11 (Nat.le_of_ble_eq_true rfl) dX8_gather_2 (fun H locs hM => ?_)
  clear ca
  obtain ⟨S1, ev, hf⟩ := m_bndE hf
  replace hM := z_hS hM ev
  clear ev
  refine lv_aload_n hx hb dX8_gather_5 rfl (lv_at hl 1 rfl) ?_
  obtain ⟨ca, hf⟩ := m_chkE hf
  replace ca := z_in hM (by decide) ca
  refine z_get (k := 0) (j := 3) (C := RX0) (T := TX0) (N := 7) (fl := zf_0) (v := .int (zI S1 3 x1)) X hw_X8_gather_0 hM rfl zc_0 ca (by decide) fl_X8_gather_0_3 rfl dX8_gather_6 ?_
  clear ca
  refine lv_if_ne (tgt := 16) hx hb dX8_gather_9 (by decide) (fun cc1 => ?_) (fun cc1 => ?_)
  · replace hf := m_ifF hf cc1
    refine lv_bipush (v := (60 : Int32)) hx hb dX8_gather_16 (by decide) ?_
    exact w_X8_gather_18 (x0 := x0) (x1 := x1) (t0 := (60 : Int32)) X hret hf hM (lv_sub hl [0, 1] rfl)
  · replace hf := m_ifT hf cc1
    refine lv_iconst (v := (4 : Int32)) hx hb dX8_gather_12 (by decide) ?_
    refine lv_goto (tgt := 18) hx hb dX8_gather_13 (by decide) ?_
    exact w_X8_gather_18 (x0 := x0) (x1 := x1) (t0 := (4 : Int32)) X hret hf hM (lv_sub hl [0, 1] rfl)
noncomputable def f_X8_gather (x0 : Nat) (x1 : Nat) (S : ZS) : Option (Int32 × ZS) := f_X8_gather_0 x0 x1 S
theorem c_X8_gather {l : Launch} {D : va_G} {y : Nat → ClassId} {x0 : Nat} {x1 : Nat} {S : ZS} {o : Int32 × ZS} (hf : f_X8_gather x0 x1 S = some o) : zMv l yX8_gather wsX8_gather ({ frames := 3, cells := 0, slots := 0, locals := 106 } : Room) [.ref (zh y x0), .ref (zh y x1)] D y S o :=
  z_entryV (own := RX8) (cc := cX8_gather) (maxL := 6) (by decide) rfl rfl (Nat.le_of_ble_eq_true rfl) (fun p e s m args below meth c A0 Q H locs ls X hret hM hl => w_X8_gather_0 X hret hf hM (lv_sub hl [0, 1] rfl))
theorem hd_X7_checkSign : yX7_checkSign.cls = RX7 ∧ yX7_checkSign.cls ≠ "java/lang/invoke/MethodHandle" ∧ yX7_checkSign.cls ≠ "java/lang/invoke/VarHandle" ∧ (parseMethodDescriptor yX7_checkSign.desc).map (fun d => d.parameters.length) = some 2 := by decide +kernel
theorem fl_X7_checkSign_0_3 : Cond.fieldLink RX7 21 "MoveTexts$Board" "side" "I" ∈ wsX7_checkSign := by decide +kernel
theorem fl_X7_checkSign_7_1 : Cond.fieldLink RX7 18 "MoveTexts$Rules" "after" "LMoveTexts$Board;" ∈ wsX7_checkSign := by decide +kernel
theorem hw_X7_checkSign_0 : ∀ w ∈ wsX00, w ∈ wsX7_checkSign := by decide +kernel
theorem hw_X7_checkSign_7 : ∀ w ∈ wsX70, w ∈ wsX7_checkSign := by decide +kernel
noncomputable def f_X7_checkSign_103 (self53 : Nat → Int32 → ZS → Option (Int32 × ZS)) (self62 : Nat → Int32 → Int32 → ZS → Option (Int32 × ZS)) (x0 : Nat) (x3 : Int32) (x4 : Int32) (S : ZS) : Option (Int32 × ZS) :=
  m_bnd (x4 + (1 : Int32)) (fun v1 =>
  self62 x0 x3 v1 S)

set_option maxRecDepth 100000 in
set_option maxHeartbeats 4000000 in
theorem w_X7_checkSign_103 {p : Program} {l : Launch} {e : Env} {s : State} {m : MethodId} {args : Array Value} {below : List Frame} {meth : Method} {c : Code} {Q : State → Prop} {D : va_G} {y : Nat → ClassId} {A0 : Nat → Prop} {o : Int32 × ZS} (X : CallFix p m c cX7_checkSign 5 s args wsX7_checkSign RX7) (hret : zRi p l e ({ frames := 3, cells := 0, slots := 0, locals := 106 } : Room) s m args below meth c Q cX7_checkSign D y A0 .char o) {self53 : Nat → Int32 → ZS → Option (Int32 × ZS)} (hself53 : ∀ (x0 : Nat) (x3 : Int32) (S : ZS) (H : Heap) (locs : List Loc) (ls : Array Slot), self53 x0 x3 S = some o → zH D y A0 s H locs S → lv_has ls 5 [(0, .ref (zh y x0)), (3, .int x3)] → W p l e ({ frames := 3, cells := 0, slots := 0, locals := 106 } : Room) s m args below meth c H locs 0 0 Q (F0 m 53 ls [])) {self62 : Nat → Int32 → Int32 → ZS → Option (Int32 × ZS)} (hself62 : ∀ (x0 : Nat) (x3 : Int32) (x4 : Int32) (S : ZS) (H : Heap) (locs : List Loc) (ls : Array Slot), self62 x0 x3 x4 S = some o → zH D y A0 s H locs S → lv_has ls 5 [(0, .ref (zh y x0)), (3, .int x3), (4, .int x4)] → W p l e ({ frames := 3, cells := 0, slots := 0, locals := 106 } : Room) s m args below meth c H locs 0 0 Q (F0 m 62 ls [])) {x0 : Nat} {x3 : Int32} {x4 : Int32} {S : ZS} {H : Heap} {locs : List Loc} {ls : Array Slot} (hf : f_X7_checkSign_103 self53 self62 x0 x3 x4 S = some o) (hM : zH D y A0 s H locs S) (hl : lv_has ls 5 [(0, .ref (zh y x0)), (3, .int x3), (4, .int x4)]) : W p l e ({ frames := 3, cells := 0, slots := 0, locals := 106 } : Room) s m args below meth c H locs 0 0 Q (F0 m 103 ls []) := by
  obtain ⟨hx, hb, hml, hown, hts⟩ := id X
  unfold f_X7_checkSign_103 at hf
  obtain ⟨v1, ev, hf⟩ := m_bndE hf
  refine lv_iinc (v := v1) (lv' := [(4, .int v1), (0, .ref (zh y x0)), (3, .int x3)]) hx hb dX7_checkSign_103 hl (k := 2) rfl (by rw [ev]; rfl) (by decide) rfl (fun ls hl => ?_)
  clear ev
  refine lv_goto (tgt := 62) hx hb dX7_checkSign_106 (by decide) ?_
  exact hself62 x0 x3 v1 _ _ _ _ hf hM (lv_sub hl [1, 2, 0] rfl)
noncomputable def f_X7_checkSign_62s (self53 : Nat → Int32 → ZS → Option (Int32 × ZS)) (self62 : Nat → Int32 → Int32 → ZS → Option (Int32 × ZS)) (x0 : Nat) (x3 : Int32) (x4 : Int32) (S : ZS) : Option (Int32 × ZS) :=
  m_if ((64 : Int32) ≤ x4) (
  m_bnd (x3 + (1 : Int32)) (fun v1 =>
  self53 x0 v1 S)
  ) (
  m_chk (zK S x0 = 7) (
  m_cal (zP S 1 x0) (fun b2 =>
  m_chk (zK S b2 = 0) (
  m_cal (f_X0_reaches b2 x3 x4 S) (fun o3 =>
  m_if (o3.1 = 0) (
  f_X7_checkSign_103 self53 self62 x0 x3 x4 o3.2
  ) (
  m_chk (zK o3.2 x0 = 7) (
  m_cal (zP o3.2 1 x0) (fun b4 =>
  m_bnd ((64 : Int32) * x4) (fun v5 =>
  m_bnd (x3 + v5) (fun v6 =>
  m_chk (zK o3.2 x0 = 7) (
  m_cal (f_X7_isSafe x0 b4 v6 o3.2) (fun o7 =>
  m_if (o7.1 = 0) (
  f_X7_checkSign_103 self53 self62 x0 x3 x4 o7.2
  ) (
  m_chk (vp_nar .char (43 : Int32) = (43 : Int32)) (some ((43 : Int32), o7.2))
  )))))))
  )))))
  )

set_option maxRecDepth 100000 in
set_option maxHeartbeats 4000000 in
theorem ws_X7_checkSign_62 {p : Program} {l : Launch} {e : Env} {s : State} {m : MethodId} {args : Array Value} {below : List Frame} {meth : Method} {c : Code} {Q : State → Prop} {D : va_G} {y : Nat → ClassId} {A0 : Nat → Prop} {o : Int32 × ZS} (X : CallFix p m c cX7_checkSign 5 s args wsX7_checkSign RX7) (hret : zRi p l e ({ frames := 3, cells := 0, slots := 0, locals := 106 } : Room) s m args below meth c Q cX7_checkSign D y A0 .char o) {self53 : Nat → Int32 → ZS → Option (Int32 × ZS)} (hself53 : ∀ (x0 : Nat) (x3 : Int32) (S : ZS) (H : Heap) (locs : List Loc) (ls : Array Slot), self53 x0 x3 S = some o → zH D y A0 s H locs S → lv_has ls 5 [(0, .ref (zh y x0)), (3, .int x3)] → W p l e ({ frames := 3, cells := 0, slots := 0, locals := 106 } : Room) s m args below meth c H locs 0 0 Q (F0 m 53 ls [])) {self62 : Nat → Int32 → Int32 → ZS → Option (Int32 × ZS)} (hself62 : ∀ (x0 : Nat) (x3 : Int32) (x4 : Int32) (S : ZS) (H : Heap) (locs : List Loc) (ls : Array Slot), self62 x0 x3 x4 S = some o → zH D y A0 s H locs S → lv_has ls 5 [(0, .ref (zh y x0)), (3, .int x3), (4, .int x4)] → W p l e ({ frames := 3, cells := 0, slots := 0, locals := 106 } : Room) s m args below meth c H locs 0 0 Q (F0 m 62 ls [])) {x0 : Nat} {x3 : Int32} {x4 : Int32} {S : ZS} {H : Heap} {locs : List Loc} {ls : Array Slot} (hf : f_X7_checkSign_62s self53 self62 x0 x3 x4 S = some o) (hM : zH D y A0 s H locs S) (hl : lv_has ls 5 [(0, .ref (zh y x0)), (3, .int x3), (4, .int x4)]) : W p l e ({ frames := 3, cells := 0, slots := 0, locals := 106 } : Room) s m args below meth c H locs 0 0 Q (F0 m 62 ls []) := by
  obtain ⟨hx, hb, hml, hown, hts⟩ := id X
  unfold f_X7_checkSign_62s at hf
  refine lv_iload hx hb dX7_checkSign_62 (lv_at hl 2 rfl) ?_
  refine lv_bipush (v := (64 : Int32)) hx hb dX7_checkSign_64 (by decide) ?_
  refine lv_icmp_ge (tgt := 109) hx hb dX7_checkSign_66 (by decide) (fun cc1 => ?_) (fun cc1 => ?_)
  · replace hf := m_ifT hf cc1
    obtain ⟨v1, ev, hf⟩ := m_bndE hf
    refine lv_iinc (v := v1) (lv' := [(3, .int v1), (0, .ref (zh y x0)), (4, .int x4)]) hx hb dX7_checkSign_109 hl (k := 1) rfl (by rw [ev]; rfl) (by decide) rfl (fun ls hl => ?_)
    clear ev
    refine lv_goto (tgt := 53) hx hb dX7_checkSign_112 (by decide) ?_
    exact hself53 x0 v1 _ _ _ _ hf hM (lv_sub hl [1, 0] rfl)
  · replace hf := m_ifF hf cc1
    refine lv_aload_n hx hb dX7_checkSign_69 rfl (lv_at hl 0 rfl) ?_
    obtain ⟨ca, hf⟩ := m_chkE hf
    replace ca := z_in hM (by decide) ca
    refine z_get (k := 7) (j := 1) (C := RX7) (T := TX7) (N := 2) (fl := zf_7) (v := va_rf ((zP S 1 x0).map (zh y))) X hw_X7_checkSign_7 hM rfl zc_7 ca (by decide) fl_X7_checkSign_7_1 rfl dX7_checkSign_70 ?_
    clear ca
    obtain ⟨b2, hb9, hf⟩ := m_calE hf
    refine z_topr hb9 ?_
    clear hb9
    refine lv_iload_n hx hb dX7_checkSign_73 rfl (lv_at hl 1 rfl) ?_
    refine lv_iload hx hb dX7_checkSign_74 (lv_at hl 2 rfl) ?_
    obtain ⟨ca, hf⟩ := m_chkE hf
    replace ca := z_in hM (by decide) ca
    obtain ⟨o3, ho, hf⟩ := m_calE hf
    refine z_callVi (k := 0) (C := RX0) (T := TX0) (N := 7) (fl := zf_0) X hM rfl zc_0 ca (c_X0_reaches ho) gX7_checkSign_X0_reaches rfl ⟨rfl, rfl⟩ hd_X0_reaches ⟨Nat.le_of_ble_eq_true rfl, Nat.le_of_ble_eq_true rfl⟩ rfl hl.1 rfl (Nat.le_of_ble_eq_true rfl) dX7_checkSign_76 (fun H locs hM => ?_)
    clear ho
    refine lv_if_eq (tgt := 103) hx hb dX7_checkSign_79 (by decide) (fun cc1 => ?_) (fun cc1 => ?_)
    · replace hf := m_ifT hf cc1
      exact w_X7_checkSign_103 (x0 := x0) (x3 := x3) (x4 := x4) X hret hself53 hself62 hf hM (lv_sub hl [0, 1, 2] rfl)
    · replace hf := m_ifF hf cc1
      refine lv_aload_n hx hb dX7_checkSign_82 rfl (lv_at hl 0 rfl) ?_
      refine lv_aload_n hx hb dX7_checkSign_83 rfl (lv_at hl 0 rfl) ?_
      obtain ⟨ca, hf⟩ := m_chkE hf
      replace ca := z_in hM (by decide) ca
      refine z_get (k := 7) (j := 1) (C := RX7) (T := TX7) (N := 2) (fl := zf_7) (v := va_rf ((zP o3.2 1 x0).map (zh y))) X hw_X7_checkSign_7 hM rfl zc_7 ca (by decide) fl_X7_checkSign_7_1 rfl dX7_checkSign_84 ?_
      clear ca
      obtain ⟨b4, hb9, hf⟩ := m_calE hf
      refine z_topr hb9 ?_
      clear hb9
      refine lv_iload_n hx hb dX7_checkSign_87 rfl (lv_at hl 1 rfl) ?_
      refine lv_bipush (v := (64 : Int32)) hx hb dX7_checkSign_88 (by decide) ?_
      refine lv_iload hx hb dX7_checkSign_90 (lv_at hl 2 rfl) ?_
      refine lv_imul hx hb dX7_checkSign_92 ?_
      obtain ⟨v5, ev, hf⟩ := m_bndE hf
      refine m_top ev ?_
      clear ev
      refine lv_iadd hx hb dX7_checkSign_93 ?_
      obtain ⟨v6, ev, hf⟩ := m_bndE hf
      refine m_top ev ?_
      clear ev
      obtain ⟨ca, hf⟩ := m_chkE hf
      replace ca := z_in hM (by decide) ca
      obtain ⟨o7, ho, hf⟩ := m_calE hf
      refine z_callVi (k := 7) (C := RX7) (T := TX7) (N := 2) (fl := zf_7) X hM rfl zc_7 ca (c_X7_isSafe ho) gX7_checkSign_X7_isSafe rfl ⟨rfl, rfl⟩ hd_X7_isSafe ⟨Nat.le_of_ble_eq_true rfl, Nat.le_of_ble_eq_true rfl⟩ rfl hl.1 rfl (Nat.le_of_ble_eq_true rfl) dX7_checkSign_94 (fun H locs hM => ?_)
      clear ho
      refine lv_if_eq (tgt := 103) hx hb dX7_checkSign_97 (by decide) (fun cc1 => ?_) (fun cc1 => ?_)
      · replace hf := m_ifT hf cc1
        exact w_X7_checkSign_103 (x0 := x0) (x3 := x3) (x4 := x4) X hret hself53 hself62 hf hM (lv_sub hl [0, 1, 2] rfl)
      · replace hf := m_ifF hf cc1
        refine lv_bipush (v := (43 : Int32)) hx hb dX7_checkSign_100 (by decide) ?_
        obtain ⟨cd, hf⟩ := m_chkE hf
        cases hf
        exact hret H locs _ ls hM (m_nc cd) dX7_checkSign_102
noncomputable def f_X7_checkSign_62 (self53 : Nat → Int32 → ZS → Option (Int32 × ZS)) : Nat → Nat → Int32 → Int32 → ZS → Option (Int32 × ZS)
  | 0 => fun _ _ _ _ => none
  | n + 1 => f_X7_checkSign_62s self53 (f_X7_checkSign_62 self53 n)
theorem w_X7_checkSign_62 {p : Program} {l : Launch} {e : Env} {s : State} {m : MethodId} {args : Array Value} {below : List Frame} {meth : Method} {c : Code} {Q : State → Prop} {D : va_G} {y : Nat → ClassId} {A0 : Nat → Prop} {o : Int32 × ZS} (X : CallFix p m c cX7_checkSign 5 s args wsX7_checkSign RX7) (hret : zRi p l e ({ frames := 3, cells := 0, slots := 0, locals := 106 } : Room) s m args below meth c Q cX7_checkSign D y A0 .char o) {self53 : Nat → Int32 → ZS → Option (Int32 × ZS)} (hself53 : ∀ (x0 : Nat) (x3 : Int32) (S : ZS) (H : Heap) (locs : List Loc) (ls : Array Slot), self53 x0 x3 S = some o → zH D y A0 s H locs S → lv_has ls 5 [(0, .ref (zh y x0)), (3, .int x3)] → W p l e ({ frames := 3, cells := 0, slots := 0, locals := 106 } : Room) s m args below meth c H locs 0 0 Q (F0 m 53 ls [])) (n : Nat) : ∀ (x0 : Nat) (x3 : Int32) (x4 : Int32) (S : ZS) (H : Heap) (locs : List Loc) (ls : Array Slot), f_X7_checkSign_62 self53 n x0 x3 x4 S = some o → zH D y A0 s H locs S → lv_has ls 5 [(0, .ref (zh y x0)), (3, .int x3), (4, .int x4)] → W p l e ({ frames := 3, cells := 0, slots := 0, locals := 106 } : Room) s m args below meth c H locs 0 0 Q (F0 m 62 ls []) := by
  induction n with
  | zero => intro x0 x3 x4 S H locs ls hf; cases hf
  | succ n ih => intro x0 x3 x4 S H locs ls hf hM hl; exact ws_X7_checkSign_62 X hret hself53 (self62 := f_X7_checkSign_62 self53 n) ih hf hM hl
noncomputable def f_X7_checkSign_53s (self53 : Nat → Int32 → ZS → Option (Int32 × ZS)) (x0 : Nat) (x3 : Int32) (S : ZS) : Option (Int32 × ZS) :=
  m_if ((64 : Int32) ≤ x3) (
  m_chk (vp_nar .char (35 : Int32) = (35 : Int32)) (some ((35 : Int32), S))
  ) (
  f_X7_checkSign_62 self53 mFuel x0 x3 (0 : Int32) S
  )

set_option maxRecDepth 100000 in
set_option maxHeartbeats 4000000 in
theorem ws_X7_checkSign_53 {p : Program} {l : Launch} {e : Env} {s : State} {m : MethodId} {args : Array Value} {below : List Frame} {meth : Method} {c : Code} {Q : State → Prop} {D : va_G} {y : Nat → ClassId} {A0 : Nat → Prop} {o : Int32 × ZS} (X : CallFix p m c cX7_checkSign 5 s args wsX7_checkSign RX7) (hret : zRi p l e ({ frames := 3, cells := 0, slots := 0, locals := 106 } : Room) s m args below meth c Q cX7_checkSign D y A0 .char o) {self53 : Nat → Int32 → ZS → Option (Int32 × ZS)} (hself53 : ∀ (x0 : Nat) (x3 : Int32) (S : ZS) (H : Heap) (locs : List Loc) (ls : Array Slot), self53 x0 x3 S = some o → zH D y A0 s H locs S → lv_has ls 5 [(0, .ref (zh y x0)), (3, .int x3)] → W p l e ({ frames := 3, cells := 0, slots := 0, locals := 106 } : Room) s m args below meth c H locs 0 0 Q (F0 m 53 ls [])) {x0 : Nat} {x3 : Int32} {S : ZS} {H : Heap} {locs : List Loc} {ls : Array Slot} (hf : f_X7_checkSign_53s self53 x0 x3 S = some o) (hM : zH D y A0 s H locs S) (hl : lv_has ls 5 [(0, .ref (zh y x0)), (3, .int x3)]) : W p l e ({ frames := 3, cells := 0, slots := 0, locals := 106 } : Room) s m args below meth c H locs 0 0 Q (F0 m 53 ls []) := by
  obtain ⟨hx, hb, hml, hown, hts⟩ := id X
  unfold f_X7_checkSign_53s at hf
  refine lv_iload_n hx hb dX7_checkSign_53 rfl (lv_at hl 1 rfl) ?_
  refine lv_bipush (v := (64 : Int32)) hx hb dX7_checkSign_54 (by decide) ?_
  refine lv_icmp_ge (tgt := 115) hx hb dX7_checkSign_56 (by decide) (fun cc1 => ?_) (fun cc1 => ?_)
  · replace hf := m_ifT hf cc1
    refine lv_bipush (v := (35 : Int32)) hx hb dX7_checkSign_115 (by decide) ?_
    obtain ⟨cd, hf⟩ := m_chkE hf
    cases hf
    exact hret H locs _ ls hM (m_nc cd) dX7_checkSign_117
  · replace hf := m_ifF hf cc1
    refine lv_iconst (v := (0 : Int32)) hx hb dX7_checkSign_59 (by decide) ?_
    refine lv_istore (lv' := [(4, .int (0 : Int32)), (0, .ref (zh y x0)), (3, .int x3)]) hx hb dX7_checkSign_60 hl (by decide) rfl (fun ls hl => ?_)
    exact w_X7_checkSign_62 X hret hself53 _ x0 x3 (0 : Int32) _ _ _ _ hf hM (lv_sub hl [1, 2, 0] rfl)
noncomputable def f_X7_checkSign_53 : Nat → Nat → Int32 → ZS → Option (Int32 × ZS)
  | 0 => fun _ _ _ => none
  | n + 1 => f_X7_checkSign_53s (f_X7_checkSign_53 n)
theorem w_X7_checkSign_53 {p : Program} {l : Launch} {e : Env} {s : State} {m : MethodId} {args : Array Value} {below : List Frame} {meth : Method} {c : Code} {Q : State → Prop} {D : va_G} {y : Nat → ClassId} {A0 : Nat → Prop} {o : Int32 × ZS} (X : CallFix p m c cX7_checkSign 5 s args wsX7_checkSign RX7) (hret : zRi p l e ({ frames := 3, cells := 0, slots := 0, locals := 106 } : Room) s m args below meth c Q cX7_checkSign D y A0 .char o) (n : Nat) : ∀ (x0 : Nat) (x3 : Int32) (S : ZS) (H : Heap) (locs : List Loc) (ls : Array Slot), f_X7_checkSign_53 n x0 x3 S = some o → zH D y A0 s H locs S → lv_has ls 5 [(0, .ref (zh y x0)), (3, .int x3)] → W p l e ({ frames := 3, cells := 0, slots := 0, locals := 106 } : Room) s m args below meth c H locs 0 0 Q (F0 m 53 ls []) := by
  induction n with
  | zero => intro x0 x3 S H locs ls hf; cases hf
  | succ n ih => intro x0 x3 S H locs ls hf hM hl; exact ws_X7_checkSign_53 X hret (self53 := f_X7_checkSign_53 n) ih hf hM hl
noncomputable def f_X7_checkSign_0 (x0 : Nat) (x1 : Nat) (x2 : Int32) (S : ZS) : Option (Int32 × ZS) :=
  m_chk (zK S x0 = 7) (
  m_cal (zP S 1 x0) (fun b1 =>
  m_chk (zK S b1 = 0) (
  m_cal (f_X0_copyFrom b1 x1 S) (fun o2 =>
  m_chk (zK o2.2 x0 = 7) (
  m_cal (zP o2.2 1 x0) (fun b3 =>
  m_chk (zK o2.2 b3 = 0) (
  m_cal (f_X0_play b3 x2 o2.2) (fun o4 =>
  m_chk (zK o4.2 x0 = 7) (
  m_cal (zP o4.2 1 x0) (fun b5 =>
  m_chk (zK o4.2 x0 = 7) (
  m_cal (zP o4.2 1 x0) (fun b6 =>
  m_chk (zK o4.2 x0 = 7) (
  m_cal (zP o4.2 1 x0) (fun b7 =>
  m_chk (zK o4.2 b7 = 0) (
  m_chk (zK o4.2 b6 = 0) (
  m_cal (f_X0_kingOf b6 (zI o4.2 3 b7) o4.2) (fun o8 =>
  m_chk (zK o8.2 x0 = 7) (
  m_cal (zP o8.2 1 x0) (fun b9 =>
  m_chk (zK o8.2 b9 = 0) (
  m_bnd ((1 : Int32) - (zI o8.2 3 b9)) (fun v10 =>
  m_chk (zK o8.2 b5 = 0) (
  m_cal (f_X0_attacked b5 o8.1 v10 o8.2) (fun o11 =>
  m_if (o11.1 = 0) (
  m_chk (vp_nar .char (0 : Int32) = (0 : Int32)) (some ((0 : Int32), o11.2))
  ) (
  f_X7_checkSign_53 mFuel x0 (0 : Int32) o11.2
  ))))))))))))))))))))))))

set_option maxRecDepth 100000 in
set_option maxHeartbeats 4000000 in
theorem w_X7_checkSign_0 {p : Program} {l : Launch} {e : Env} {s : State} {m : MethodId} {args : Array Value} {below : List Frame} {meth : Method} {c : Code} {Q : State → Prop} {D : va_G} {y : Nat → ClassId} {A0 : Nat → Prop} {o : Int32 × ZS} (X : CallFix p m c cX7_checkSign 5 s args wsX7_checkSign RX7) (hret : zRi p l e ({ frames := 3, cells := 0, slots := 0, locals := 106 } : Room) s m args below meth c Q cX7_checkSign D y A0 .char o) {x0 : Nat} {x1 : Nat} {x2 : Int32} {S : ZS} {H : Heap} {locs : List Loc} {ls : Array Slot} (hf : f_X7_checkSign_0 x0 x1 x2 S = some o) (hM : zH D y A0 s H locs S) (hl : lv_has ls 5 [(0, .ref (zh y x0)), (1, .ref (zh y x1)), (2, .int x2)]) : W p l e ({ frames := 3, cells := 0, slots := 0, locals := 106 } : Room) s m args below meth c H locs 0 0 Q (F0 m 0 ls []) := by
  obtain ⟨hx, hb, hml, hown, hts⟩ := id X
  unfold f_X7_checkSign_0 at hf
  refine lv_aload_n hx hb dX7_checkSign_0 rfl (lv_at hl 0 rfl) ?_
  obtain ⟨ca, hf⟩ := m_chkE hf
  replace ca := z_in hM (by decide) ca
  refine z_get (k := 7) (j := 1) (C := RX7) (T := TX7) (N := 2) (fl := zf_7) (v := va_rf ((zP S 1 x0).map (zh y))) X hw_X7_checkSign_7 hM rfl zc_7 ca (by decide) fl_X7_checkSign_7_1 rfl dX7_checkSign_1 ?_
  clear ca
  obtain ⟨b1, hb9, hf⟩ := m_calE hf
  refine z_topr hb9 ?_
  clear hb9
  refine lv_aload_n hx hb dX7_checkSign_4 rfl (lv_at hl 1 rfl) ?_
  obtain ⟨ca, hf⟩ := m_chkE hf
  replace ca := z_in hM (by decide) ca
  obtain ⟨o2, ho, hf⟩ := m_calE hf
  refine z_callVv (k := 0) (C := RX0) (T := TX0) (N := 7) (fl := zf_0) X hM rfl zc_0 ca (c_X0_copyFrom ho) gX7_checkSign_X0_copyFrom rfl ⟨rfl, rfl⟩ hd_X0_copyFrom ⟨Nat.le_of_ble_eq_true rfl, Nat.le_of_ble_eq_true rfl⟩ rfl hl.1 rfl (Nat.le_of_ble_eq_true rfl) dX7_checkSign_5 (fun H locs hM => ?_)
  clear ho
  refine lv_aload_n hx hb dX7_checkSign_8 rfl (lv_at hl 0 rfl) ?_
  obtain ⟨ca, hf⟩ := m_chkE hf
  replace ca := z_in hM (by decide) ca
  refine z_get (k := 7) (j := 1) (C := RX7) (T := TX7) (N := 2) (fl := zf_7) (v := va_rf ((zP o2.2 1 x0).map (zh y))) X hw_X7_checkSign_7 hM rfl zc_7 ca (by decide) fl_X7_checkSign_7_1 rfl dX7_checkSign_9 ?_
  clear ca
  obtain ⟨b3, hb9, hf⟩ := m_calE hf
  refine z_topr hb9 ?_
  clear hb9
  refine lv_iload_n hx hb dX7_checkSign_12 rfl (lv_at hl 2 rfl) ?_
  obtain ⟨ca, hf⟩ := m_chkE hf
  replace ca := z_in hM (by decide) ca
  obtain ⟨o4, ho, hf⟩ := m_calE hf
  refine z_callVv (k := 0) (C := RX0) (T := TX0) (N := 7) (fl := zf_0) X hM rfl zc_0 ca (c_X0_play ho) gX7_checkSign_X0_play rfl ⟨rfl, rfl⟩ hd_X0_play ⟨Nat.le_of_ble_eq_true rfl, Nat.le_of_ble_eq_true rfl⟩ rfl hl.1 rfl (Nat.le_of_ble_eq_true rfl) dX7_checkSign_13 (fun H locs hM => ?_)
  clear ho
  refine lv_aload_n hx hb dX7_checkSign_16 rfl (lv_at hl 0 rfl) ?_
  obtain ⟨ca, hf⟩ := m_chkE hf
  replace ca := z_in hM (by decide) ca
  refine z_get (k := 7) (j := 1) (C := RX7) (T := TX7) (N := 2) (fl := zf_7) (v := va_rf ((zP o4.2 1 x0).map (zh y))) X hw_X7_checkSign_7 hM rfl zc_7 ca (by decide) fl_X7_checkSign_7_1 rfl dX7_checkSign_17 ?_
  clear ca
  obtain ⟨b5, hb9, hf⟩ := m_calE hf
  refine z_topr hb9 ?_
  clear hb9
  refine lv_aload_n hx hb dX7_checkSign_20 rfl (lv_at hl 0 rfl) ?_
  obtain ⟨ca, hf⟩ := m_chkE hf
  replace ca := z_in hM (by decide) ca
  refine z_get (k := 7) (j := 1) (C := RX7) (T := TX7) (N := 2) (fl := zf_7) (v := va_rf ((zP o4.2 1 x0).map (zh y))) X hw_X7_checkSign_7 hM rfl zc_7 ca (by decide) fl_X7_checkSign_7_1 rfl dX7_checkSign_21 ?_
  clear ca
  obtain ⟨b6, hb9, hf⟩ := m_calE hf
  refine z_topr hb9 ?_
  clear hb9
  refine lv_aload_n hx hb dX7_checkSign_24 rfl (lv_at hl 0 rfl) ?_
  obtain ⟨ca, hf⟩ := m_chkE hf
  replace ca := z_in hM (by decide) ca
  refine z_get (k := 7) (j := 1) (C := RX7) (T := TX7) (N := 2) (fl := zf_7) (v := va_rf ((zP o4.2 1 x0).map (zh y))) X hw_X7_checkSign_7 hM rfl zc_7 ca (by decide) fl_X7_checkSign_7_1 rfl dX7_checkSign_25 ?_
  clear ca
  obtain ⟨b7, hb9, hf⟩ := m_calE hf
  refine z_topr hb9 ?_
  clear hb9
  obtain ⟨ca, hf⟩ := m_chkE hf
  replace ca := z_in hM (by decide) ca
  refine z_get (k := 0) (j := 3) (C := RX0) (T := TX0) (N := 7) (fl := zf_0) (v := .int (zI o4.2 3 b7)) X hw_X7_checkSign_0 hM rfl zc_0 ca (by decide) fl_X7_checkSign_0_3 rfl dX7_checkSign_28 ?_
  clear ca
  obtain ⟨ca, hf⟩ := m_chkE hf
  replace ca := z_in hM (by decide) ca
  obtain ⟨o8, ho, hf⟩ := m_calE hf
  refine z_callVi (k := 0) (C := RX0) (T := TX0) (N := 7) (fl := zf_0) X hM rfl zc_0 ca (c_X0_kingOf ho) gX7_checkSign_X0_kingOf rfl ⟨rfl, rfl⟩ hd_X0_kingOf ⟨Nat.le_of_ble_eq_true rfl, Nat.le_of_ble_eq_true rfl⟩ rfl hl.1 rfl (Nat.le_of_ble_eq_true rfl) dX7_checkSign_31 (fun H locs hM => ?_)
  clear ho
  refine lv_iconst (v := (1 : Int32)) hx hb dX7_checkSign_34 (by decide) ?_
  refine lv_aload_n hx hb dX7_checkSign_35 rfl (lv_at hl 0 rfl) ?_
  obtain ⟨ca, hf⟩ := m_chkE hf
  replace ca := z_in hM (by decide) ca
  refine z_get (k := 7) (j := 1) (C := RX7) (T := TX7) (N := 2) (fl := zf_7) (v := va_rf ((zP o8.2 1 x0).map (zh y))) X hw_X7_checkSign_7 hM rfl zc_7 ca (by decide) fl_X7_checkSign_7_1 rfl dX7_checkSign_36 ?_
  clear ca
  obtain ⟨b9, hb9, hf⟩ := m_calE hf
  refine z_topr hb9 ?_
  clear hb9
  obtain ⟨ca, hf⟩ := m_chkE hf
  replace ca := z_in hM (by decide) ca
  refine z_get (k := 0) (j := 3) (C := RX0) (T := TX0) (N := 7) (fl := zf_0) (v := .int (zI o8.2 3 b9)) X hw_X7_checkSign_0 hM rfl zc_0 ca (by decide) fl_X7_checkSign_0_3 rfl dX7_checkSign_39 ?_
  clear ca
  refine lv_isub hx hb dX7_checkSign_42 ?_
  obtain ⟨v10, ev, hf⟩ := m_bndE hf
  refine m_top ev ?_
  clear ev
  obtain ⟨ca, hf⟩ := m_chkE hf
  replace ca := z_in hM (by decide) ca
  obtain ⟨o11, ho, hf⟩ := m_calE hf
  refine z_callVi (k := 0) (C := RX0) (T := TX0) (N := 7) (fl := zf_0) X hM rfl zc_0 ca (c_X0_attacked ho) gX7_checkSign_X0_attacked rfl ⟨rfl, rfl⟩ hd_X0_attacked ⟨Nat.le_of_ble_eq_true rfl, Nat.le_of_ble_eq_true rfl⟩ rfl hl.1 rfl (Nat.le_of_ble_eq_true rfl) dX7_checkSign_43 (fun H locs hM => ?_)
  clear ho
  refine lv_if_ne (tgt := 51) hx hb dX7_checkSign_46 (by decide) (fun cc1 => ?_) (fun cc1 => ?_)
  · replace hf := m_ifF hf cc1
    refine lv_iconst (v := (0 : Int32)) hx hb dX7_checkSign_51 (by decide) ?_
    refine lv_istore_n (lv' := [(3, .int (0 : Int32)), (0, .ref (zh y x0)), (1, .ref (zh y x1)), (2, .int x2)]) hx hb dX7_checkSign_52 rfl hl (by decide) rfl (fun ls hl => ?_)
    exact w_X7_checkSign_53 X hret _ x0 (0 : Int32) _ _ _ _ hf hM (lv_sub hl [1, 0] rfl)
  · replace hf := m_ifT hf cc1
    refine lv_iconst (v := (0 : Int32)) hx hb dX7_checkSign_49 (by decide) ?_
    obtain ⟨cd, hf⟩ := m_chkE hf
    cases hf
    exact hret H locs _ ls hM (m_nc cd) dX7_checkSign_50
noncomputable def f_X7_checkSign (x0 : Nat) (x1 : Nat) (x2 : Int32) (S : ZS) : Option (Int32 × ZS) := f_X7_checkSign_0 x0 x1 x2 S
theorem c_X7_checkSign {l : Launch} {D : va_G} {y : Nat → ClassId} {x0 : Nat} {x1 : Nat} {x2 : Int32} {S : ZS} {o : Int32 × ZS} (hf : f_X7_checkSign x0 x1 x2 S = some o) : zMi l yX7_checkSign wsX7_checkSign ({ frames := 3, cells := 0, slots := 0, locals := 106 } : Room) [.ref (zh y x0), .ref (zh y x1), .int x2] D y S o :=
  z_entryI (own := RX7) (cc := cX7_checkSign) (maxL := 5) (by decide) rfl rfl (Nat.le_of_ble_eq_true rfl) (fun p e s m args below meth c A0 Q H locs ls X hret hM hl => w_X7_checkSign_0 X hret hf hM (lv_sub hl [0, 1, 2] rfl))
theorem hd_X8_copyBare : yX8_copyBare.cls = RX8 ∧ yX8_copyBare.cls ≠ "java/lang/invoke/MethodHandle" ∧ yX8_copyBare.cls ≠ "java/lang/invoke/VarHandle" ∧ (parseMethodDescriptor yX8_copyBare.desc).map (fun d => d.parameters.length) = some 3 := by decide +kernel
theorem fl_X8_copyBare_8_1 : Cond.fieldLink RX8 21 "MoveTexts$SignReader" "row" "LMoveTexts$Row;" ∈ wsX8_copyBare := by decide +kernel
theorem hw_X8_copyBare_8 : ∀ w ∈ wsX80, w ∈ wsX8_copyBare := by decide +kernel
noncomputable def g_X8_copyBare_73 (Pw : Int32 → ZS → Prop) (S : ZS) (C T : Nat) : Prop :=
  Pw 0 S

set_option maxRecDepth 100000 in
set_option maxHeartbeats 4000000 in
theorem w_X8_copyBare_73 {p : Program} {l : Launch} {e : Env} {s : State} {m : MethodId} {args : Array Value} {below : List Frame} {meth : Method} {c : Code} {Q : State → Prop} {D : va_G} {y : Nat → ClassId} {A0 : Nat → Prop} {kc kt : Nat} {Pw : Int32 → ZS → Prop} (X : CallFix p m c cX8_copyBare 6 s args wsX8_copyBare RX8) (hret : zQv p l e ({ frames := 2, cells := kc, slots := kt, locals := 82 } : Room) s m args below meth c Q cX8_copyBare D y A0 Pw) {S : ZS} {C T : Nat} {H : Heap} {locs : List Loc} {ls : Array Slot} (hf : g_X8_copyBare_73 Pw  S C T) (hCT : C ≤ kc ∧ T ≤ kt) (hM : zH D y A0 s H locs S) (hl : lv_has ls 6 []) : W p l e ({ frames := 2, cells := kc, slots := kt, locals := 82 } : Room) s m args below meth c H locs (kc - C) (kt - T) Q (F0 m 73 ls []) := by
  obtain ⟨hx, hb, hml, hown, hts⟩ := id X
  unfold g_X8_copyBare_73 at hf
  exact hret _ _ _ H locs _ ls hf hM dX8_copyBare_73
noncomputable def g_X8_copyBare_67 (Pw : Int32 → ZS → Prop) (self11 : Nat → Nat → Int32 → Int32 → ZS → Nat → Nat → Prop) (x0 : Nat) (x1 : Nat) (x3 : Int32) (x4 : Int32) (S : ZS) (C T : Nat) : Prop :=
  m_bndP (x4 + (1 : Int32)) (fun v1 =>
  self11 x0 x1 x3 v1 S (C) (T))

set_option maxRecDepth 100000 in
set_option maxHeartbeats 4000000 in
theorem w_X8_copyBare_67 {p : Program} {l : Launch} {e : Env} {s : State} {m : MethodId} {args : Array Value} {below : List Frame} {meth : Method} {c : Code} {Q : State → Prop} {D : va_G} {y : Nat → ClassId} {A0 : Nat → Prop} {kc kt : Nat} {Pw : Int32 → ZS → Prop} (X : CallFix p m c cX8_copyBare 6 s args wsX8_copyBare RX8) (hret : zQv p l e ({ frames := 2, cells := kc, slots := kt, locals := 82 } : Room) s m args below meth c Q cX8_copyBare D y A0 Pw) {self11 : Nat → Nat → Int32 → Int32 → ZS → Nat → Nat → Prop} (hself11 : ∀ (x0 : Nat) (x1 : Nat) (x3 : Int32) (x4 : Int32) (S : ZS) (C T : Nat) (H : Heap) (locs : List Loc) (ls : Array Slot), self11 x0 x1 x3 x4 S C T → C ≤ kc ∧ T ≤ kt → zH D y A0 s H locs S → lv_has ls 6 [(0, .ref (zh y x0)), (1, .ref (zh y x1)), (3, .int x3), (4, .int x4)] → W p l e ({ frames := 2, cells := kc, slots := kt, locals := 82 } : Room) s m args below meth c H locs (kc - C) (kt - T) Q (F0 m 11 ls [])) {x0 : Nat} {x1 : Nat} {x3 : Int32} {x4 : Int32} {S : ZS} {C T : Nat} {H : Heap} {locs : List Loc} {ls : Array Slot} (hf : g_X8_copyBare_67 Pw self11 x0 x1 x3 x4 S C T) (hCT : C ≤ kc ∧ T ≤ kt) (hM : zH D y A0 s H locs S) (hl : lv_has ls 6 [(0, .ref (zh y x0)), (1, .ref (zh y x1)), (3, .int x3), (4, .int x4)]) : W p l e ({ frames := 2, cells := kc, slots := kt, locals := 82 } : Room) s m args below meth c H locs (kc - C) (kt - T) Q (F0 m 67 ls []) := by
  obtain ⟨hx, hb, hml, hown, hts⟩ := id X
  unfold g_X8_copyBare_67 at hf
  obtain ⟨v1, ev, hf⟩ := m_bndPE hf
  refine lv_iinc (v := v1) (lv' := [(4, .int v1), (0, .ref (zh y x0)), (1, .ref (zh y x1)), (3, .int x3)]) hx hb dX8_copyBare_67 hl (k := 3) rfl (by rw [ev]; rfl) (by decide) rfl (fun ls hl => ?_)
  clear ev
  refine lv_goto (tgt := 11) hx hb dX8_copyBare_70 (by decide) ?_
  exact hself11 x0 x1 x3 v1 _ _ _ _ _ _ hf hCT hM (lv_sub hl [1, 2, 3, 0] rfl)
noncomputable def g_X8_copyBare_11s (Pw : Int32 → ZS → Prop) (self11 : Nat → Nat → Int32 → Int32 → ZS → Nat → Nat → Prop) (x0 : Nat) (x1 : Nat) (x3 : Int32) (x4 : Int32) (S : ZS) (C T : Nat) : Prop :=
  m_ifQ (x3 ≤ x4) (
  g_X8_copyBare_73 Pw  S (C) (T)
  ) (
  m_chkQ (zK S x0 = 8) (
  m_calP (zP S 1 x0) (fun b1 =>
  m_chkQ (zK S b1 = 6) (
  m_calP (f_X6_size b1 S) (fun o2 =>
  m_ifQ ((7 : Int32) < o2.1) (
  g_X8_copyBare_73 Pw  o2.2 (C) (T)
  ) (
  m_chkQ (zK o2.2 x1 = 6) (
  m_calP (f_X6_at x1 x4 o2.2) (fun o3 =>
  m_ifQ (o3.1 = (120 : Int32)) (
  g_X8_copyBare_67 Pw self11 x0 x1 x3 x4 o3.2 (C) (T)
  ) (
  m_ifQ (o3.1 = (43 : Int32)) (
  g_X8_copyBare_67 Pw self11 x0 x1 x3 x4 o3.2 (C) (T)
  ) (
  m_ifQ (o3.1 = (35 : Int32)) (
  g_X8_copyBare_67 Pw self11 x0 x1 x3 x4 o3.2 (C) (T)
  ) (
  m_chkQ (zK o3.2 x0 = 8) (
  m_calP (zP o3.2 1 x0) (fun b4 =>
  m_chkQ (zK o3.2 b4 = 6) (
  m_gal (C) (T) (fun mc ms Pw => g_X6_put b4 o3.1 o3.2 mc ms Pw) (fun r6 S7 C8 T9 =>
  g_X8_copyBare_67 Pw self11 x0 x1 x3 x4 S7 (C8) (T9)))))
  )
  )
  )))
  )))))
  )

set_option maxRecDepth 100000 in
set_option maxHeartbeats 4000000 in
theorem ws_X8_copyBare_11 {p : Program} {l : Launch} {e : Env} {s : State} {m : MethodId} {args : Array Value} {below : List Frame} {meth : Method} {c : Code} {Q : State → Prop} {D : va_G} {y : Nat → ClassId} {A0 : Nat → Prop} {kc kt : Nat} {Pw : Int32 → ZS → Prop} (X : CallFix p m c cX8_copyBare 6 s args wsX8_copyBare RX8) (hret : zQv p l e ({ frames := 2, cells := kc, slots := kt, locals := 82 } : Room) s m args below meth c Q cX8_copyBare D y A0 Pw) {self11 : Nat → Nat → Int32 → Int32 → ZS → Nat → Nat → Prop} (hself11 : ∀ (x0 : Nat) (x1 : Nat) (x3 : Int32) (x4 : Int32) (S : ZS) (C T : Nat) (H : Heap) (locs : List Loc) (ls : Array Slot), self11 x0 x1 x3 x4 S C T → C ≤ kc ∧ T ≤ kt → zH D y A0 s H locs S → lv_has ls 6 [(0, .ref (zh y x0)), (1, .ref (zh y x1)), (3, .int x3), (4, .int x4)] → W p l e ({ frames := 2, cells := kc, slots := kt, locals := 82 } : Room) s m args below meth c H locs (kc - C) (kt - T) Q (F0 m 11 ls [])) {x0 : Nat} {x1 : Nat} {x3 : Int32} {x4 : Int32} {S : ZS} {C T : Nat} {H : Heap} {locs : List Loc} {ls : Array Slot} (hf : g_X8_copyBare_11s Pw self11 x0 x1 x3 x4 S C T) (hCT : C ≤ kc ∧ T ≤ kt) (hM : zH D y A0 s H locs S) (hl : lv_has ls 6 [(0, .ref (zh y x0)), (1, .ref (zh y x1)), (3, .int x3), (4, .int x4)]) : W p l e ({ frames := 2, cells := kc, slots := kt, locals := 82 } : Room) s m args below meth c H locs (kc - C) (kt - T) Q (F0 m 11 ls []) := by
  obtain ⟨hx, hb, hml, hown, hts⟩ := id X
  unfold g_X8_copyBare_11s at hf
  refine lv_iload hx hb dX8_copyBare_11 (lv_at hl 3 rfl) ?_
  refine lv_iload_n hx hb dX8_copyBare_13 rfl (lv_at hl 2 rfl) ?_
  refine lv_icmp_ge (tgt := 73) hx hb dX8_copyBare_14 (by decide) (fun cc1 => ?_) (fun cc1 => ?_)
  · replace hf := m_ifPT hf cc1
    exact w_X8_copyBare_73 X hret hf hCT hM (lv_sub hl [] rfl)
  · replace hf := m_ifPF hf cc1
    refine lv_aload_n hx hb dX8_copyBare_17 rfl (lv_at hl 0 rfl) ?_
    obtain ⟨ca, hf⟩ := m_chkPE hf
    replace ca := z_in hM (by decide) ca
    refine z_get (k := 8) (j := 1) (C := RX8) (T := TX8) (N := 12) (fl := zf_8) (v := va_rf ((zP S 1 x0).map (zh y))) X hw_X8_copyBare_8 hM rfl zc_8 ca (by decide) fl_X8_copyBare_8_1 rfl dX8_copyBare_18 ?_
    clear ca
    obtain ⟨b1, hb9, hf⟩ := m_calPE hf
    refine z_topr hb9 ?_
    clear hb9
    obtain ⟨ca, hf⟩ := m_chkPE hf
    replace ca := z_in hM (by decide) ca
    obtain ⟨o2, ho, hf⟩ := m_calPE hf
    refine z_gcallVi (k := 6) (C := RX6) (T := TX6) (N := 2) (fl := zf_6) X hM rfl zc_6 ca (c_X6_size ho) gX8_copyBare_X6_size rfl ⟨rfl, rfl⟩ hd_X6_size ⟨Nat.le_of_ble_eq_true rfl, Nat.le_of_ble_eq_true rfl⟩ rfl hl.1 rfl ⟨Nat.sub_le _ _, Nat.sub_le _ _⟩ (Nat.le_of_ble_eq_true rfl) dX8_copyBare_21 (fun H locs hM => ?_)
    clear ho
    refine lv_bipush (v := (7 : Int32)) hx hb dX8_copyBare_24 (by decide) ?_
    refine lv_icmp_gt (tgt := 73) hx hb dX8_copyBare_26 (by decide) (fun cc1 => ?_) (fun cc1 => ?_)
    · replace hf := m_ifPT hf cc1
      exact w_X8_copyBare_73 X hret hf hCT hM (lv_sub hl [] rfl)
    · replace hf := m_ifPF hf cc1
      refine lv_aload_n hx hb dX8_copyBare_29 rfl (lv_at hl 1 rfl) ?_
      refine lv_iload hx hb dX8_copyBare_30 (lv_at hl 3 rfl) ?_
      obtain ⟨ca, hf⟩ := m_chkPE hf
      replace ca := z_in hM (by decide) ca
      obtain ⟨o3, ho, hf⟩ := m_calPE hf
      refine z_gcallVi (k := 6) (C := RX6) (T := TX6) (N := 2) (fl := zf_6) X hM rfl zc_6 ca (c_X6_at ho) gX8_copyBare_X6_at rfl ⟨rfl, rfl⟩ hd_X6_at ⟨Nat.le_of_ble_eq_true rfl, Nat.le_of_ble_eq_true rfl⟩ rfl hl.1 rfl ⟨Nat.sub_le _ _, Nat.sub_le _ _⟩ (Nat.le_of_ble_eq_true rfl) dX8_copyBare_32 (fun H locs hM => ?_)
      clear ho
      refine lv_istore (lv' := [(5, .int o3.1), (0, .ref (zh y x0)), (1, .ref (zh y x1)), (3, .int x3), (4, .int x4)]) hx hb dX8_copyBare_35 hl (by decide) rfl (fun ls hl => ?_)
      refine lv_iload hx hb dX8_copyBare_37 (lv_at hl 0 rfl) ?_
      refine lv_bipush (v := (120 : Int32)) hx hb dX8_copyBare_39 (by decide) ?_
      refine lv_icmp_eq (tgt := 67) hx hb dX8_copyBare_41 (by decide) (fun cc1 => ?_) (fun cc1 => ?_)
      · replace hf := m_ifPT hf cc1
        exact w_X8_copyBare_67 (x0 := x0) (x1 := x1) (x3 := x3) (x4 := x4) X hret hself11 hf hCT hM (lv_sub hl [1, 2, 3, 4] rfl)
      · replace hf := m_ifPF hf cc1
        refine lv_iload hx hb dX8_copyBare_44 (lv_at hl 0 rfl) ?_
        refine lv_bipush (v := (43 : Int32)) hx hb dX8_copyBare_46 (by decide) ?_
        refine lv_icmp_eq (tgt := 67) hx hb dX8_copyBare_48 (by decide) (fun cc1 => ?_) (fun cc1 => ?_)
        · replace hf := m_ifPT hf cc1
          exact w_X8_copyBare_67 (x0 := x0) (x1 := x1) (x3 := x3) (x4 := x4) X hret hself11 hf hCT hM (lv_sub hl [1, 2, 3, 4] rfl)
        · replace hf := m_ifPF hf cc1
          refine lv_iload hx hb dX8_copyBare_51 (lv_at hl 0 rfl) ?_
          refine lv_bipush (v := (35 : Int32)) hx hb dX8_copyBare_53 (by decide) ?_
          refine lv_icmp_eq (tgt := 67) hx hb dX8_copyBare_55 (by decide) (fun cc1 => ?_) (fun cc1 => ?_)
          · replace hf := m_ifPT hf cc1
            exact w_X8_copyBare_67 (x0 := x0) (x1 := x1) (x3 := x3) (x4 := x4) X hret hself11 hf hCT hM (lv_sub hl [1, 2, 3, 4] rfl)
          · replace hf := m_ifPF hf cc1
            refine lv_aload_n hx hb dX8_copyBare_58 rfl (lv_at hl 1 rfl) ?_
            obtain ⟨ca, hf⟩ := m_chkPE hf
            replace ca := z_in hM (by decide) ca
            refine z_get (k := 8) (j := 1) (C := RX8) (T := TX8) (N := 12) (fl := zf_8) (v := va_rf ((zP o3.2 1 x0).map (zh y))) X hw_X8_copyBare_8 hM rfl zc_8 ca (by decide) fl_X8_copyBare_8_1 rfl dX8_copyBare_59 ?_
            clear ca
            obtain ⟨b4, hb9, hf⟩ := m_calPE hf
            refine z_topr hb9 ?_
            clear hb9
            refine lv_iload hx hb dX8_copyBare_62 (lv_at hl 0 rfl) ?_
            obtain ⟨ca, hf⟩ := m_chkPE hf
            replace ca := z_in hM (by decide) ca
            obtain ⟨mc, ms, hcm, ho⟩ := m_galE hf
            refine z_wcallVv (k := 6) (C := RX6) (T := TX6) (N := 2) (fl := zf_6) X hM rfl zc_6 ca (c_X6_put ho) gX8_copyBare_X6_put rfl ⟨rfl, rfl⟩ ⟨by show kc - (C) + mc ≤ kc; omega, by show kt - (T) + ms ≤ kt; omega⟩ hd_X6_put ⟨Nat.le_of_ble_eq_true rfl, Nat.le_of_ble_eq_true rfl⟩ rfl hl.1 rfl (Nat.le_of_ble_eq_true rfl) dX8_copyBare_64 (fun S7 H locs hf hM => ?_)
            refine z_eqCS (c2 := kc - (C - mc)) (t2 := kt - (T - ms)) (by omega) (by omega) ?_
            replace hCT : C - mc ≤ kc ∧ T - ms ≤ kt := by omega
            generalize C - mc = C8 at hf hCT ⊢
            generalize T - ms = T9 at hf hCT ⊢
            clear ho hcm
            exact w_X8_copyBare_67 (x0 := x0) (x1 := x1) (x3 := x3) (x4 := x4) X hret hself11 hf hCT hM (lv_sub hl [1, 2, 3, 4] rfl)
noncomputable def g_X8_copyBare_11 (Pw : Int32 → ZS → Prop) : Nat → Nat → Nat → Int32 → Int32 → ZS → Nat → Nat → Prop
  | 0 => fun _ _ _ _ _ _ _ => False
  | n + 1 => g_X8_copyBare_11s Pw (g_X8_copyBare_11 Pw n)
theorem w_X8_copyBare_11 {p : Program} {l : Launch} {e : Env} {s : State} {m : MethodId} {args : Array Value} {below : List Frame} {meth : Method} {c : Code} {Q : State → Prop} {D : va_G} {y : Nat → ClassId} {A0 : Nat → Prop} {kc kt : Nat} {Pw : Int32 → ZS → Prop} (X : CallFix p m c cX8_copyBare 6 s args wsX8_copyBare RX8) (hret : zQv p l e ({ frames := 2, cells := kc, slots := kt, locals := 82 } : Room) s m args below meth c Q cX8_copyBare D y A0 Pw) (n : Nat) : ∀ (x0 : Nat) (x1 : Nat) (x3 : Int32) (x4 : Int32) (S : ZS) (C T : Nat) (H : Heap) (locs : List Loc) (ls : Array Slot), g_X8_copyBare_11 Pw n x0 x1 x3 x4 S C T → C ≤ kc ∧ T ≤ kt → zH D y A0 s H locs S → lv_has ls 6 [(0, .ref (zh y x0)), (1, .ref (zh y x1)), (3, .int x3), (4, .int x4)] → W p l e ({ frames := 2, cells := kc, slots := kt, locals := 82 } : Room) s m args below meth c H locs (kc - C) (kt - T) Q (F0 m 11 ls []) := by
  induction n with
  | zero => intro x0 x1 x3 x4 S C T H locs ls hf; exact absurd hf id
  | succ n ih => intro x0 x1 x3 x4 S C T H locs ls hf hCT hM hl; exact ws_X8_copyBare_11 X hret (self11 := g_X8_copyBare_11 Pw n) ih hf hCT hM hl
noncomputable def g_X8_copyBare_0 (Pw : Int32 → ZS → Prop) (x0 : Nat) (x1 : Nat) (x2 : Int32) (x3 : Int32) (S : ZS) (C T : Nat) : Prop :=
  m_chkQ (zK S x0 = 8) (
  m_calP (zP S 1 x0) (fun b1 =>
  m_chkQ (zK S b1 = 6) (
  m_calP (f_X6_keep b1 (0 : Int32) S) (fun o2 =>
  g_X8_copyBare_11 Pw mFuel x0 x1 x3 x2 o2.2 (C) (T)))))

set_option maxRecDepth 100000 in
set_option maxHeartbeats 4000000 in
theorem w_X8_copyBare_0 {p : Program} {l : Launch} {e : Env} {s : State} {m : MethodId} {args : Array Value} {below : List Frame} {meth : Method} {c : Code} {Q : State → Prop} {D : va_G} {y : Nat → ClassId} {A0 : Nat → Prop} {kc kt : Nat} {Pw : Int32 → ZS → Prop} (X : CallFix p m c cX8_copyBare 6 s args wsX8_copyBare RX8) (hret : zQv p l e ({ frames := 2, cells := kc, slots := kt, locals := 82 } : Room) s m args below meth c Q cX8_copyBare D y A0 Pw) {x0 : Nat} {x1 : Nat} {x2 : Int32} {x3 : Int32} {S : ZS} {C T : Nat} {H : Heap} {locs : List Loc} {ls : Array Slot} (hf : g_X8_copyBare_0 Pw x0 x1 x2 x3 S C T) (hCT : C ≤ kc ∧ T ≤ kt) (hM : zH D y A0 s H locs S) (hl : lv_has ls 6 [(0, .ref (zh y x0)), (1, .ref (zh y x1)), (2, .int x2), (3, .int x3)]) : W p l e ({ frames := 2, cells := kc, slots := kt, locals := 82 } : Room) s m args below meth c H locs (kc - C) (kt - T) Q (F0 m 0 ls []) := by
  obtain ⟨hx, hb, hml, hown, hts⟩ := id X
  unfold g_X8_copyBare_0 at hf
  refine lv_aload_n hx hb dX8_copyBare_0 rfl (lv_at hl 0 rfl) ?_
  obtain ⟨ca, hf⟩ := m_chkPE hf
  replace ca := z_in hM (by decide) ca
  refine z_get (k := 8) (j := 1) (C := RX8) (T := TX8) (N := 12) (fl := zf_8) (v := va_rf ((zP S 1 x0).map (zh y))) X hw_X8_copyBare_8 hM rfl zc_8 ca (by decide) fl_X8_copyBare_8_1 rfl dX8_copyBare_1 ?_
  clear ca
  obtain ⟨b1, hb9, hf⟩ := m_calPE hf
  refine z_topr hb9 ?_
  clear hb9
  refine lv_iconst (v := (0 : Int32)) hx hb dX8_copyBare_4 (by decide) ?_
  obtain ⟨ca, hf⟩ := m_chkPE hf
  replace ca := z_in hM (by decide) ca
  obtain ⟨o2, ho, hf⟩ := m_calPE hf
  refine z_gcallVv (k := 6) (C := RX6) (T := TX6) (N := 2) (fl := zf_6) X hM rfl zc_6 ca (c_X6_keep ho) gX8_copyBare_X6_keep rfl ⟨rfl, rfl⟩ hd_X6_keep ⟨Nat.le_of_ble_eq_true rfl, Nat.le_of_ble_eq_true rfl⟩ rfl hl.1 rfl ⟨Nat.sub_le _ _, Nat.sub_le _ _⟩ (Nat.le_of_ble_eq_true rfl) dX8_copyBare_5 (fun H locs hM => ?_)
  clear ho
  refine lv_iload_n hx hb dX8_copyBare_8 rfl (lv_at hl 2 rfl) ?_
  refine lv_istore (lv' := [(4, .int x2), (0, .ref (zh y x0)), (1, .ref (zh y x1)), (2, .int x2), (3, .int x3)]) hx hb dX8_copyBare_9 hl (by decide) rfl (fun ls hl => ?_)
  exact w_X8_copyBare_11 X hret _ x0 x1 x3 x2 _ _ _ _ _ _ hf hCT hM (lv_sub hl [1, 2, 4, 0] rfl)
noncomputable def g_X8_copyBare (x0 : Nat) (x1 : Nat) (x2 : Int32) (x3 : Int32) (S : ZS) (mc ms : Nat) (Pw : Int32 → ZS → Prop) : Prop := g_X8_copyBare_0 Pw x0 x1 x2 x3 S mc ms
theorem c_X8_copyBare {l : Launch} {D : va_G} {y : Nat → ClassId} {x0 : Nat} {x1 : Nat} {x2 : Int32} {x3 : Int32} {S : ZS} {kc kt : Nat} {Pw : Int32 → ZS → Prop} (hf : g_X8_copyBare x0 x1 x2 x3 S kc kt Pw) : zWv l yX8_copyBare wsX8_copyBare ({ frames := 2, cells := kc, slots := kt, locals := 82 } : Room) [.ref (zh y x0), .ref (zh y x1), .int x2, .int x3] D y S kc kt Pw :=
  z_wentV (own := RX8) (cc := cX8_copyBare) (maxL := 6) (by decide) rfl rfl (Nat.le_of_ble_eq_true rfl) ⟨rfl, rfl⟩ (fun p e s m args below meth c A0 Q H locs ls X hret hM hl => w_X8_copyBare_0 X hret hf ⟨Nat.le_refl _, Nat.le_refl _⟩ hM (lv_sub hl [0, 1, 2, 3] rfl))
end
section
theorem hd_X8_matched : yX8_matched.cls = RX8 ∧ yX8_matched.cls ≠ "java/lang/invoke/MethodHandle" ∧ yX8_matched.cls ≠ "java/lang/invoke/VarHandle" ∧ (parseMethodDescriptor yX8_matched.desc).map (fun d => d.parameters.length) = some 4 := by decide +kernel
theorem fl_X8_matched_8_0 : Cond.fieldLink RX8 12 "MoveTexts$SignReader" "rules" "LMoveTexts$Rules;" ∈ wsX8_matched := by decide +kernel
theorem fl_X8_matched_8_10 : Cond.fieldLink RX8 25 "MoveTexts$SignReader" "fitting" "[I" ∈ wsX8_matched := by decide +kernel
theorem fl_X8_matched_8_11 : Cond.fieldLink RX8 41 "MoveTexts$SignReader" "fits" "I" ∈ wsX8_matched := by decide +kernel
theorem fl_X8_matched_8_8 : Cond.fieldLink RX8 56 "MoveTexts$SignReader" "taking" "I" ∈ wsX8_matched := by decide +kernel
theorem fl_X8_matched_8_9 : Cond.fieldLink RX8 45 "MoveTexts$SignReader" "check" "C" ∈ wsX8_matched := by decide +kernel
theorem hw_X8_matched_8 : ∀ w ∈ wsX80, w ∈ wsX8_matched := by decide +kernel
noncomputable def g_X8_matched_144 (Pw : Int32 → ZS → Prop) (t0 : Int32) (S : ZS) (C T : Nat) : Prop :=
  Pw t0 S

set_option maxRecDepth 100000 in
set_option maxHeartbeats 4000000 in
theorem w_X8_matched_144 {p : Program} {l : Launch} {e : Env} {s : State} {m : MethodId} {args : Array Value} {below : List Frame} {meth : Method} {c : Code} {Q : State → Prop} {D : va_G} {y : Nat → ClassId} {A0 : Nat → Prop} {kc kt : Nat} {Pw : Int32 → ZS → Prop} (X : CallFix p m c cX8_matched 8 s args wsX8_matched RX8) (hret : zQi p l e ({ frames := 7, cells := kc, slots := kt, locals := 151 } : Room) s m args below meth c Q cX8_matched D y A0 .int Pw) {t0 : Int32} {S : ZS} {C T : Nat} {H : Heap} {locs : List Loc} {ls : Array Slot} (hf : g_X8_matched_144 Pw t0 S C T) (hCT : C ≤ kc ∧ T ≤ kt) (hM : zH D y A0 s H locs S) (hl : lv_has ls 8 []) : W p l e ({ frames := 7, cells := kc, slots := kt, locals := 151 } : Room) s m args below meth c H locs (kc - C) (kt - T) Q (F0 m 144 ls [.int t0]) := by
  obtain ⟨hx, hb, hml, hown, hts⟩ := id X
  unfold g_X8_matched_144 at hf
  exact hret _ _ _ _ H locs _ ls hf hM rfl dX8_matched_144
noncomputable def g_X8_matched_103 (Pw : Int32 → ZS → Prop) (x0 : Nat) (x1 : Nat) (x2 : Nat) (x3 : Int32) (x4 : Int32) (S : ZS) (C T : Nat) : Prop :=
  m_chkQ (zK S x0 = 8) (
  m_gal (C) (T) (fun mc ms Pw => g_X8_copyBare x0 x2 x3 x4 S mc ms Pw) (fun r2 S3 C4 T5 =>
  m_chkQ (zK S3 x0 = 8) (
  m_calP (f_X8_parse x0 S3) (fun o6 =>
  m_ifQ (o6.1 = 0) (
  Pw (-1 : Int32) o6.2
  ) (
  m_chkQ (zK o6.2 x0 = 8) (
  m_bndP (zsI o6.2 8 x0 (-1 : Int32)) (fun S7 =>
  m_chkQ (zK S7 x0 = 8) (
  m_calP (f_X8_gather x0 x1 S7) (fun o8 =>
  m_chkQ (zK o8.2 x0 = 8) (
  m_ifQ ((zI o8.2 11 x0) = (1 : Int32)) (
  g_X8_matched_144 Pw (-2 : Int32) o8.2 (C4) (T5)
  ) (
  g_X8_matched_144 Pw (-1 : Int32) o8.2 (C4) (T5)
  ))))))
  )))))

set_option maxRecDepth 100000 in
set_option maxHeartbeats 4000000 in
theorem w_X8_matched_103 {p : Program} {l : Launch} {e : Env} {s : State} {m : MethodId} {args : Array Value} {below : List Frame} {meth : Method} {c : Code} {Q : State → Prop} {D : va_G} {y : Nat → ClassId} {A0 : Nat → Prop} {kc kt : Nat} {Pw : Int32 → ZS → Prop} (X : CallFix p m c cX8_matched 8 s args wsX8_matched RX8) (hret : zQi p l e ({ frames := 7, cells := kc, slots := kt, locals := 151 } : Room) s m args below meth c Q cX8_matched D y A0 .int Pw) {x0 : Nat} {x1 : Nat} {x2 : Nat} {x3 : Int32} {x4 : Int32} {S : ZS} {C T : Nat} {H : Heap} {locs : List Loc} {ls : Array Slot} (hf : g_X8_matched_103 Pw x0 x1 x2 x3 x4 S C T) (hCT : C ≤ kc ∧ T ≤ kt) (hM : zH D y A0 s H locs S) (hl : lv_has ls 8 [(0, .ref (zh y x0)), (1, .ref (zh y x1)), (2, .ref (zh y x2)), (3, .int x3), (4, .int x4)]) : W p l e ({ frames := 7, cells := kc, slots := kt, locals := 151 } : Room) s m args below meth c H locs (kc - C) (kt - T) Q (F0 m 103 ls []) := by
  obtain ⟨hx, hb, hml, hown, hts⟩ := id X
  unfold g_X8_matched_103 at hf
  refine lv_aload_n hx hb dX8_matched_103 rfl (lv_at hl 0 rfl) ?_
  refine lv_aload_n hx hb dX8_matched_104 rfl (lv_at hl 2 rfl) ?_
  refine lv_iload_n hx hb dX8_matched_105 rfl (lv_at hl 3 rfl) ?_
  refine lv_iload hx hb dX8_matched_106 (lv_at hl 4 rfl) ?_
  obtain ⟨ca, hf⟩ := m_chkPE hf
  replace ca := z_in hM (by decide) ca
  obtain ⟨mc, ms, hcm, ho⟩ := m_galE hf
  refine z_wcallVv (k := 8) (C := RX8) (T := TX8) (N := 12) (fl := zf_8) X hM rfl zc_8 ca (c_X8_copyBare ho) gX8_matched_X8_copyBare rfl ⟨rfl, rfl⟩ ⟨by show kc - (C) + mc ≤ kc; omega, by show kt - (T) + ms ≤ kt; omega⟩ hd_X8_copyBare ⟨Nat.le_of_ble_eq_true rfl, Nat.le_of_ble_eq_true rfl⟩ rfl hl.1 rfl (Nat.le_of_ble_eq_true rfl) dX8_matched_108 (fun S3 H locs hf hM => ?_)
  refine z_eqCS (c2 := kc - (C - mc)) (t2 := kt - (T - ms)) (by omega) (by omega) ?_
  replace hCT : C - mc ≤ kc ∧ T - ms ≤ kt := by omega
  generalize C - mc = C4 at hf hCT ⊢
  generalize T - ms = T5 at hf hCT ⊢
  clear ho hcm
  refine lv_aload_n hx hb dX8_matched_111 rfl (lv_at hl 0 rfl) ?_
  obtain ⟨ca, hf⟩ := m_chkPE hf
  replace ca := z_in hM (by decide) ca
  obtain ⟨o6, ho, hf⟩ := m_calPE hf
  refine z_gcallVi (k := 8) (C := RX8) (T := TX8) (N := 12) (fl := zf_8) X hM rfl zc_8 ca (c_X8_parse ho) gX8_matched_X8_parse rfl ⟨rfl, rfl⟩ hd_X8_parse ⟨Nat.le_of_ble_eq_true rfl, Nat.le_of_ble_eq_true rfl⟩ rfl hl.1 rfl ⟨Nat.sub_le _ _, Nat.sub_le _ _⟩ (Nat.le_of_ble_eq_true rfl) dX8_matched_112 (fun H locs hM => ?_)
  clear ho
  refine lv_if_ne (tgt := 120) hx hb dX8_matched_115 (by decide) (fun cc1 => ?_) (fun cc1 => ?_)
  · replace hf := m_ifPF hf cc1
    refine lv_aload_n hx hb dX8_matched_120 rfl (lv_at hl 0 rfl) ?_
    refine lv_iconst (v := (-1 : Int32)) hx hb dX8_matched_121 (by decide) ?_
    obtain ⟨ca, hf⟩ := m_chkPE hf
    replace ca := z_in hM (by decide) ca
    refine z_putI (k := 8) (j := 8) (C := RX8) (T := TX8) (N := 12) (fl := zf_8) (ty := .int) X hw_X8_matched_8 tyX8_ok nmX8 hM rfl zc_8 ca (by decide) fl_X8_matched_8_8 rfl (tyX8_ok 8 (by decide)) rfl rfl zi_8_8 (Nat.le_of_ble_eq_true rfl) dX8_matched_122 (fun H locs hM => ?_)
    clear ca
    obtain ⟨S7, ev, hf⟩ := m_bndPE hf
    replace hM := z_hS hM ev
    clear ev
    refine lv_aload_n hx hb dX8_matched_125 rfl (lv_at hl 0 rfl) ?_
    refine lv_aload_n hx hb dX8_matched_126 rfl (lv_at hl 1 rfl) ?_
    obtain ⟨ca, hf⟩ := m_chkPE hf
    replace ca := z_in hM (by decide) ca
    obtain ⟨o8, ho, hf⟩ := m_calPE hf
    refine z_gcallVv (k := 8) (C := RX8) (T := TX8) (N := 12) (fl := zf_8) X hM rfl zc_8 ca (c_X8_gather ho) gX8_matched_X8_gather rfl ⟨rfl, rfl⟩ hd_X8_gather ⟨Nat.le_of_ble_eq_true rfl, Nat.le_of_ble_eq_true rfl⟩ rfl hl.1 rfl ⟨Nat.sub_le _ _, Nat.sub_le _ _⟩ (Nat.le_of_ble_eq_true rfl) dX8_matched_127 (fun H locs hM => ?_)
    clear ho
    refine lv_aload_n hx hb dX8_matched_130 rfl (lv_at hl 0 rfl) ?_
    obtain ⟨ca, hf⟩ := m_chkPE hf
    replace ca := z_in hM (by decide) ca
    refine z_get (k := 8) (j := 11) (C := RX8) (T := TX8) (N := 12) (fl := zf_8) (v := .int (zI o8.2 11 x0)) X hw_X8_matched_8 hM rfl zc_8 ca (by decide) fl_X8_matched_8_11 rfl dX8_matched_131 ?_
    clear ca
    refine lv_iconst (v := (1 : Int32)) hx hb dX8_matched_134 (by decide) ?_
    refine lv_icmp_ne (tgt := 143) hx hb dX8_matched_135 (by decide) (fun cc1 => ?_) (fun cc1 => ?_)
    · replace hf := m_ifPF hf cc1
      refine lv_iconst (v := (-1 : Int32)) hx hb dX8_matched_143 (by decide) ?_
      exact w_X8_matched_144 (t0 := (-1 : Int32)) X hret hf hCT hM (lv_sub hl [] rfl)
    · replace hf := m_ifPT hf cc1
      refine lv_bipush (v := (-2 : Int32)) hx hb dX8_matched_138 (by decide) ?_
      refine lv_goto (tgt := 144) hx hb dX8_matched_140 (by decide) ?_
      exact w_X8_matched_144 (t0 := (-2 : Int32)) X hret hf hCT hM (lv_sub hl [] rfl)
  · replace hf := m_ifPT hf cc1
    refine lv_iconst (v := (-1 : Int32)) hx hb dX8_matched_118 (by decide) ?_
    exact hret _ _ _ _ H locs _ ls hf hM rfl dX8_matched_119
noncomputable def g_X8_matched_102 (Pw : Int32 → ZS → Prop) (t0 : Int32) (S : ZS) (C T : Nat) : Prop :=
  Pw t0 S

set_option maxRecDepth 100000 in
set_option maxHeartbeats 4000000 in
theorem w_X8_matched_102 {p : Program} {l : Launch} {e : Env} {s : State} {m : MethodId} {args : Array Value} {below : List Frame} {meth : Method} {c : Code} {Q : State → Prop} {D : va_G} {y : Nat → ClassId} {A0 : Nat → Prop} {kc kt : Nat} {Pw : Int32 → ZS → Prop} (X : CallFix p m c cX8_matched 8 s args wsX8_matched RX8) (hret : zQi p l e ({ frames := 7, cells := kc, slots := kt, locals := 151 } : Room) s m args below meth c Q cX8_matched D y A0 .int Pw) {t0 : Int32} {S : ZS} {C T : Nat} {H : Heap} {locs : List Loc} {ls : Array Slot} (hf : g_X8_matched_102 Pw t0 S C T) (hCT : C ≤ kc ∧ T ≤ kt) (hM : zH D y A0 s H locs S) (hl : lv_has ls 8 []) : W p l e ({ frames := 7, cells := kc, slots := kt, locals := 151 } : Room) s m args below meth c H locs (kc - C) (kt - T) Q (F0 m 102 ls [.int t0]) := by
  obtain ⟨hx, hb, hml, hown, hts⟩ := id X
  unfold g_X8_matched_102 at hf
  exact hret _ _ _ _ H locs _ ls hf hM rfl dX8_matched_102
noncomputable def g_X8_matched_79 (Pw : Int32 → ZS → Prop) (self29 : Nat → Nat → Nat → Int32 → Int32 → Int32 → Int32 → Int32 → ZS → Nat → Nat → Prop) (x0 : Nat) (x1 : Nat) (x2 : Nat) (x3 : Int32) (x4 : Int32) (x5 : Int32) (x6 : Int32) (x7 : Int32) (S : ZS) (C T : Nat) : Prop :=
  m_bndP (x7 + (1 : Int32)) (fun v1 =>
  self29 x0 x1 x2 x3 x4 x5 x6 v1 S (C) (T))

set_option maxRecDepth 100000 in
set_option maxHeartbeats 4000000 in
theorem w_X8_matched_79 {p : Program} {l : Launch} {e : Env} {s : State} {m : MethodId} {args : Array Value} {below : List Frame} {meth : Method} {c : Code} {Q : State → Prop} {D : va_G} {y : Nat → ClassId} {A0 : Nat → Prop} {kc kt : Nat} {Pw : Int32 → ZS → Prop} (X : CallFix p m c cX8_matched 8 s args wsX8_matched RX8) (hret : zQi p l e ({ frames := 7, cells := kc, slots := kt, locals := 151 } : Room) s m args below meth c Q cX8_matched D y A0 .int Pw) {self29 : Nat → Nat → Nat → Int32 → Int32 → Int32 → Int32 → Int32 → ZS → Nat → Nat → Prop} (hself29 : ∀ (x0 : Nat) (x1 : Nat) (x2 : Nat) (x3 : Int32) (x4 : Int32) (x5 : Int32) (x6 : Int32) (x7 : Int32) (S : ZS) (C T : Nat) (H : Heap) (locs : List Loc) (ls : Array Slot), self29 x0 x1 x2 x3 x4 x5 x6 x7 S C T → C ≤ kc ∧ T ≤ kt → zH D y A0 s H locs S → lv_has ls 8 [(0, .ref (zh y x0)), (1, .ref (zh y x1)), (2, .ref (zh y x2)), (3, .int x3), (4, .int x4), (5, .int x5), (6, .int x6), (7, .int x7)] → W p l e ({ frames := 7, cells := kc, slots := kt, locals := 151 } : Room) s m args below meth c H locs (kc - C) (kt - T) Q (F0 m 29 ls [])) {x0 : Nat} {x1 : Nat} {x2 : Nat} {x3 : Int32} {x4 : Int32} {x5 : Int32} {x6 : Int32} {x7 : Int32} {S : ZS} {C T : Nat} {H : Heap} {locs : List Loc} {ls : Array Slot} (hf : g_X8_matched_79 Pw self29 x0 x1 x2 x3 x4 x5 x6 x7 S C T) (hCT : C ≤ kc ∧ T ≤ kt) (hM : zH D y A0 s H locs S) (hl : lv_has ls 8 [(0, .ref (zh y x0)), (1, .ref (zh y x1)), (2, .ref (zh y x2)), (3, .int x3), (4, .int x4), (5, .int x5), (6, .int x6), (7, .int x7)]) : W p l e ({ frames := 7, cells := kc, slots := kt, locals := 151 } : Room) s m args below meth c H locs (kc - C) (kt - T) Q (F0 m 79 ls []) := by
  obtain ⟨hx, hb, hml, hown, hts⟩ := id X
  unfold g_X8_matched_79 at hf
  obtain ⟨v1, ev, hf⟩ := m_bndPE hf
  refine lv_iinc (v := v1) (lv' := [(7, .int v1), (0, .ref (zh y x0)), (1, .ref (zh y x1)), (2, .ref (zh y x2)), (3, .int x3), (4, .int x4), (5, .int x5), (6, .int x6)]) hx hb dX8_matched_79 hl (k := 7) rfl (by rw [ev]; rfl) (by decide) rfl (fun ls hl => ?_)
  clear ev
  refine lv_goto (tgt := 29) hx hb dX8_matched_82 (by decide) ?_
  exact hself29 x0 x1 x2 x3 x4 x5 x6 v1 _ _ _ _ _ _ hf hCT hM (lv_sub hl [1, 2, 3, 4, 5, 6, 7, 0] rfl)
noncomputable def g_X8_matched_67 (Pw : Int32 → ZS → Prop) (self29 : Nat → Nat → Nat → Int32 → Int32 → Int32 → Int32 → Int32 → ZS → Nat → Nat → Prop) (x0 : Nat) (x1 : Nat) (x2 : Nat) (x3 : Int32) (x4 : Int32) (x6 : Int32) (x7 : Int32) (S : ZS) (C T : Nat) : Prop :=
  m_chkQ (zK S x0 = 8) (
  m_calP (zP S 10 x0) (fun b1 =>
  m_chkQ (zK S b1 = 14) (
  m_chkQ (¬ (x7 < 0 ∨ zN S b1 ≤ (x7).toNatClampNeg)) (
  m_bndP (zA S b1 (x7).toNatClampNeg) (fun v2 =>
  m_bndP (x6 + (1 : Int32)) (fun v3 =>
  g_X8_matched_79 Pw self29 x0 x1 x2 x3 x4 v2 v3 x7 S (C) (T)))))))

set_option maxRecDepth 100000 in
set_option maxHeartbeats 4000000 in
theorem w_X8_matched_67 {p : Program} {l : Launch} {e : Env} {s : State} {m : MethodId} {args : Array Value} {below : List Frame} {meth : Method} {c : Code} {Q : State → Prop} {D : va_G} {y : Nat → ClassId} {A0 : Nat → Prop} {kc kt : Nat} {Pw : Int32 → ZS → Prop} (X : CallFix p m c cX8_matched 8 s args wsX8_matched RX8) (hret : zQi p l e ({ frames := 7, cells := kc, slots := kt, locals := 151 } : Room) s m args below meth c Q cX8_matched D y A0 .int Pw) {self29 : Nat → Nat → Nat → Int32 → Int32 → Int32 → Int32 → Int32 → ZS → Nat → Nat → Prop} (hself29 : ∀ (x0 : Nat) (x1 : Nat) (x2 : Nat) (x3 : Int32) (x4 : Int32) (x5 : Int32) (x6 : Int32) (x7 : Int32) (S : ZS) (C T : Nat) (H : Heap) (locs : List Loc) (ls : Array Slot), self29 x0 x1 x2 x3 x4 x5 x6 x7 S C T → C ≤ kc ∧ T ≤ kt → zH D y A0 s H locs S → lv_has ls 8 [(0, .ref (zh y x0)), (1, .ref (zh y x1)), (2, .ref (zh y x2)), (3, .int x3), (4, .int x4), (5, .int x5), (6, .int x6), (7, .int x7)] → W p l e ({ frames := 7, cells := kc, slots := kt, locals := 151 } : Room) s m args below meth c H locs (kc - C) (kt - T) Q (F0 m 29 ls [])) {x0 : Nat} {x1 : Nat} {x2 : Nat} {x3 : Int32} {x4 : Int32} {x6 : Int32} {x7 : Int32} {S : ZS} {C T : Nat} {H : Heap} {locs : List Loc} {ls : Array Slot} (hf : g_X8_matched_67 Pw self29 x0 x1 x2 x3 x4 x6 x7 S C T) (hCT : C ≤ kc ∧ T ≤ kt) (hM : zH D y A0 s H locs S) (hl : lv_has ls 8 [(0, .ref (zh y x0)), (1, .ref (zh y x1)), (2, .ref (zh y x2)), (3, .int x3), (4, .int x4), (6, .int x6), (7, .int x7)]) : W p l e ({ frames := 7, cells := kc, slots := kt, locals := 151 } : Room) s m args below meth c H locs (kc - C) (kt - T) Q (F0 m 67 ls []) := by
  obtain ⟨hx, hb, hml, hown, hts⟩ := id X
  unfold g_X8_matched_67 at hf
  refine lv_aload_n hx hb dX8_matched_67 rfl (lv_at hl 0 rfl) ?_
  obtain ⟨ca, hf⟩ := m_chkPE hf
  replace ca := z_in hM (by decide) ca
  refine z_get (k := 8) (j := 10) (C := RX8) (T := TX8) (N := 12) (fl := zf_8) (v := va_rf ((zP S 10 x0).map (zh y))) X hw_X8_matched_8 hM rfl zc_8 ca (by decide) fl_X8_matched_8_10 rfl dX8_matched_68 ?_
  clear ca
  obtain ⟨b1, hb9, hf⟩ := m_calPE hf
  refine z_topr hb9 ?_
  clear hb9
  refine lv_iload hx hb dX8_matched_71 (lv_at hl 6 rfl) ?_
  obtain ⟨ca, hf⟩ := m_chkPE hf
  replace ca := z_in hM (by decide) ca
  obtain ⟨cd, hf⟩ := m_chkPE hf
  refine z_iald X hM ca cd dX8_matched_73 ?_
  clear ca cd
  obtain ⟨v2, ev, hf⟩ := m_bndPE hf
  refine m_top ev ?_
  clear ev
  refine lv_istore (lv' := [(5, .int v2), (0, .ref (zh y x0)), (1, .ref (zh y x1)), (2, .ref (zh y x2)), (3, .int x3), (4, .int x4), (6, .int x6), (7, .int x7)]) hx hb dX8_matched_74 hl (by decide) rfl (fun ls hl => ?_)
  obtain ⟨v3, ev, hf⟩ := m_bndPE hf
  refine lv_iinc (v := v3) (lv' := [(6, .int v3), (5, .int v2), (0, .ref (zh y x0)), (1, .ref (zh y x1)), (2, .ref (zh y x2)), (3, .int x3), (4, .int x4), (7, .int x7)]) hx hb dX8_matched_76 hl (k := 6) rfl (by rw [ev]; rfl) (by decide) rfl (fun ls hl => ?_)
  clear ev
  exact w_X8_matched_79 (x0 := x0) (x1 := x1) (x2 := x2) (x3 := x3) (x4 := x4) (x5 := v2) (x6 := v3) (x7 := x7) X hret hself29 hf hCT hM (lv_sub hl [2, 3, 4, 5, 6, 1, 0, 7] rfl)
noncomputable def g_X8_matched_29s (Pw : Int32 → ZS → Prop) (self29 : Nat → Nat → Nat → Int32 → Int32 → Int32 → Int32 → Int32 → ZS → Nat → Nat → Prop) (x0 : Nat) (x1 : Nat) (x2 : Nat) (x3 : Int32) (x4 : Int32) (x5 : Int32) (x6 : Int32) (x7 : Int32) (S : ZS) (C T : Nat) : Prop :=
  m_chkQ (zK S x0 = 8) (
  m_ifQ ((zI S 11 x0) ≤ x7) (
  m_ifQ (x6 ≤ 0) (
  g_X8_matched_103 Pw x0 x1 x2 x3 x4 S (C) (T)
  ) (
  m_ifQ (x6 = (1 : Int32)) (
  g_X8_matched_102 Pw x5 S (C) (T)
  ) (
  g_X8_matched_102 Pw (-1 : Int32) S (C) (T)
  )
  )
  ) (
  m_chkQ (zK S x0 = 8) (
  m_ifQ ((zI S 9 x0) = 0) (
  g_X8_matched_67 Pw self29 x0 x1 x2 x3 x4 x6 x7 S (C) (T)
  ) (
  m_chkQ (zK S x0 = 8) (
  m_chkQ (zK S x0 = 8) (
  m_calP (zP S 0 x0) (fun b1 =>
  m_chkQ (zK S x0 = 8) (
  m_calP (zP S 10 x0) (fun b2 =>
  m_chkQ (zK S b2 = 14) (
  m_chkQ (¬ (x7 < 0 ∨ zN S b2 ≤ (x7).toNatClampNeg)) (
  m_bndP (zA S b2 (x7).toNatClampNeg) (fun v3 =>
  m_chkQ (zK S b1 = 7) (
  m_calP (f_X7_checkSign b1 x1 v3 S) (fun o4 =>
  m_ifQ ((zI S 9 x0) = o4.1) (
  g_X8_matched_67 Pw self29 x0 x1 x2 x3 x4 x6 x7 o4.2 (C) (T)
  ) (
  g_X8_matched_79 Pw self29 x0 x1 x2 x3 x4 x5 x6 x7 o4.2 (C) (T)
  )))))))))))
  ))
  ))

set_option maxRecDepth 100000 in
set_option maxHeartbeats 4000000 in
theorem ws_X8_matched_29 {p : Program} {l : Launch} {e : Env} {s : State} {m : MethodId} {args : Array Value} {below : List Frame} {meth : Method} {c : Code} {Q : State → Prop} {D : va_G} {y : Nat → ClassId} {A0 : Nat → Prop} {kc kt : Nat} {Pw : Int32 → ZS → Prop} (X : CallFix p m c cX8_matched 8 s args wsX8_matched RX8) (hret : zQi p l e ({ frames := 7, cells := kc, slots := kt, locals := 151 } : Room) s m args below meth c Q cX8_matched D y A0 .int Pw) {self29 : Nat → Nat → Nat → Int32 → Int32 → Int32 → Int32 → Int32 → ZS → Nat → Nat → Prop} (hself29 : ∀ (x0 : Nat) (x1 : Nat) (x2 : Nat) (x3 : Int32) (x4 : Int32) (x5 : Int32) (x6 : Int32) (x7 : Int32) (S : ZS) (C T : Nat) (H : Heap) (locs : List Loc) (ls : Array Slot), self29 x0 x1 x2 x3 x4 x5 x6 x7 S C T → C ≤ kc ∧ T ≤ kt → zH D y A0 s H locs S → lv_has ls 8 [(0, .ref (zh y x0)), (1, .ref (zh y x1)), (2, .ref (zh y x2)), (3, .int x3), (4, .int x4), (5, .int x5), (6, .int x6), (7, .int x7)] → W p l e ({ frames := 7, cells := kc, slots := kt, locals := 151 } : Room) s m args below meth c H locs (kc - C) (kt - T) Q (F0 m 29 ls [])) {x0 : Nat} {x1 : Nat} {x2 : Nat} {x3 : Int32} {x4 : Int32} {x5 : Int32} {x6 : Int32} {x7 : Int32} {S : ZS} {C T : Nat} {H : Heap} {locs : List Loc} {ls : Array Slot} (hf : g_X8_matched_29s Pw self29 x0 x1 x2 x3 x4 x5 x6 x7 S C T) (hCT : C ≤ kc ∧ T ≤ kt) (hM : zH D y A0 s H locs S) (hl : lv_has ls 8 [(0, .ref (zh y x0)), (1, .ref (zh y x1)), (2, .ref (zh y x2)), (3, .int x3), (4, .int x4), (5, .int x5), (6, .int x6), (7, .int x7)]) : W p l e ({ frames := 7, cells := kc, slots := kt, locals := 151 } : Room) s m args below meth c H locs (kc - C) (kt - T) Q (F0 m 29 ls []) := by
  obtain ⟨hx, hb, hml, hown, hts⟩ := id X
  unfold g_X8_matched_29s at hf
  refine lv_iload hx hb dX8_matched_29 (lv_at hl 7 rfl) ?_
  refine lv_aload_n hx hb dX8_matched_31 rfl (lv_at hl 0 rfl) ?_
  obtain ⟨ca, hf⟩ := m_chkPE hf
  replace ca := z_in hM (by decide) ca
  refine z_get (k := 8) (j := 11) (C := RX8) (T := TX8) (N := 12) (fl := zf_8) (v := .int (zI S 11 x0)) X hw_X8_matched_8 hM rfl zc_8 ca (by decide) fl_X8_matched_8_11 rfl dX8_matched_32 ?_
  clear ca
  refine lv_icmp_ge (tgt := 85) hx hb dX8_matched_35 (by decide) (fun cc1 => ?_) (fun cc1 => ?_)
  · replace hf := m_ifPT hf cc1
    refine lv_iload hx hb dX8_matched_85 (lv_at hl 6 rfl) ?_
    refine lv_if_le (tgt := 103) hx hb dX8_matched_87 (by decide) (fun cc1 => ?_) (fun cc1 => ?_)
    · replace hf := m_ifPT hf cc1
      exact w_X8_matched_103 (x0 := x0) (x1 := x1) (x2 := x2) (x3 := x3) (x4 := x4) X hret hf hCT hM (lv_sub hl [0, 1, 2, 3, 4] rfl)
    · replace hf := m_ifPF hf cc1
      refine lv_iload hx hb dX8_matched_90 (lv_at hl 6 rfl) ?_
      refine lv_iconst (v := (1 : Int32)) hx hb dX8_matched_92 (by decide) ?_
      refine lv_icmp_ne (tgt := 101) hx hb dX8_matched_93 (by decide) (fun cc1 => ?_) (fun cc1 => ?_)
      · replace hf := m_ifPF hf cc1
        refine lv_iconst (v := (-1 : Int32)) hx hb dX8_matched_101 (by decide) ?_
        exact w_X8_matched_102 (t0 := (-1 : Int32)) X hret hf hCT hM (lv_sub hl [] rfl)
      · replace hf := m_ifPT hf cc1
        refine lv_iload hx hb dX8_matched_96 (lv_at hl 5 rfl) ?_
        refine lv_goto (tgt := 102) hx hb dX8_matched_98 (by decide) ?_
        exact w_X8_matched_102 (t0 := x5) X hret hf hCT hM (lv_sub hl [] rfl)
  · replace hf := m_ifPF hf cc1
    refine lv_aload_n hx hb dX8_matched_38 rfl (lv_at hl 0 rfl) ?_
    obtain ⟨ca, hf⟩ := m_chkPE hf
    replace ca := z_in hM (by decide) ca
    refine z_get (k := 8) (j := 9) (C := RX8) (T := TX8) (N := 12) (fl := zf_8) (v := .int (zI S 9 x0)) X hw_X8_matched_8 hM rfl zc_8 ca (by decide) fl_X8_matched_8_9 rfl dX8_matched_39 ?_
    clear ca
    refine lv_if_eq (tgt := 67) hx hb dX8_matched_42 (by decide) (fun cc1 => ?_) (fun cc1 => ?_)
    · replace hf := m_ifPT hf cc1
      exact w_X8_matched_67 (x0 := x0) (x1 := x1) (x2 := x2) (x3 := x3) (x4 := x4) (x6 := x6) (x7 := x7) X hret hself29 hf hCT hM (lv_sub hl [0, 1, 2, 3, 4, 6, 7] rfl)
    · replace hf := m_ifPF hf cc1
      refine lv_aload_n hx hb dX8_matched_45 rfl (lv_at hl 0 rfl) ?_
      obtain ⟨ca, hf⟩ := m_chkPE hf
      replace ca := z_in hM (by decide) ca
      refine z_get (k := 8) (j := 9) (C := RX8) (T := TX8) (N := 12) (fl := zf_8) (v := .int (zI S 9 x0)) X hw_X8_matched_8 hM rfl zc_8 ca (by decide) fl_X8_matched_8_9 rfl dX8_matched_46 ?_
      clear ca
      refine lv_aload_n hx hb dX8_matched_49 rfl (lv_at hl 0 rfl) ?_
      obtain ⟨ca, hf⟩ := m_chkPE hf
      replace ca := z_in hM (by decide) ca
      refine z_get (k := 8) (j := 0) (C := RX8) (T := TX8) (N := 12) (fl := zf_8) (v := va_rf ((zP S 0 x0).map (zh y))) X hw_X8_matched_8 hM rfl zc_8 ca (by decide) fl_X8_matched_8_0 rfl dX8_matched_50 ?_
      clear ca
      obtain ⟨b1, hb9, hf⟩ := m_calPE hf
      refine z_topr hb9 ?_
      clear hb9
      refine lv_aload_n hx hb dX8_matched_53 rfl (lv_at hl 1 rfl) ?_
      refine lv_aload_n hx hb dX8_matched_54 rfl (lv_at hl 0 rfl) ?_
      obtain ⟨ca, hf⟩ := m_chkPE hf
      replace ca := z_in hM (by decide) ca
      refine z_get (k := 8) (j := 10) (C := RX8) (T := TX8) (N := 12) (fl := zf_8) (v := va_rf ((zP S 10 x0).map (zh y))) X hw_X8_matched_8 hM rfl zc_8 ca (by decide) fl_X8_matched_8_10 rfl dX8_matched_55 ?_
      clear ca
      obtain ⟨b2, hb9, hf⟩ := m_calPE hf
      refine z_topr hb9 ?_
      clear hb9
      refine lv_iload hx hb dX8_matched_58 (lv_at hl 7 rfl) ?_
      obtain ⟨ca, hf⟩ := m_chkPE hf
      replace ca := z_in hM (by decide) ca
      obtain ⟨cd, hf⟩ := m_chkPE hf
      refine z_iald X hM ca cd dX8_matched_60 ?_
      clear ca cd
      obtain ⟨v3, ev, hf⟩ := m_bndPE hf
      refine m_top ev ?_
      clear ev
      obtain ⟨ca, hf⟩ := m_chkPE hf
      replace ca := z_in hM (by decide) ca
      obtain ⟨o4, ho, hf⟩ := m_calPE hf
      refine z_gcallVi (k := 7) (C := RX7) (T := TX7) (N := 2) (fl := zf_7) X hM rfl zc_7 ca (c_X7_checkSign ho) gX8_matched_X7_checkSign rfl ⟨rfl, rfl⟩ hd_X7_checkSign ⟨Nat.le_of_ble_eq_true rfl, Nat.le_of_ble_eq_true rfl⟩ rfl hl.1 rfl ⟨Nat.sub_le _ _, Nat.sub_le _ _⟩ (Nat.le_of_ble_eq_true rfl) dX8_matched_61 (fun H locs hM => ?_)
      clear ho
      refine lv_icmp_ne (tgt := 79) hx hb dX8_matched_64 (by decide) (fun cc1 => ?_) (fun cc1 => ?_)
      · replace hf := m_ifPF hf cc1
        exact w_X8_matched_79 (x0 := x0) (x1 := x1) (x2 := x2) (x3 := x3) (x4 := x4) (x5 := x5) (x6 := x6) (x7 := x7) X hret hself29 hf hCT hM (lv_sub hl [0, 1, 2, 3, 4, 5, 6, 7] rfl)
      · replace hf := m_ifPT hf cc1
        exact w_X8_matched_67 (x0 := x0) (x1 := x1) (x2 := x2) (x3 := x3) (x4 := x4) (x6 := x6) (x7 := x7) X hret hself29 hf hCT hM (lv_sub hl [0, 1, 2, 3, 4, 6, 7] rfl)
noncomputable def g_X8_matched_29 (Pw : Int32 → ZS → Prop) : Nat → Nat → Nat → Nat → Int32 → Int32 → Int32 → Int32 → Int32 → ZS → Nat → Nat → Prop
  | 0 => fun _ _ _ _ _ _ _ _ _ _ _ => False
  | n + 1 => g_X8_matched_29s Pw (g_X8_matched_29 Pw n)
theorem w_X8_matched_29 {p : Program} {l : Launch} {e : Env} {s : State} {m : MethodId} {args : Array Value} {below : List Frame} {meth : Method} {c : Code} {Q : State → Prop} {D : va_G} {y : Nat → ClassId} {A0 : Nat → Prop} {kc kt : Nat} {Pw : Int32 → ZS → Prop} (X : CallFix p m c cX8_matched 8 s args wsX8_matched RX8) (hret : zQi p l e ({ frames := 7, cells := kc, slots := kt, locals := 151 } : Room) s m args below meth c Q cX8_matched D y A0 .int Pw) (n : Nat) : ∀ (x0 : Nat) (x1 : Nat) (x2 : Nat) (x3 : Int32) (x4 : Int32) (x5 : Int32) (x6 : Int32) (x7 : Int32) (S : ZS) (C T : Nat) (H : Heap) (locs : List Loc) (ls : Array Slot), g_X8_matched_29 Pw n x0 x1 x2 x3 x4 x5 x6 x7 S C T → C ≤ kc ∧ T ≤ kt → zH D y A0 s H locs S → lv_has ls 8 [(0, .ref (zh y x0)), (1, .ref (zh y x1)), (2, .ref (zh y x2)), (3, .int x3), (4, .int x4), (5, .int x5), (6, .int x6), (7, .int x7)] → W p l e ({ frames := 7, cells := kc, slots := kt, locals := 151 } : Room) s m args below meth c H locs (kc - C) (kt - T) Q (F0 m 29 ls []) := by
  induction n with
  | zero => intro x0 x1 x2 x3 x4 x5 x6 x7 S C T H locs ls hf; exact absurd hf id
  | succ n ih => intro x0 x1 x2 x3 x4 x5 x6 x7 S C T H locs ls hf hCT hM hl; exact ws_X8_matched_29 X hret (self29 := g_X8_matched_29 Pw n) ih hf hCT hM hl
noncomputable def g_X8_matched_0 (Pw : Int32 → ZS → Prop) (x0 : Nat) (x1 : Nat) (x2 : Nat) (x3 : Int32) (x4 : Int32) (S : ZS) (C T : Nat) : Prop :=
  m_chkQ (zK S x0 = 8) (
  m_gal (C) (T) (fun mc ms Pw => g_X8_copyWhole x0 x2 x3 x4 S mc ms Pw) (fun r2 S3 C4 T5 =>
  m_chkQ (zK S3 x0 = 8) (
  m_calP (f_X8_parse x0 S3) (fun o6 =>
  m_ifQ (o6.1 = 0) (
  g_X8_matched_103 Pw x0 x1 x2 x3 x4 o6.2 (C4) (T5)
  ) (
  m_chkQ (zK o6.2 x0 = 8) (
  m_calP (f_X8_gather x0 x1 o6.2) (fun o7 =>
  g_X8_matched_29 Pw mFuel x0 x1 x2 x3 x4 (-1 : Int32) (0 : Int32) (0 : Int32) o7.2 (C4) (T5)))
  )))))

set_option maxRecDepth 100000 in
set_option maxHeartbeats 4000000 in
theorem w_X8_matched_0 {p : Program} {l : Launch} {e : Env} {s : State} {m : MethodId} {args : Array Value} {below : List Frame} {meth : Method} {c : Code} {Q : State → Prop} {D : va_G} {y : Nat → ClassId} {A0 : Nat → Prop} {kc kt : Nat} {Pw : Int32 → ZS → Prop} (X : CallFix p m c cX8_matched 8 s args wsX8_matched RX8) (hret : zQi p l e ({ frames := 7, cells := kc, slots := kt, locals := 151 } : Room) s m args below meth c Q cX8_matched D y A0 .int Pw) {x0 : Nat} {x1 : Nat} {x2 : Nat} {x3 : Int32} {x4 : Int32} {S : ZS} {C T : Nat} {H : Heap} {locs : List Loc} {ls : Array Slot} (hf : g_X8_matched_0 Pw x0 x1 x2 x3 x4 S C T) (hCT : C ≤ kc ∧ T ≤ kt) (hM : zH D y A0 s H locs S) (hl : lv_has ls 8 [(0, .ref (zh y x0)), (1, .ref (zh y x1)), (2, .ref (zh y x2)), (3, .int x3), (4, .int x4)]) : W p l e ({ frames := 7, cells := kc, slots := kt, locals := 151 } : Room) s m args below meth c H locs (kc - C) (kt - T) Q (F0 m 0 ls []) := by
  obtain ⟨hx, hb, hml, hown, hts⟩ := id X
  unfold g_X8_matched_0 at hf
  refine lv_aload_n hx hb dX8_matched_0 rfl (lv_at hl 0 rfl) ?_
  refine lv_aload_n hx hb dX8_matched_1 rfl (lv_at hl 2 rfl) ?_
  refine lv_iload_n hx hb dX8_matched_2 rfl (lv_at hl 3 rfl) ?_
  refine lv_iload hx hb dX8_matched_3 (lv_at hl 4 rfl) ?_
  obtain ⟨ca, hf⟩ := m_chkPE hf
  replace ca := z_in hM (by decide) ca
  obtain ⟨mc, ms, hcm, ho⟩ := m_galE hf
  refine z_wcallVv (k := 8) (C := RX8) (T := TX8) (N := 12) (fl := zf_8) X hM rfl zc_8 ca (c_X8_copyWhole ho) gX8_matched_X8_copyWhole rfl ⟨rfl, rfl⟩ ⟨by show kc - (C) + mc ≤ kc; omega, by show kt - (T) + ms ≤ kt; omega⟩ hd_X8_copyWhole ⟨Nat.le_of_ble_eq_true rfl, Nat.le_of_ble_eq_true rfl⟩ rfl hl.1 rfl (Nat.le_of_ble_eq_true rfl) dX8_matched_5 (fun S3 H locs hf hM => ?_)
  refine z_eqCS (c2 := kc - (C - mc)) (t2 := kt - (T - ms)) (by omega) (by omega) ?_
  replace hCT : C - mc ≤ kc ∧ T - ms ≤ kt := by omega
  generalize C - mc = C4 at hf hCT ⊢
  generalize T - ms = T5 at hf hCT ⊢
  clear ho hcm
  refine lv_aload_n hx hb dX8_matched_8 rfl (lv_at hl 0 rfl) ?_
  obtain ⟨ca, hf⟩ := m_chkPE hf
  replace ca := z_in hM (by decide) ca
  obtain ⟨o6, ho, hf⟩ := m_calPE hf
  refine z_gcallVi (k := 8) (C := RX8) (T := TX8) (N := 12) (fl := zf_8) X hM rfl zc_8 ca (c_X8_parse ho) gX8_matched_X8_parse rfl ⟨rfl, rfl⟩ hd_X8_parse ⟨Nat.le_of_ble_eq_true rfl, Nat.le_of_ble_eq_true rfl⟩ rfl hl.1 rfl ⟨Nat.sub_le _ _, Nat.sub_le _ _⟩ (Nat.le_of_ble_eq_true rfl) dX8_matched_9 (fun H locs hM => ?_)
  clear ho
  refine lv_if_eq (tgt := 103) hx hb dX8_matched_12 (by decide) (fun cc1 => ?_) (fun cc1 => ?_)
  · replace hf := m_ifPT hf cc1
    exact w_X8_matched_103 (x0 := x0) (x1 := x1) (x2 := x2) (x3 := x3) (x4 := x4) X hret hf hCT hM (lv_sub hl [0, 1, 2, 3, 4] rfl)
  · replace hf := m_ifPF hf cc1
    refine lv_aload_n hx hb dX8_matched_15 rfl (lv_at hl 0 rfl) ?_
    refine lv_aload_n hx hb dX8_matched_16 rfl (lv_at hl 1 rfl) ?_
    obtain ⟨ca, hf⟩ := m_chkPE hf
    replace ca := z_in hM (by decide) ca
    obtain ⟨o7, ho, hf⟩ := m_calPE hf
    refine z_gcallVv (k := 8) (C := RX8) (T := TX8) (N := 12) (fl := zf_8) X hM rfl zc_8 ca (c_X8_gather ho) gX8_matched_X8_gather rfl ⟨rfl, rfl⟩ hd_X8_gather ⟨Nat.le_of_ble_eq_true rfl, Nat.le_of_ble_eq_true rfl⟩ rfl hl.1 rfl ⟨Nat.sub_le _ _, Nat.sub_le _ _⟩ (Nat.le_of_ble_eq_true rfl) dX8_matched_17 (fun H locs hM => ?_)
    clear ho
    refine lv_iconst (v := (-1 : Int32)) hx hb dX8_matched_20 (by decide) ?_
    refine lv_istore (lv' := [(5, .int (-1 : Int32)), (0, .ref (zh y x0)), (1, .ref (zh y x1)), (2, .ref (zh y x2)), (3, .int x3), (4, .int x4)]) hx hb dX8_matched_21 hl (by decide) rfl (fun ls hl => ?_)
    refine lv_iconst (v := (0 : Int32)) hx hb dX8_matched_23 (by decide) ?_
    refine lv_istore (lv' := [(6, .int (0 : Int32)), (5, .int (-1 : Int32)), (0, .ref (zh y x0)), (1, .ref (zh y x1)), (2, .ref (zh y x2)), (3, .int x3), (4, .int x4)]) hx hb dX8_matched_24 hl (by decide) rfl (fun ls hl => ?_)
    refine lv_iconst (v := (0 : Int32)) hx hb dX8_matched_26 (by decide) ?_
    refine lv_istore (lv' := [(7, .int (0 : Int32)), (6, .int (0 : Int32)), (5, .int (-1 : Int32)), (0, .ref (zh y x0)), (1, .ref (zh y x1)), (2, .ref (zh y x2)), (3, .int x3), (4, .int x4)]) hx hb dX8_matched_27 hl (by decide) rfl (fun ls hl => ?_)
    exact w_X8_matched_29 X hret _ x0 x1 x2 x3 x4 (-1 : Int32) (0 : Int32) (0 : Int32) _ _ _ _ _ _ hf hCT hM (lv_sub hl [3, 4, 5, 6, 7, 2, 1, 0] rfl)
noncomputable def g_X8_matched (x0 : Nat) (x1 : Nat) (x2 : Nat) (x3 : Int32) (x4 : Int32) (S : ZS) (mc ms : Nat) (Pw : Int32 → ZS → Prop) : Prop := g_X8_matched_0 Pw x0 x1 x2 x3 x4 S mc ms
theorem c_X8_matched {l : Launch} {D : va_G} {y : Nat → ClassId} {x0 : Nat} {x1 : Nat} {x2 : Nat} {x3 : Int32} {x4 : Int32} {S : ZS} {kc kt : Nat} {Pw : Int32 → ZS → Prop} (hf : g_X8_matched x0 x1 x2 x3 x4 S kc kt Pw) : zWi l yX8_matched wsX8_matched ({ frames := 7, cells := kc, slots := kt, locals := 151 } : Room) [.ref (zh y x0), .ref (zh y x1), .ref (zh y x2), .int x3, .int x4] D y S kc kt Pw :=
  z_wentI (own := RX8) (cc := cX8_matched) (maxL := 8) (by decide) rfl rfl (Nat.le_of_ble_eq_true rfl) ⟨rfl, rfl⟩ (fun p e s m args below meth c A0 Q H locs ls X hret hM hl => w_X8_matched_0 X hret hf ⟨Nat.le_refl _, Nat.le_refl _⟩ hM (lv_sub hl [0, 1, 2, 3, 4] rfl))
theorem hd_X2_shortMark : yX2_shortMark.cls ≠ "java/lang/invoke/MethodHandle" ∧ yX2_shortMark.cls ≠ "java/lang/invoke/VarHandle" ∧ (parseMethodDescriptor yX2_shortMark.desc).map (fun d => d.parameters.length) = some 2 := by decide +kernel
noncomputable def f_X2_shortMark_56 (t0 : Int32) (S : ZS) : Option (Int32 × ZS) :=
  some (t0, S)

set_option maxRecDepth 100000 in
set_option maxHeartbeats 4000000 in
theorem w_X2_shortMark_56 {p : Program} {l : Launch} {e : Env} {s : State} {m : MethodId} {args : Array Value} {below : List Frame} {meth : Method} {c : Code} {Q : State → Prop} {D : va_G} {y : Nat → ClassId} {A0 : Nat → Prop} {o : Int32 × ZS} (X : CallFix p m c cX2_shortMark 2 s args wsX2_shortMark RX2) (hret : zRi p l e ({ frames := 0, cells := 0, slots := 0, locals := 0 } : Room) s m args below meth c Q cX2_shortMark D y A0 .int o) {t0 : Int32} {S : ZS} {H : Heap} {locs : List Loc} {ls : Array Slot} (hf : f_X2_shortMark_56 t0 S = some o) (hM : zH D y A0 s H locs S) (hl : lv_has ls 2 []) : W p l e ({ frames := 0, cells := 0, slots := 0, locals := 0 } : Room) s m args below meth c H locs 0 0 Q (F0 m 56 ls [.int t0]) := by
  obtain ⟨hx, hb, hml, hown, hts⟩ := id X
  unfold f_X2_shortMark_56 at hf
  cases hf
  exact hret H locs _ ls hM rfl dX2_shortMark_56
noncomputable def f_X2_shortMark_27 (t0 : Int32) (S : ZS) : Option (Int32 × ZS) :=
  some (t0, S)

set_option maxRecDepth 100000 in
set_option maxHeartbeats 4000000 in
theorem w_X2_shortMark_27 {p : Program} {l : Launch} {e : Env} {s : State} {m : MethodId} {args : Array Value} {below : List Frame} {meth : Method} {c : Code} {Q : State → Prop} {D : va_G} {y : Nat → ClassId} {A0 : Nat → Prop} {o : Int32 × ZS} (X : CallFix p m c cX2_shortMark 2 s args wsX2_shortMark RX2) (hret : zRi p l e ({ frames := 0, cells := 0, slots := 0, locals := 0 } : Room) s m args below meth c Q cX2_shortMark D y A0 .int o) {t0 : Int32} {S : ZS} {H : Heap} {locs : List Loc} {ls : Array Slot} (hf : f_X2_shortMark_27 t0 S = some o) (hM : zH D y A0 s H locs S) (hl : lv_has ls 2 []) : W p l e ({ frames := 0, cells := 0, slots := 0, locals := 0 } : Room) s m args below meth c H locs 0 0 Q (F0 m 27 ls [.int t0]) := by
  obtain ⟨hx, hb, hml, hown, hts⟩ := id X
  unfold f_X2_shortMark_27 at hf
  cases hf
  exact hret H locs _ ls hM rfl dX2_shortMark_27
noncomputable def f_X2_shortMark_0 (x0 : Int32) (x1 : Int32) (S : ZS) : Option (Int32 × ZS) :=
  m_if (x0 = (33 : Int32)) (
  m_if (x1 = (33 : Int32)) (
  f_X2_shortMark_27 (3 : Int32) S
  ) (
  m_if (x1 = (63 : Int32)) (
  f_X2_shortMark_27 (5 : Int32) S
  ) (
  f_X2_shortMark_27 (1 : Int32) S
  )
  )
  ) (
  m_if (x0 = (63 : Int32)) (
  m_if (x1 = (63 : Int32)) (
  f_X2_shortMark_56 (4 : Int32) S
  ) (
  m_if (x1 = (33 : Int32)) (
  f_X2_shortMark_56 (6 : Int32) S
  ) (
  f_X2_shortMark_56 (2 : Int32) S
  )
  )
  ) (
  some ((0 : Int32), S)
  )
  )

set_option maxRecDepth 100000 in
set_option maxHeartbeats 4000000 in
theorem w_X2_shortMark_0 {p : Program} {l : Launch} {e : Env} {s : State} {m : MethodId} {args : Array Value} {below : List Frame} {meth : Method} {c : Code} {Q : State → Prop} {D : va_G} {y : Nat → ClassId} {A0 : Nat → Prop} {o : Int32 × ZS} (X : CallFix p m c cX2_shortMark 2 s args wsX2_shortMark RX2) (hret : zRi p l e ({ frames := 0, cells := 0, slots := 0, locals := 0 } : Room) s m args below meth c Q cX2_shortMark D y A0 .int o) {x0 : Int32} {x1 : Int32} {S : ZS} {H : Heap} {locs : List Loc} {ls : Array Slot} (hf : f_X2_shortMark_0 x0 x1 S = some o) (hM : zH D y A0 s H locs S) (hl : lv_has ls 2 [(0, .int x0), (1, .int x1)]) : W p l e ({ frames := 0, cells := 0, slots := 0, locals := 0 } : Room) s m args below meth c H locs 0 0 Q (F0 m 0 ls []) := by
  obtain ⟨hx, hb, hml, hown, hts⟩ := id X
  unfold f_X2_shortMark_0 at hf
  refine lv_iload_n hx hb dX2_shortMark_0 rfl (lv_at hl 0 rfl) ?_
  refine lv_bipush (v := (33 : Int32)) hx hb dX2_shortMark_1 (by decide) ?_
  refine lv_icmp_ne (tgt := 28) hx hb dX2_shortMark_3 (by decide) (fun cc1 => ?_) (fun cc1 => ?_)
  · replace hf := m_ifF hf cc1
    refine lv_iload_n hx hb dX2_shortMark_28 rfl (lv_at hl 0 rfl) ?_
    refine lv_bipush (v := (63 : Int32)) hx hb dX2_shortMark_29 (by decide) ?_
    refine lv_icmp_ne (tgt := 57) hx hb dX2_shortMark_31 (by decide) (fun cc1 => ?_) (fun cc1 => ?_)
    · replace hf := m_ifF hf cc1
      refine lv_iconst (v := (0 : Int32)) hx hb dX2_shortMark_57 (by decide) ?_
      cases hf
      exact hret H locs _ ls hM rfl dX2_shortMark_58
    · replace hf := m_ifT hf cc1
      refine lv_iload_n hx hb dX2_shortMark_34 rfl (lv_at hl 1 rfl) ?_
      refine lv_bipush (v := (63 : Int32)) hx hb dX2_shortMark_35 (by decide) ?_
      refine lv_icmp_ne (tgt := 44) hx hb dX2_shortMark_37 (by decide) (fun cc1 => ?_) (fun cc1 => ?_)
      · replace hf := m_ifF hf cc1
        refine lv_iload_n hx hb dX2_shortMark_44 rfl (lv_at hl 1 rfl) ?_
        refine lv_bipush (v := (33 : Int32)) hx hb dX2_shortMark_45 (by decide) ?_
        refine lv_icmp_ne (tgt := 55) hx hb dX2_shortMark_47 (by decide) (fun cc1 => ?_) (fun cc1 => ?_)
        · replace hf := m_ifF hf cc1
          refine lv_iconst (v := (2 : Int32)) hx hb dX2_shortMark_55 (by decide) ?_
          exact w_X2_shortMark_56 (t0 := (2 : Int32)) X hret hf hM (lv_sub hl [] rfl)
        · replace hf := m_ifT hf cc1
          refine lv_bipush (v := (6 : Int32)) hx hb dX2_shortMark_50 (by decide) ?_
          refine lv_goto (tgt := 56) hx hb dX2_shortMark_52 (by decide) ?_
          exact w_X2_shortMark_56 (t0 := (6 : Int32)) X hret hf hM (lv_sub hl [] rfl)
      · replace hf := m_ifT hf cc1
        refine lv_iconst (v := (4 : Int32)) hx hb dX2_shortMark_40 (by decide) ?_
        refine lv_goto (tgt := 56) hx hb dX2_shortMark_41 (by decide) ?_
        exact w_X2_shortMark_56 (t0 := (4 : Int32)) X hret hf hM (lv_sub hl [] rfl)
  · replace hf := m_ifT hf cc1
    refine lv_iload_n hx hb dX2_shortMark_6 rfl (lv_at hl 1 rfl) ?_
    refine lv_bipush (v := (33 : Int32)) hx hb dX2_shortMark_7 (by decide) ?_
    refine lv_icmp_ne (tgt := 16) hx hb dX2_shortMark_9 (by decide) (fun cc1 => ?_) (fun cc1 => ?_)
    · replace hf := m_ifF hf cc1
      refine lv_iload_n hx hb dX2_shortMark_16 rfl (lv_at hl 1 rfl) ?_
      refine lv_bipush (v := (63 : Int32)) hx hb dX2_shortMark_17 (by decide) ?_
      refine lv_icmp_ne (tgt := 26) hx hb dX2_shortMark_19 (by decide) (fun cc1 => ?_) (fun cc1 => ?_)
      · replace hf := m_ifF hf cc1
        refine lv_iconst (v := (1 : Int32)) hx hb dX2_shortMark_26 (by decide) ?_
        exact w_X2_shortMark_27 (t0 := (1 : Int32)) X hret hf hM (lv_sub hl [] rfl)
      · replace hf := m_ifT hf cc1
        refine lv_iconst (v := (5 : Int32)) hx hb dX2_shortMark_22 (by decide) ?_
        refine lv_goto (tgt := 27) hx hb dX2_shortMark_23 (by decide) ?_
        exact w_X2_shortMark_27 (t0 := (5 : Int32)) X hret hf hM (lv_sub hl [] rfl)
    · replace hf := m_ifT hf cc1
      refine lv_iconst (v := (3 : Int32)) hx hb dX2_shortMark_12 (by decide) ?_
      refine lv_goto (tgt := 27) hx hb dX2_shortMark_13 (by decide) ?_
      exact w_X2_shortMark_27 (t0 := (3 : Int32)) X hret hf hM (lv_sub hl [] rfl)
noncomputable def f_X2_shortMark (x0 : Int32) (x1 : Int32) (S : ZS) : Option (Int32 × ZS) := f_X2_shortMark_0 x0 x1 S
theorem c_X2_shortMark {l : Launch} {D : va_G} {y : Nat → ClassId} {x0 : Int32} {x1 : Int32} {S : ZS} {o : Int32 × ZS} (hf : f_X2_shortMark x0 x1 S = some o) : zMi l yX2_shortMark wsX2_shortMark ({ frames := 0, cells := 0, slots := 0, locals := 0 } : Room) [.int x0, .int x1] D y S o :=
  z_entryI (own := RX2) (cc := cX2_shortMark) (maxL := 2) (by decide) rfl rfl (Nat.le_of_ble_eq_true rfl) (fun p e s m args below meth c A0 Q H locs ls X hret hM hl => w_X2_shortMark_0 X hret hf hM (lv_sub hl [0, 1] rfl))
theorem hd_X4_putMark : yX4_putMark.cls = RX4 ∧ yX4_putMark.cls ≠ "java/lang/invoke/MethodHandle" ∧ yX4_putMark.cls ≠ "java/lang/invoke/VarHandle" ∧ (parseMethodDescriptor yX4_putMark.desc).map (fun d => d.parameters.length) = some 1 := by decide +kernel
theorem fl_X4_putMark_4_4 : Cond.fieldLink RX4 24 "MoveTexts$Node" "markCount" "I" ∈ wsX4_putMark := by decide +kernel
theorem fl_X4_putMark_4_5 : Cond.fieldLink RX4 27 "MoveTexts$Node" "marks" "I" ∈ wsX4_putMark := by decide +kernel
theorem hw_X4_putMark_4 : ∀ w ∈ wsX40, w ∈ wsX4_putMark := by decide +kernel
noncomputable def f_X4_putMark_0 (x0 : Nat) (x1 : Int32) (S : ZS) : Option (Int32 × ZS) :=
  m_chk (zK S x0 = 4) (
  m_chk (zK S x0 = 4) (
  m_bnd ((8 : Int32) * (zI S 4 x0)) (fun v1 =>
  m_bnd (x1 <<< (v1 &&& 31)) (fun v2 =>
  m_bnd ((zI S 5 x0) ||| v2) (fun v3 =>
  m_chk (zK S x0 = 4) (
  m_bnd (zsI S 5 x0 v3) (fun S4 =>
  m_chk (zK S4 x0 = 4) (
  m_bnd ((zI S4 4 x0) + (1 : Int32)) (fun v5 =>
  m_chk (zK S4 x0 = 4) (
  m_bnd (zsI S4 4 x0 v5) (fun S6 =>
  some (0, S6))))))))))))

set_option maxRecDepth 100000 in
set_option maxHeartbeats 4000000 in
theorem w_X4_putMark_0 {p : Program} {l : Launch} {e : Env} {s : State} {m : MethodId} {args : Array Value} {below : List Frame} {meth : Method} {c : Code} {Q : State → Prop} {D : va_G} {y : Nat → ClassId} {A0 : Nat → Prop} {o : Int32 × ZS} (X : CallFix p m c cX4_putMark 2 s args wsX4_putMark RX4) (hret : zRv p l e ({ frames := 0, cells := 0, slots := 0, locals := 0 } : Room) s m args below meth c Q cX4_putMark D y A0 o) {x0 : Nat} {x1 : Int32} {S : ZS} {H : Heap} {locs : List Loc} {ls : Array Slot} (hf : f_X4_putMark_0 x0 x1 S = some o) (hM : zH D y A0 s H locs S) (hl : lv_has ls 2 [(0, .ref (zh y x0)), (1, .int x1)]) : W p l e ({ frames := 0, cells := 0, slots := 0, locals := 0 } : Room) s m args below meth c H locs 0 0 Q (F0 m 0 ls []) := by
  obtain ⟨hx, hb, hml, hown, hts⟩ := id X
  unfold f_X4_putMark_0 at hf
  refine lv_aload_n hx hb dX4_putMark_0 rfl (lv_at hl 0 rfl) ?_
  refine lv_dup hx hb dX4_putMark_1 rfl ?_
  obtain ⟨ca, hf⟩ := m_chkE hf
  replace ca := z_in hM (by decide) ca
  refine z_get (k := 4) (j := 5) (C := RX4) (T := TX4) (N := 7) (fl := zf_4) (v := .int (zI S 5 x0)) X hw_X4_putMark_4 hM rfl zc_4 ca (by decide) fl_X4_putMark_4_5 rfl dX4_putMark_2 ?_
  clear ca
  refine lv_iload_n hx hb dX4_putMark_5 rfl (lv_at hl 1 rfl) ?_
  refine lv_bipush (v := (8 : Int32)) hx hb dX4_putMark_6 (by decide) ?_
  refine lv_aload_n hx hb dX4_putMark_8 rfl (lv_at hl 0 rfl) ?_
  obtain ⟨ca, hf⟩ := m_chkE hf
  replace ca := z_in hM (by decide) ca
  refine z_get (k := 4) (j := 4) (C := RX4) (T := TX4) (N := 7) (fl := zf_4) (v := .int (zI S 4 x0)) X hw_X4_putMark_4 hM rfl zc_4 ca (by decide) fl_X4_putMark_4_4 rfl dX4_putMark_9 ?_
  clear ca
  refine lv_imul hx hb dX4_putMark_12 ?_
  obtain ⟨v1, ev, hf⟩ := m_bndE hf
  refine m_top ev ?_
  clear ev
  refine lv_ishl hx hb dX4_putMark_13 ?_
  obtain ⟨v2, ev, hf⟩ := m_bndE hf
  refine m_top ev ?_
  clear ev
  refine lv_ior hx hb dX4_putMark_14 ?_
  obtain ⟨v3, ev, hf⟩ := m_bndE hf
  refine m_top ev ?_
  clear ev
  obtain ⟨ca, hf⟩ := m_chkE hf
  replace ca := z_in hM (by decide) ca
  refine z_putI (k := 4) (j := 5) (C := RX4) (T := TX4) (N := 7) (fl := zf_4) (ty := .int) X hw_X4_putMark_4 tyX4_ok nmX4 hM rfl zc_4 ca (by decide) fl_X4_putMark_4_5 rfl (tyX4_ok 5 (by decide)) rfl rfl zi_4_5 (Nat.le_of_ble_eq_true rfl) dX4_putMark_15 (fun H locs hM => ?_)
  clear ca
  obtain ⟨S4, ev, hf⟩ := m_bndE hf
  replace hM := z_hS hM ev
  clear ev
  refine lv_aload_n hx hb dX4_putMark_18 rfl (lv_at hl 0 rfl) ?_
  refine lv_dup hx hb dX4_putMark_19 rfl ?_
  obtain ⟨ca, hf⟩ := m_chkE hf
  replace ca := z_in hM (by decide) ca
  refine z_get (k := 4) (j := 4) (C := RX4) (T := TX4) (N := 7) (fl := zf_4) (v := .int (zI S4 4 x0)) X hw_X4_putMark_4 hM rfl zc_4 ca (by decide) fl_X4_putMark_4_4 rfl dX4_putMark_20 ?_
  clear ca
  refine lv_iconst (v := (1 : Int32)) hx hb dX4_putMark_23 (by decide) ?_
  refine lv_iadd hx hb dX4_putMark_24 ?_
  obtain ⟨v5, ev, hf⟩ := m_bndE hf
  refine m_top ev ?_
  clear ev
  obtain ⟨ca, hf⟩ := m_chkE hf
  replace ca := z_in hM (by decide) ca
  refine z_putI (k := 4) (j := 4) (C := RX4) (T := TX4) (N := 7) (fl := zf_4) (ty := .int) X hw_X4_putMark_4 tyX4_ok nmX4 hM rfl zc_4 ca (by decide) fl_X4_putMark_4_4 rfl (tyX4_ok 4 (by decide)) rfl rfl zi_4_4 (Nat.le_of_ble_eq_true rfl) dX4_putMark_25 (fun H locs hM => ?_)
  clear ca
  obtain ⟨S6, ev, hf⟩ := m_bndE hf
  replace hM := z_hS hM ev
  clear ev
  cases hf
  exact hret H locs _ ls hM dX4_putMark_28
noncomputable def f_X4_putMark (x0 : Nat) (x1 : Int32) (S : ZS) : Option (Int32 × ZS) := f_X4_putMark_0 x0 x1 S
theorem c_X4_putMark {l : Launch} {D : va_G} {y : Nat → ClassId} {x0 : Nat} {x1 : Int32} {S : ZS} {o : Int32 × ZS} (hf : f_X4_putMark x0 x1 S = some o) : zMv l yX4_putMark wsX4_putMark ({ frames := 0, cells := 0, slots := 0, locals := 0 } : Room) [.ref (zh y x0), .int x1] D y S o :=
  z_entryV (own := RX4) (cc := cX4_putMark) (maxL := 2) (by decide) rfl rfl (Nat.le_of_ble_eq_true rfl) (fun p e s m args below meth c A0 Q H locs ls X hret hM hl => w_X4_putMark_0 X hret hf hM (lv_sub hl [0, 1] rfl))
theorem hd_X2_readMark : yX2_readMark.cls = RX2 ∧ yX2_readMark.cls ≠ "java/lang/invoke/MethodHandle" ∧ yX2_readMark.cls ≠ "java/lang/invoke/VarHandle" ∧ (parseMethodDescriptor yX2_readMark.desc).map (fun d => d.parameters.length) = some 1 := by decide +kernel
theorem fl_X2_readMark_2_2 : Cond.fieldLink RX2 28 "MoveTexts$GameReader" "text" "LMoveTexts$Row;" ∈ wsX2_readMark := by decide +kernel
theorem fl_X2_readMark_2_4 : Cond.fieldLink RX2 39 "MoveTexts$GameReader" "at" "I" ∈ wsX2_readMark := by decide +kernel
theorem fl_X2_readMark_4_4 : Cond.fieldLink RX2 221 "MoveTexts$Node" "markCount" "I" ∈ wsX2_readMark := by decide +kernel
theorem hw_X2_readMark_2 : ∀ w ∈ wsX20, w ∈ wsX2_readMark := by decide +kernel
theorem hw_X2_readMark_4 : ∀ w ∈ wsX40, w ∈ wsX2_readMark := by decide +kernel
theorem nn_X2_readMark_136 : ((RX2, 136, yX11_isDigit, "MoveTexts") ∈ zNW ∧ Cond.initialized yX11_isDigit.cls ∈ wsX2_readMark) ∧ Cond.static yX11_isDigit ∈ wsX2_readMark := by decide +kernel
noncomputable def f_X2_readMark_56 (x0 : Nat) (x2 : Int32) (S : ZS) : Option (Int32 × ZS) :=
  m_chk (zK S x0 = 2) (
  m_cal (f_X2_refuse x0 (8 : Int32) x2 S) (fun o1 =>
  m_chk (vp_nar .boolean o1.1 = o1.1) (some (o1.1, o1.2))))

set_option maxRecDepth 100000 in
set_option maxHeartbeats 4000000 in
theorem w_X2_readMark_56 {p : Program} {l : Launch} {e : Env} {s : State} {m : MethodId} {args : Array Value} {below : List Frame} {meth : Method} {c : Code} {Q : State → Prop} {D : va_G} {y : Nat → ClassId} {A0 : Nat → Prop} {o : Int32 × ZS} (X : CallFix p m c cX2_readMark 4 s args wsX2_readMark RX2) (hret : zRi p l e ({ frames := 2, cells := 0, slots := 0, locals := 44 } : Room) s m args below meth c Q cX2_readMark D y A0 .boolean o) {x0 : Nat} {x2 : Int32} {S : ZS} {H : Heap} {locs : List Loc} {ls : Array Slot} (hf : f_X2_readMark_56 x0 x2 S = some o) (hM : zH D y A0 s H locs S) (hl : lv_has ls 4 [(0, .ref (zh y x0)), (2, .int x2)]) : W p l e ({ frames := 2, cells := 0, slots := 0, locals := 44 } : Room) s m args below meth c H locs 0 0 Q (F0 m 56 ls []) := by
  obtain ⟨hx, hb, hml, hown, hts⟩ := id X
  unfold f_X2_readMark_56 at hf
  refine lv_aload_n hx hb dX2_readMark_56 rfl (lv_at hl 0 rfl) ?_
  refine lv_bipush (v := (8 : Int32)) hx hb dX2_readMark_57 (by decide) ?_
  refine lv_iload_n hx hb dX2_readMark_59 rfl (lv_at hl 1 rfl) ?_
  obtain ⟨ca, hf⟩ := m_chkE hf
  replace ca := z_in hM (by decide) ca
  obtain ⟨o1, ho, hf⟩ := m_calE hf
  refine z_callVi (k := 2) (C := RX2) (T := TX2) (N := 12) (fl := zf_2) X hM rfl zc_2 ca (c_X2_refuse ho) gX2_readMark_X2_refuse rfl ⟨rfl, rfl⟩ hd_X2_refuse ⟨Nat.le_of_ble_eq_true rfl, Nat.le_of_ble_eq_true rfl⟩ rfl hl.1 rfl (Nat.le_of_ble_eq_true rfl) dX2_readMark_60 (fun H locs hM => ?_)
  clear ho
  obtain ⟨cd, hf⟩ := m_chkE hf
  cases hf
  exact hret H locs _ ls hM (m_nb cd) dX2_readMark_63
noncomputable def f_X2_readMark_0 (x0 : Nat) (x1 : Nat) (S : ZS) : Option (Int32 × ZS) :=
  m_chk (zK S x0 = 2) (
  m_chk (zK S x0 = 2) (
  m_bnd ((zI S 4 x0) + (1 : Int32)) (fun v1 =>
  m_chk (zK S x0 = 2) (
  m_bnd (zsI S 4 x0 v1) (fun S2 =>
  m_chk (zK S2 x0 = 2) (
  m_cal (f_X2_readDigits x0 (3 : Int32) S2) (fun o3 =>
  m_chk (zK o3.2 x0 = 2) (
  m_bnd ((zI S 4 x0) + (1 : Int32)) (fun v4 =>
  m_if ((zI o3.2 4 x0) = v4) (
  m_chk (zK o3.2 x0 = 2) (
  m_chk (zK o3.2 x0 = 2) (
  m_cal (f_X2_refuse x0 (1 : Int32) (zI o3.2 4 x0) o3.2) (fun o10 =>
  m_chk (vp_nar .boolean o10.1 = o10.1) (some (o10.1, o10.2)))))
  ) (
  m_if ((255 : Int32) < o3.1) (
  f_X2_readMark_56 x0 (zI S 4 x0) o3.2
  ) (
  m_chk (zK o3.2 x1 = 4) (
  m_if ((zI o3.2 4 x1) < (4 : Int32)) (
  m_chk (zK o3.2 x0 = 2) (
  m_cal (zP o3.2 2 x0) (fun b5 =>
  m_chk (zK o3.2 x0 = 2) (
  m_chk (zK o3.2 b5 = 6) (
  m_cal (f_X6_at b5 (zI o3.2 4 x0) o3.2) (fun o6 =>
  m_cal (f_X11_isDigit o6.1 o6.2) (fun o7 =>
  m_if (o7.1 = 0) (
  m_chk (zK o7.2 x1 = 4) (
  m_cal (f_X4_putMark x1 o3.1 o7.2) (fun o8 =>
  m_chk (vp_nar .boolean (1 : Int32) = (1 : Int32)) (some ((1 : Int32), o8.2))))
  ) (
  m_chk (zK o7.2 x0 = 2) (
  m_chk (zK o7.2 x0 = 2) (
  m_cal (f_X2_refuse x0 (1 : Int32) (zI o7.2 4 x0) o7.2) (fun o9 =>
  m_chk (vp_nar .boolean o9.1 = o9.1) (some (o9.1, o9.2)))))
  )))))))
  ) (
  f_X2_readMark_56 x0 (zI S 4 x0) o3.2
  ))
  )
  ))))))))))

set_option maxRecDepth 100000 in
set_option maxHeartbeats 4000000 in
theorem w_X2_readMark_0 {p : Program} {l : Launch} {e : Env} {s : State} {m : MethodId} {args : Array Value} {below : List Frame} {meth : Method} {c : Code} {Q : State → Prop} {D : va_G} {y : Nat → ClassId} {A0 : Nat → Prop} {o : Int32 × ZS} (X : CallFix p m c cX2_readMark 4 s args wsX2_readMark RX2) (hret : zRi p l e ({ frames := 2, cells := 0, slots := 0, locals := 44 } : Room) s m args below meth c Q cX2_readMark D y A0 .boolean o) {x0 : Nat} {x1 : Nat} {S : ZS} {H : Heap} {locs : List Loc} {ls : Array Slot} (hf : f_X2_readMark_0 x0 x1 S = some o) (hM : zH D y A0 s H locs S) (hl : lv_has ls 4 [(0, .ref (zh y x0)), (1, .ref (zh y x1))]) : W p l e ({ frames := 2, cells := 0, slots := 0, locals := 44 } : Room) s m args below meth c H locs 0 0 Q (F0 m 0 ls []) := by
  obtain ⟨hx, hb, hml, hown, hts⟩ := id X
  unfold f_X2_readMark_0 at hf
  refine lv_aload_n hx hb dX2_readMark_0 rfl (lv_at hl 0 rfl) ?_
  obtain ⟨ca, hf⟩ := m_chkE hf
  replace ca := z_in hM (by decide) ca
  refine z_get (k := 2) (j := 4) (C := RX2) (T := TX2) (N := 12) (fl := zf_2) (v := .int (zI S 4 x0)) X hw_X2_readMark_2 hM rfl zc_2 ca (by decide) fl_X2_readMark_2_4 rfl dX2_readMark_1 ?_
  clear ca
  refine lv_istore_n (lv' := [(2, .int (zI S 4 x0)), (0, .ref (zh y x0)), (1, .ref (zh y x1))]) hx hb dX2_readMark_4 rfl hl (by decide) rfl (fun ls hl => ?_)
  refine lv_aload_n hx hb dX2_readMark_5 rfl (lv_at hl 1 rfl) ?_
  refine lv_dup hx hb dX2_readMark_6 rfl ?_
  obtain ⟨ca, hf⟩ := m_chkE hf
  replace ca := z_in hM (by decide) ca
  refine z_get (k := 2) (j := 4) (C := RX2) (T := TX2) (N := 12) (fl := zf_2) (v := .int (zI S 4 x0)) X hw_X2_readMark_2 hM rfl zc_2 ca (by decide) fl_X2_readMark_2_4 rfl dX2_readMark_7 ?_
  clear ca
  refine lv_iconst (v := (1 : Int32)) hx hb dX2_readMark_10 (by decide) ?_
  refine lv_iadd hx hb dX2_readMark_11 ?_
  obtain ⟨v1, ev, hf⟩ := m_bndE hf
  refine m_top ev ?_
  clear ev
  obtain ⟨ca, hf⟩ := m_chkE hf
  replace ca := z_in hM (by decide) ca
  refine z_putI (k := 2) (j := 4) (C := RX2) (T := TX2) (N := 12) (fl := zf_2) (ty := .int) X hw_X2_readMark_2 tyX2_ok nmX2 hM rfl zc_2 ca (by decide) fl_X2_readMark_2_4 rfl (tyX2_ok 4 (by decide)) rfl rfl zi_2_4 (Nat.le_of_ble_eq_true rfl) dX2_readMark_12 (fun H locs hM => ?_)
  clear ca
  obtain ⟨S2, ev, hf⟩ := m_bndE hf
  replace hM := z_hS hM ev
  clear ev
  refine lv_aload_n hx hb dX2_readMark_15 rfl (lv_at hl 1 rfl) ?_
  refine lv_iconst (v := (3 : Int32)) hx hb dX2_readMark_16 (by decide) ?_
  obtain ⟨ca, hf⟩ := m_chkE hf
  replace ca := z_in hM (by decide) ca
  obtain ⟨o3, ho, hf⟩ := m_calE hf
  refine z_callVi (k := 2) (C := RX2) (T := TX2) (N := 12) (fl := zf_2) X hM rfl zc_2 ca (c_X2_readDigits ho) gX2_readMark_X2_readDigits rfl ⟨rfl, rfl⟩ hd_X2_readDigits ⟨Nat.le_of_ble_eq_true rfl, Nat.le_of_ble_eq_true rfl⟩ rfl hl.1 rfl (Nat.le_of_ble_eq_true rfl) dX2_readMark_17 (fun H locs hM => ?_)
  clear ho
  refine lv_istore_n (lv' := [(3, .int o3.1), (2, .int (zI S 4 x0)), (0, .ref (zh y x0)), (1, .ref (zh y x1))]) hx hb dX2_readMark_20 rfl hl (by decide) rfl (fun ls hl => ?_)
  refine lv_aload_n hx hb dX2_readMark_21 rfl (lv_at hl 2 rfl) ?_
  obtain ⟨ca, hf⟩ := m_chkE hf
  replace ca := z_in hM (by decide) ca
  refine z_get (k := 2) (j := 4) (C := RX2) (T := TX2) (N := 12) (fl := zf_2) (v := .int (zI o3.2 4 x0)) X hw_X2_readMark_2 hM rfl zc_2 ca (by decide) fl_X2_readMark_2_4 rfl dX2_readMark_22 ?_
  clear ca
  refine lv_iload_n hx hb dX2_readMark_25 rfl (lv_at hl 1 rfl) ?_
  refine lv_iconst (v := (1 : Int32)) hx hb dX2_readMark_26 (by decide) ?_
  refine lv_iadd hx hb dX2_readMark_27 ?_
  obtain ⟨v4, ev, hf⟩ := m_bndE hf
  refine m_top ev ?_
  clear ev
  refine lv_icmp_ne (tgt := 41) hx hb dX2_readMark_28 (by decide) (fun cc1 => ?_) (fun cc1 => ?_)
  · replace hf := m_ifF hf cc1
    refine lv_iload_n hx hb dX2_readMark_41 rfl (lv_at hl 0 rfl) ?_
    refine lv_sipush (v := (255 : Int32)) hx hb dX2_readMark_42 (by decide) ?_
    refine lv_icmp_gt (tgt := 56) hx hb dX2_readMark_45 (by decide) (fun cc1 => ?_) (fun cc1 => ?_)
    · replace hf := m_ifT hf cc1
      exact w_X2_readMark_56 (x0 := x0) (x2 := (zI S 4 x0)) X hret hf hM (lv_sub hl [2, 1] rfl)
    · replace hf := m_ifF hf cc1
      refine lv_aload_n hx hb dX2_readMark_48 rfl (lv_at hl 3 rfl) ?_
      obtain ⟨ca, hf⟩ := m_chkE hf
      replace ca := z_in hM (by decide) ca
      refine z_get (k := 4) (j := 4) (C := RX4) (T := TX4) (N := 7) (fl := zf_4) (v := .int (zI o3.2 4 x1)) X hw_X2_readMark_4 hM rfl zc_4 ca (by decide) fl_X2_readMark_4_4 rfl dX2_readMark_49 ?_
      clear ca
      refine lv_iconst (v := (4 : Int32)) hx hb dX2_readMark_52 (by decide) ?_
      refine lv_icmp_lt (tgt := 64) hx hb dX2_readMark_53 (by decide) (fun cc1 => ?_) (fun cc1 => ?_)
      · replace hf := m_ifT hf cc1
        refine lv_aload_n hx hb dX2_readMark_64 rfl (lv_at hl 2 rfl) ?_
        obtain ⟨ca, hf⟩ := m_chkE hf
        replace ca := z_in hM (by decide) ca
        refine z_get (k := 2) (j := 2) (C := RX2) (T := TX2) (N := 12) (fl := zf_2) (v := va_rf ((zP o3.2 2 x0).map (zh y))) X hw_X2_readMark_2 hM rfl zc_2 ca (by decide) fl_X2_readMark_2_2 rfl dX2_readMark_65 ?_
        clear ca
        obtain ⟨b5, hb9, hf⟩ := m_calE hf
        refine z_topr hb9 ?_
        clear hb9
        refine lv_aload_n hx hb dX2_readMark_68 rfl (lv_at hl 2 rfl) ?_
        obtain ⟨ca, hf⟩ := m_chkE hf
        replace ca := z_in hM (by decide) ca
        refine z_get (k := 2) (j := 4) (C := RX2) (T := TX2) (N := 12) (fl := zf_2) (v := .int (zI o3.2 4 x0)) X hw_X2_readMark_2 hM rfl zc_2 ca (by decide) fl_X2_readMark_2_4 rfl dX2_readMark_69 ?_
        clear ca
        obtain ⟨ca, hf⟩ := m_chkE hf
        replace ca := z_in hM (by decide) ca
        obtain ⟨o6, ho, hf⟩ := m_calE hf
        refine z_callVi (k := 6) (C := RX6) (T := TX6) (N := 2) (fl := zf_6) X hM rfl zc_6 ca (c_X6_at ho) gX2_readMark_X6_at rfl ⟨rfl, rfl⟩ hd_X6_at ⟨Nat.le_of_ble_eq_true rfl, Nat.le_of_ble_eq_true rfl⟩ rfl hl.1 rfl (Nat.le_of_ble_eq_true rfl) dX2_readMark_72 (fun H locs hM => ?_)
        clear ho
        obtain ⟨o7, ho, hf⟩ := m_calE hf
        refine z_callSNi X hM (c_X11_isDigit ho) gX2_readMark_X11_isDigit_n136 nn_X2_readMark_136.1.1 nn_X2_readMark_136.1.2 nn_X2_readMark_136.2 rfl ⟨rfl, rfl⟩ hd_X11_isDigit ⟨Nat.le_of_ble_eq_true rfl, Nat.le_of_ble_eq_true rfl⟩ rfl hl.1 rfl (Nat.le_of_ble_eq_true rfl) dX2_readMark_75 (fun H locs hM => ?_)
        clear ho
        refine lv_if_eq (tgt := 91) hx hb dX2_readMark_78 (by decide) (fun cc1 => ?_) (fun cc1 => ?_)
        · replace hf := m_ifT hf cc1
          refine lv_aload_n hx hb dX2_readMark_91 rfl (lv_at hl 3 rfl) ?_
          refine lv_iload_n hx hb dX2_readMark_92 rfl (lv_at hl 0 rfl) ?_
          obtain ⟨ca, hf⟩ := m_chkE hf
          replace ca := z_in hM (by decide) ca
          obtain ⟨o8, ho, hf⟩ := m_calE hf
          refine z_callVv (k := 4) (C := RX4) (T := TX4) (N := 7) (fl := zf_4) X hM rfl zc_4 ca (c_X4_putMark ho) gX2_readMark_X4_putMark rfl ⟨rfl, rfl⟩ hd_X4_putMark ⟨Nat.le_of_ble_eq_true rfl, Nat.le_of_ble_eq_true rfl⟩ rfl hl.1 rfl (Nat.le_of_ble_eq_true rfl) dX2_readMark_93 (fun H locs hM => ?_)
          clear ho
          refine lv_iconst (v := (1 : Int32)) hx hb dX2_readMark_96 (by decide) ?_
          obtain ⟨cd, hf⟩ := m_chkE hf
          cases hf
          exact hret H locs _ ls hM (m_nb cd) dX2_readMark_97
        · replace hf := m_ifF hf cc1
          refine lv_aload_n hx hb dX2_readMark_81 rfl (lv_at hl 2 rfl) ?_
          refine lv_iconst (v := (1 : Int32)) hx hb dX2_readMark_82 (by decide) ?_
          refine lv_aload_n hx hb dX2_readMark_83 rfl (lv_at hl 2 rfl) ?_
          obtain ⟨ca, hf⟩ := m_chkE hf
          replace ca := z_in hM (by decide) ca
          refine z_get (k := 2) (j := 4) (C := RX2) (T := TX2) (N := 12) (fl := zf_2) (v := .int (zI o7.2 4 x0)) X hw_X2_readMark_2 hM rfl zc_2 ca (by decide) fl_X2_readMark_2_4 rfl dX2_readMark_84 ?_
          clear ca
          obtain ⟨ca, hf⟩ := m_chkE hf
          replace ca := z_in hM (by decide) ca
          obtain ⟨o9, ho, hf⟩ := m_calE hf
          refine z_callVi (k := 2) (C := RX2) (T := TX2) (N := 12) (fl := zf_2) X hM rfl zc_2 ca (c_X2_refuse ho) gX2_readMark_X2_refuse rfl ⟨rfl, rfl⟩ hd_X2_refuse ⟨Nat.le_of_ble_eq_true rfl, Nat.le_of_ble_eq_true rfl⟩ rfl hl.1 rfl (Nat.le_of_ble_eq_true rfl) dX2_readMark_87 (fun H locs hM => ?_)
          clear ho
          obtain ⟨cd, hf⟩ := m_chkE hf
          cases hf
          exact hret H locs _ ls hM (m_nb cd) dX2_readMark_90
      · replace hf := m_ifF hf cc1
        exact w_X2_readMark_56 (x0 := x0) (x2 := (zI S 4 x0)) X hret hf hM (lv_sub hl [2, 1] rfl)
  · replace hf := m_ifT hf cc1
    refine lv_aload_n hx hb dX2_readMark_31 rfl (lv_at hl 2 rfl) ?_
    refine lv_iconst (v := (1 : Int32)) hx hb dX2_readMark_32 (by decide) ?_
    refine lv_aload_n hx hb dX2_readMark_33 rfl (lv_at hl 2 rfl) ?_
    obtain ⟨ca, hf⟩ := m_chkE hf
    replace ca := z_in hM (by decide) ca
    refine z_get (k := 2) (j := 4) (C := RX2) (T := TX2) (N := 12) (fl := zf_2) (v := .int (zI o3.2 4 x0)) X hw_X2_readMark_2 hM rfl zc_2 ca (by decide) fl_X2_readMark_2_4 rfl dX2_readMark_34 ?_
    clear ca
    obtain ⟨ca, hf⟩ := m_chkE hf
    replace ca := z_in hM (by decide) ca
    obtain ⟨o10, ho, hf⟩ := m_calE hf
    refine z_callVi (k := 2) (C := RX2) (T := TX2) (N := 12) (fl := zf_2) X hM rfl zc_2 ca (c_X2_refuse ho) gX2_readMark_X2_refuse rfl ⟨rfl, rfl⟩ hd_X2_refuse ⟨Nat.le_of_ble_eq_true rfl, Nat.le_of_ble_eq_true rfl⟩ rfl hl.1 rfl (Nat.le_of_ble_eq_true rfl) dX2_readMark_37 (fun H locs hM => ?_)
    clear ho
    obtain ⟨cd, hf⟩ := m_chkE hf
    cases hf
    exact hret H locs _ ls hM (m_nb cd) dX2_readMark_40
noncomputable def f_X2_readMark (x0 : Nat) (x1 : Nat) (S : ZS) : Option (Int32 × ZS) := f_X2_readMark_0 x0 x1 S
theorem c_X2_readMark {l : Launch} {D : va_G} {y : Nat → ClassId} {x0 : Nat} {x1 : Nat} {S : ZS} {o : Int32 × ZS} (hf : f_X2_readMark x0 x1 S = some o) : zMi l yX2_readMark wsX2_readMark ({ frames := 2, cells := 0, slots := 0, locals := 44 } : Room) [.ref (zh y x0), .ref (zh y x1)] D y S o :=
  z_entryI (own := RX2) (cc := cX2_readMark) (maxL := 4) (by decide) rfl rfl (Nat.le_of_ble_eq_true rfl) (fun p e s m args below meth c A0 Q H locs ls X hret hM hl => w_X2_readMark_0 X hret hf hM (lv_sub hl [0, 1] rfl))
theorem hd_X2_readMarks : yX2_readMarks.cls = RX2 ∧ yX2_readMarks.cls ≠ "java/lang/invoke/MethodHandle" ∧ yX2_readMarks.cls ≠ "java/lang/invoke/VarHandle" ∧ (parseMethodDescriptor yX2_readMarks.desc).map (fun d => d.parameters.length) = some 1 := by decide +kernel
theorem fl_X2_readMarks_2_2 : Cond.fieldLink RX2 28 "MoveTexts$GameReader" "text" "LMoveTexts$Row;" ∈ wsX2_readMarks := by decide +kernel
theorem fl_X2_readMarks_2_4 : Cond.fieldLink RX2 39 "MoveTexts$GameReader" "at" "I" ∈ wsX2_readMarks := by decide +kernel
theorem hw_X2_readMarks_2 : ∀ w ∈ wsX20, w ∈ wsX2_readMarks := by decide +kernel
noncomputable def f_X2_readMarks_113 (x3 : Int32) (S : ZS) : Option (Int32 × ZS) :=
  m_chk (vp_nar .boolean x3 = x3) (some (x3, S))

set_option maxRecDepth 100000 in
set_option maxHeartbeats 4000000 in
theorem w_X2_readMarks_113 {p : Program} {l : Launch} {e : Env} {s : State} {m : MethodId} {args : Array Value} {below : List Frame} {meth : Method} {c : Code} {Q : State → Prop} {D : va_G} {y : Nat → ClassId} {A0 : Nat → Prop} {o : Int32 × ZS} (X : CallFix p m c cX2_readMarks 5 s args wsX2_readMarks RX2) (hret : zRi p l e ({ frames := 3, cells := 0, slots := 0, locals := 67 } : Room) s m args below meth c Q cX2_readMarks D y A0 .boolean o) {x3 : Int32} {S : ZS} {H : Heap} {locs : List Loc} {ls : Array Slot} (hf : f_X2_readMarks_113 x3 S = some o) (hM : zH D y A0 s H locs S) (hl : lv_has ls 5 [(3, .int x3)]) : W p l e ({ frames := 3, cells := 0, slots := 0, locals := 67 } : Room) s m args below meth c H locs 0 0 Q (F0 m 113 ls []) := by
  obtain ⟨hx, hb, hml, hown, hts⟩ := id X
  unfold f_X2_readMarks_113 at hf
  refine lv_iload_n hx hb dX2_readMarks_113 rfl (lv_at hl 0 rfl) ?_
  obtain ⟨cd, hf⟩ := m_chkE hf
  cases hf
  exact hret H locs _ ls hM (m_nb cd) dX2_readMarks_114
noncomputable def f_X2_readMarks_69s (self69 : Nat → Nat → Int32 → Int32 → ZS → Option (Int32 × ZS)) (x0 : Nat) (x1 : Nat) (x3 : Int32) (x4 : Int32) (S : ZS) : Option (Int32 × ZS) :=
  m_if ((2000 : Int32) ≤ x4) (
  f_X2_readMarks_113 x3 S
  ) (
  m_if (x3 = 0) (
  f_X2_readMarks_113 x3 S
  ) (
  m_chk (zK S x0 = 2) (
  m_cal (zP S 2 x0) (fun b1 =>
  m_chk (zK S x0 = 2) (
  m_chk (zK S b1 = 6) (
  m_cal (f_X6_at b1 (zI S 4 x0) S) (fun o2 =>
  m_if (o2.1 = (36 : Int32)) (
  m_chk (zK o2.2 x0 = 2) (
  m_cal (f_X2_readMark x0 x1 o2.2) (fun o3 =>
  m_chk (zK o3.2 x0 = 2) (
  m_cal (f_X2_skipBlanks x0 o3.2) (fun o4 =>
  m_bnd (x4 + (1 : Int32)) (fun v5 =>
  self69 x0 x1 o3.1 v5 o4.2)))))
  ) (
  f_X2_readMarks_113 x3 o2.2
  ))))))
  )
  )

set_option maxRecDepth 100000 in
set_option maxHeartbeats 4000000 in
theorem ws_X2_readMarks_69 {p : Program} {l : Launch} {e : Env} {s : State} {m : MethodId} {args : Array Value} {below : List Frame} {meth : Method} {c : Code} {Q : State → Prop} {D : va_G} {y : Nat → ClassId} {A0 : Nat → Prop} {o : Int32 × ZS} (X : CallFix p m c cX2_readMarks 5 s args wsX2_readMarks RX2) (hret : zRi p l e ({ frames := 3, cells := 0, slots := 0, locals := 67 } : Room) s m args below meth c Q cX2_readMarks D y A0 .boolean o) {self69 : Nat → Nat → Int32 → Int32 → ZS → Option (Int32 × ZS)} (hself69 : ∀ (x0 : Nat) (x1 : Nat) (x3 : Int32) (x4 : Int32) (S : ZS) (H : Heap) (locs : List Loc) (ls : Array Slot), self69 x0 x1 x3 x4 S = some o → zH D y A0 s H locs S → lv_has ls 5 [(0, .ref (zh y x0)), (1, .ref (zh y x1)), (3, .int x3), (4, .int x4)] → W p l e ({ frames := 3, cells := 0, slots := 0, locals := 67 } : Room) s m args below meth c H locs 0 0 Q (F0 m 69 ls [])) {x0 : Nat} {x1 : Nat} {x3 : Int32} {x4 : Int32} {S : ZS} {H : Heap} {locs : List Loc} {ls : Array Slot} (hf : f_X2_readMarks_69s self69 x0 x1 x3 x4 S = some o) (hM : zH D y A0 s H locs S) (hl : lv_has ls 5 [(0, .ref (zh y x0)), (1, .ref (zh y x1)), (3, .int x3), (4, .int x4)]) : W p l e ({ frames := 3, cells := 0, slots := 0, locals := 67 } : Room) s m args below meth c H locs 0 0 Q (F0 m 69 ls []) := by
  obtain ⟨hx, hb, hml, hown, hts⟩ := id X
  unfold f_X2_readMarks_69s at hf
  refine lv_iload hx hb dX2_readMarks_69 (lv_at hl 3 rfl) ?_
  refine lv_sipush (v := (2000 : Int32)) hx hb dX2_readMarks_71 (by decide) ?_
  refine lv_icmp_ge (tgt := 113) hx hb dX2_readMarks_74 (by decide) (fun cc1 => ?_) (fun cc1 => ?_)
  · replace hf := m_ifT hf cc1
    exact w_X2_readMarks_113 (x3 := x3) X hret hf hM (lv_sub hl [2] rfl)
  · replace hf := m_ifF hf cc1
    refine lv_iload_n hx hb dX2_readMarks_77 rfl (lv_at hl 2 rfl) ?_
    refine lv_if_eq (tgt := 113) hx hb dX2_readMarks_78 (by decide) (fun cc1 => ?_) (fun cc1 => ?_)
    · replace hf := m_ifT hf cc1
      exact w_X2_readMarks_113 (x3 := x3) X hret hf hM (lv_sub hl [2] rfl)
    · replace hf := m_ifF hf cc1
      refine lv_aload_n hx hb dX2_readMarks_81 rfl (lv_at hl 0 rfl) ?_
      obtain ⟨ca, hf⟩ := m_chkE hf
      replace ca := z_in hM (by decide) ca
      refine z_get (k := 2) (j := 2) (C := RX2) (T := TX2) (N := 12) (fl := zf_2) (v := va_rf ((zP S 2 x0).map (zh y))) X hw_X2_readMarks_2 hM rfl zc_2 ca (by decide) fl_X2_readMarks_2_2 rfl dX2_readMarks_82 ?_
      clear ca
      obtain ⟨b1, hb9, hf⟩ := m_calE hf
      refine z_topr hb9 ?_
      clear hb9
      refine lv_aload_n hx hb dX2_readMarks_85 rfl (lv_at hl 0 rfl) ?_
      obtain ⟨ca, hf⟩ := m_chkE hf
      replace ca := z_in hM (by decide) ca
      refine z_get (k := 2) (j := 4) (C := RX2) (T := TX2) (N := 12) (fl := zf_2) (v := .int (zI S 4 x0)) X hw_X2_readMarks_2 hM rfl zc_2 ca (by decide) fl_X2_readMarks_2_4 rfl dX2_readMarks_86 ?_
      clear ca
      obtain ⟨ca, hf⟩ := m_chkE hf
      replace ca := z_in hM (by decide) ca
      obtain ⟨o2, ho, hf⟩ := m_calE hf
      refine z_callVi (k := 6) (C := RX6) (T := TX6) (N := 2) (fl := zf_6) X hM rfl zc_6 ca (c_X6_at ho) gX2_readMarks_X6_at rfl ⟨rfl, rfl⟩ hd_X6_at ⟨Nat.le_of_ble_eq_true rfl, Nat.le_of_ble_eq_true rfl⟩ rfl hl.1 rfl (Nat.le_of_ble_eq_true rfl) dX2_readMarks_89 (fun H locs hM => ?_)
      clear ho
      refine lv_bipush (v := (36 : Int32)) hx hb dX2_readMarks_92 (by decide) ?_
      refine lv_icmp_ne (tgt := 113) hx hb dX2_readMarks_94 (by decide) (fun cc1 => ?_) (fun cc1 => ?_)
      · replace hf := m_ifF hf cc1
        exact w_X2_readMarks_113 (x3 := x3) X hret hf hM (lv_sub hl [2] rfl)
      · replace hf := m_ifT hf cc1
        refine lv_aload_n hx hb dX2_readMarks_97 rfl (lv_at hl 0 rfl) ?_
        refine lv_aload_n hx hb dX2_readMarks_98 rfl (lv_at hl 1 rfl) ?_
        obtain ⟨ca, hf⟩ := m_chkE hf
        replace ca := z_in hM (by decide) ca
        obtain ⟨o3, ho, hf⟩ := m_calE hf
        refine z_callVi (k := 2) (C := RX2) (T := TX2) (N := 12) (fl := zf_2) X hM rfl zc_2 ca (c_X2_readMark ho) gX2_readMarks_X2_readMark rfl ⟨rfl, rfl⟩ hd_X2_readMark ⟨Nat.le_of_ble_eq_true rfl, Nat.le_of_ble_eq_true rfl⟩ rfl hl.1 rfl (Nat.le_of_ble_eq_true rfl) dX2_readMarks_99 (fun H locs hM => ?_)
        clear ho
        refine lv_istore_n (lv' := [(3, .int o3.1), (0, .ref (zh y x0)), (1, .ref (zh y x1)), (4, .int x4)]) hx hb dX2_readMarks_102 rfl hl (by decide) rfl (fun ls hl => ?_)
        refine lv_aload_n hx hb dX2_readMarks_103 rfl (lv_at hl 1 rfl) ?_
        obtain ⟨ca, hf⟩ := m_chkE hf
        replace ca := z_in hM (by decide) ca
        obtain ⟨o4, ho, hf⟩ := m_calE hf
        refine z_callVv (k := 2) (C := RX2) (T := TX2) (N := 12) (fl := zf_2) X hM rfl zc_2 ca (c_X2_skipBlanks ho) gX2_readMarks_X2_skipBlanks rfl ⟨rfl, rfl⟩ hd_X2_skipBlanks ⟨Nat.le_of_ble_eq_true rfl, Nat.le_of_ble_eq_true rfl⟩ rfl hl.1 rfl (Nat.le_of_ble_eq_true rfl) dX2_readMarks_104 (fun H locs hM => ?_)
        clear ho
        obtain ⟨v5, ev, hf⟩ := m_bndE hf
        refine lv_iinc (v := v5) (lv' := [(4, .int v5), (3, .int o3.1), (0, .ref (zh y x0)), (1, .ref (zh y x1))]) hx hb dX2_readMarks_107 hl (k := 3) rfl (by rw [ev]; rfl) (by decide) rfl (fun ls hl => ?_)
        clear ev
        refine lv_goto (tgt := 69) hx hb dX2_readMarks_110 (by decide) ?_
        exact hself69 x0 x1 o3.1 v5 _ _ _ _ hf hM (lv_sub hl [2, 3, 1, 0] rfl)
noncomputable def f_X2_readMarks_69 : Nat → Nat → Nat → Int32 → Int32 → ZS → Option (Int32 × ZS)
  | 0 => fun _ _ _ _ _ => none
  | n + 1 => f_X2_readMarks_69s (f_X2_readMarks_69 n)
theorem w_X2_readMarks_69 {p : Program} {l : Launch} {e : Env} {s : State} {m : MethodId} {args : Array Value} {below : List Frame} {meth : Method} {c : Code} {Q : State → Prop} {D : va_G} {y : Nat → ClassId} {A0 : Nat → Prop} {o : Int32 × ZS} (X : CallFix p m c cX2_readMarks 5 s args wsX2_readMarks RX2) (hret : zRi p l e ({ frames := 3, cells := 0, slots := 0, locals := 67 } : Room) s m args below meth c Q cX2_readMarks D y A0 .boolean o) (n : Nat) : ∀ (x0 : Nat) (x1 : Nat) (x3 : Int32) (x4 : Int32) (S : ZS) (H : Heap) (locs : List Loc) (ls : Array Slot), f_X2_readMarks_69 n x0 x1 x3 x4 S = some o → zH D y A0 s H locs S → lv_has ls 5 [(0, .ref (zh y x0)), (1, .ref (zh y x1)), (3, .int x3), (4, .int x4)] → W p l e ({ frames := 3, cells := 0, slots := 0, locals := 67 } : Room) s m args below meth c H locs 0 0 Q (F0 m 69 ls []) := by
  induction n with
  | zero => intro x0 x1 x3 x4 S H locs ls hf; cases hf
  | succ n ih => intro x0 x1 x3 x4 S H locs ls hf hM hl; exact ws_X2_readMarks_69 X hret (self69 := f_X2_readMarks_69 n) ih hf hM hl
noncomputable def f_X2_readMarks_64 (x0 : Nat) (x1 : Nat) (S : ZS) : Option (Int32 × ZS) :=
  f_X2_readMarks_69 mFuel x0 x1 (1 : Int32) (0 : Int32) S

set_option maxRecDepth 100000 in
set_option maxHeartbeats 4000000 in
theorem w_X2_readMarks_64 {p : Program} {l : Launch} {e : Env} {s : State} {m : MethodId} {args : Array Value} {below : List Frame} {meth : Method} {c : Code} {Q : State → Prop} {D : va_G} {y : Nat → ClassId} {A0 : Nat → Prop} {o : Int32 × ZS} (X : CallFix p m c cX2_readMarks 5 s args wsX2_readMarks RX2) (hret : zRi p l e ({ frames := 3, cells := 0, slots := 0, locals := 67 } : Room) s m args below meth c Q cX2_readMarks D y A0 .boolean o) {x0 : Nat} {x1 : Nat} {S : ZS} {H : Heap} {locs : List Loc} {ls : Array Slot} (hf : f_X2_readMarks_64 x0 x1 S = some o) (hM : zH D y A0 s H locs S) (hl : lv_has ls 5 [(0, .ref (zh y x0)), (1, .ref (zh y x1))]) : W p l e ({ frames := 3, cells := 0, slots := 0, locals := 67 } : Room) s m args below meth c H locs 0 0 Q (F0 m 64 ls []) := by
  obtain ⟨hx, hb, hml, hown, hts⟩ := id X
  unfold f_X2_readMarks_64 at hf
  refine lv_iconst (v := (1 : Int32)) hx hb dX2_readMarks_64 (by decide) ?_
  refine lv_istore_n (lv' := [(3, .int (1 : Int32)), (0, .ref (zh y x0)), (1, .ref (zh y x1))]) hx hb dX2_readMarks_65 rfl hl (by decide) rfl (fun ls hl => ?_)
  refine lv_iconst (v := (0 : Int32)) hx hb dX2_readMarks_66 (by decide) ?_
  refine lv_istore (lv' := [(4, .int (0 : Int32)), (3, .int (1 : Int32)), (0, .ref (zh y x0)), (1, .ref (zh y x1))]) hx hb dX2_readMarks_67 hl (by decide) rfl (fun ls hl => ?_)
  exact w_X2_readMarks_69 X hret _ x0 x1 (1 : Int32) (0 : Int32) _ _ _ _ hf hM (lv_sub hl [2, 3, 1, 0] rfl)
noncomputable def f_X2_readMarks_56 (x0 : Nat) (x1 : Nat) (t0 : Int32) (t1 : Int32) (t2 : Nat) (S : ZS) : Option (Int32 × ZS) :=
  m_bnd (t1 + t0) (fun v1 =>
  m_chk (zK S t2 = 2) (
  m_bnd (zsI S 4 t2 v1) (fun S2 =>
  m_chk (zK S2 x0 = 2) (
  m_cal (f_X2_skipBlanks x0 S2) (fun o3 =>
  f_X2_readMarks_64 x0 x1 o3.2)))))

set_option maxRecDepth 100000 in
set_option maxHeartbeats 4000000 in
theorem w_X2_readMarks_56 {p : Program} {l : Launch} {e : Env} {s : State} {m : MethodId} {args : Array Value} {below : List Frame} {meth : Method} {c : Code} {Q : State → Prop} {D : va_G} {y : Nat → ClassId} {A0 : Nat → Prop} {o : Int32 × ZS} (X : CallFix p m c cX2_readMarks 5 s args wsX2_readMarks RX2) (hret : zRi p l e ({ frames := 3, cells := 0, slots := 0, locals := 67 } : Room) s m args below meth c Q cX2_readMarks D y A0 .boolean o) {x0 : Nat} {x1 : Nat} {t0 : Int32} {t1 : Int32} {t2 : Nat} {S : ZS} {H : Heap} {locs : List Loc} {ls : Array Slot} (hf : f_X2_readMarks_56 x0 x1 t0 t1 t2 S = some o) (hM : zH D y A0 s H locs S) (hl : lv_has ls 5 [(0, .ref (zh y x0)), (1, .ref (zh y x1))]) : W p l e ({ frames := 3, cells := 0, slots := 0, locals := 67 } : Room) s m args below meth c H locs 0 0 Q (F0 m 56 ls [.int t0, .int t1, .ref (zh y t2)]) := by
  obtain ⟨hx, hb, hml, hown, hts⟩ := id X
  unfold f_X2_readMarks_56 at hf
  refine lv_iadd hx hb dX2_readMarks_56 ?_
  obtain ⟨v1, ev, hf⟩ := m_bndE hf
  refine m_top ev ?_
  clear ev
  obtain ⟨ca, hf⟩ := m_chkE hf
  replace ca := z_in hM (by decide) ca
  refine z_putI (k := 2) (j := 4) (C := RX2) (T := TX2) (N := 12) (fl := zf_2) (ty := .int) X hw_X2_readMarks_2 tyX2_ok nmX2 hM rfl zc_2 ca (by decide) fl_X2_readMarks_2_4 rfl (tyX2_ok 4 (by decide)) rfl rfl zi_2_4 (Nat.le_of_ble_eq_true rfl) dX2_readMarks_57 (fun H locs hM => ?_)
  clear ca
  obtain ⟨S2, ev, hf⟩ := m_bndE hf
  replace hM := z_hS hM ev
  clear ev
  refine lv_aload_n hx hb dX2_readMarks_60 rfl (lv_at hl 0 rfl) ?_
  obtain ⟨ca, hf⟩ := m_chkE hf
  replace ca := z_in hM (by decide) ca
  obtain ⟨o3, ho, hf⟩ := m_calE hf
  refine z_callVv (k := 2) (C := RX2) (T := TX2) (N := 12) (fl := zf_2) X hM rfl zc_2 ca (c_X2_skipBlanks ho) gX2_readMarks_X2_skipBlanks rfl ⟨rfl, rfl⟩ hd_X2_skipBlanks ⟨Nat.le_of_ble_eq_true rfl, Nat.le_of_ble_eq_true rfl⟩ rfl hl.1 rfl (Nat.le_of_ble_eq_true rfl) dX2_readMarks_61 (fun H locs hM => ?_)
  clear ho
  exact w_X2_readMarks_64 (x0 := x0) (x1 := x1) X hret hf hM (lv_sub hl [0, 1] rfl)
noncomputable def f_X2_readMarks_0 (x0 : Nat) (x1 : Nat) (S : ZS) : Option (Int32 × ZS) :=
  m_chk (zK S x0 = 2) (
  m_cal (f_X2_skipBlanks x0 S) (fun o1 =>
  m_chk (zK o1.2 x0 = 2) (
  m_cal (zP o1.2 2 x0) (fun b2 =>
  m_chk (zK o1.2 x0 = 2) (
  m_chk (zK o1.2 b2 = 6) (
  m_cal (f_X6_at b2 (zI o1.2 4 x0) o1.2) (fun o3 =>
  m_chk (zK o3.2 x0 = 2) (
  m_cal (zP o3.2 2 x0) (fun b4 =>
  m_chk (zK o3.2 x0 = 2) (
  m_bnd ((zI o3.2 4 x0) + (1 : Int32)) (fun v5 =>
  m_chk (zK o3.2 b4 = 6) (
  m_cal (f_X6_at b4 v5 o3.2) (fun o6 =>
  m_cal (f_X2_shortMark o3.1 o6.1 o6.2) (fun o7 =>
  m_if (o7.1 ≤ 0) (
  f_X2_readMarks_64 x0 x1 o7.2
  ) (
  m_chk (zK o7.2 x1 = 4) (
  m_cal (f_X4_putMark x1 o7.1 o7.2) (fun o8 =>
  m_chk (zK o8.2 x0 = 2) (
  m_if (o7.1 ≤ (2 : Int32)) (
  f_X2_readMarks_56 x0 x1 (1 : Int32) (zI o8.2 4 x0) x0 o8.2
  ) (
  f_X2_readMarks_56 x0 x1 (2 : Int32) (zI o8.2 4 x0) x0 o8.2
  ))))
  )))))))))))))))

set_option maxRecDepth 100000 in
set_option maxHeartbeats 4000000 in
theorem w_X2_readMarks_0 {p : Program} {l : Launch} {e : Env} {s : State} {m : MethodId} {args : Array Value} {below : List Frame} {meth : Method} {c : Code} {Q : State → Prop} {D : va_G} {y : Nat → ClassId} {A0 : Nat → Prop} {o : Int32 × ZS} (X : CallFix p m c cX2_readMarks 5 s args wsX2_readMarks RX2) (hret : zRi p l e ({ frames := 3, cells := 0, slots := 0, locals := 67 } : Room) s m args below meth c Q cX2_readMarks D y A0 .boolean o) {x0 : Nat} {x1 : Nat} {S : ZS} {H : Heap} {locs : List Loc} {ls : Array Slot} (hf : f_X2_readMarks_0 x0 x1 S = some o) (hM : zH D y A0 s H locs S) (hl : lv_has ls 5 [(0, .ref (zh y x0)), (1, .ref (zh y x1))]) : W p l e ({ frames := 3, cells := 0, slots := 0, locals := 67 } : Room) s m args below meth c H locs 0 0 Q (F0 m 0 ls []) := by
  obtain ⟨hx, hb, hml, hown, hts⟩ := id X
  unfold f_X2_readMarks_0 at hf
  refine lv_aload_n hx hb dX2_readMarks_0 rfl (lv_at hl 0 rfl) ?_
  obtain ⟨ca, hf⟩ := m_chkE hf
  replace ca := z_in hM (by decide) ca
  obtain ⟨o1, ho, hf⟩ := m_calE hf
  refine z_callVv (k := 2) (C := RX2) (T := TX2) (N := 12) (fl := zf_2) X hM rfl zc_2 ca (c_X2_skipBlanks ho) gX2_readMarks_X2_skipBlanks rfl ⟨rfl, rfl⟩ hd_X2_skipBlanks ⟨Nat.le_of_ble_eq_true rfl, Nat.le_of_ble_eq_true rfl⟩ rfl hl.1 rfl (Nat.le_of_ble_eq_true rfl) dX2_readMarks_1 (fun H locs hM => ?_)
  clear ho
  refine lv_aload_n hx hb dX2_readMarks_4 rfl (lv_at hl 0 rfl) ?_
  obtain ⟨ca, hf⟩ := m_chkE hf
  replace ca := z_in hM (by decide) ca
  refine z_get (k := 2) (j := 2) (C := RX2) (T := TX2) (N := 12) (fl := zf_2) (v := va_rf ((zP o1.2 2 x0).map (zh y))) X hw_X2_readMarks_2 hM rfl zc_2 ca (by decide) fl_X2_readMarks_2_2 rfl dX2_readMarks_5 ?_
  clear ca
  obtain ⟨b2, hb9, hf⟩ := m_calE hf
  refine z_topr hb9 ?_
  clear hb9
  refine lv_aload_n hx hb dX2_readMarks_8 rfl (lv_at hl 0 rfl) ?_
  obtain ⟨ca, hf⟩ := m_chkE hf
  replace ca := z_in hM (by decide) ca
  refine z_get (k := 2) (j := 4) (C := RX2) (T := TX2) (N := 12) (fl := zf_2) (v := .int (zI o1.2 4 x0)) X hw_X2_readMarks_2 hM rfl zc_2 ca (by decide) fl_X2_readMarks_2_4 rfl dX2_readMarks_9 ?_
  clear ca
  obtain ⟨ca, hf⟩ := m_chkE hf
  replace ca := z_in hM (by decide) ca
  obtain ⟨o3, ho, hf⟩ := m_calE hf
  refine z_callVi (k := 6) (C := RX6) (T := TX6) (N := 2) (fl := zf_6) X hM rfl zc_6 ca (c_X6_at ho) gX2_readMarks_X6_at rfl ⟨rfl, rfl⟩ hd_X6_at ⟨Nat.le_of_ble_eq_true rfl, Nat.le_of_ble_eq_true rfl⟩ rfl hl.1 rfl (Nat.le_of_ble_eq_true rfl) dX2_readMarks_12 (fun H locs hM => ?_)
  clear ho
  refine lv_aload_n hx hb dX2_readMarks_15 rfl (lv_at hl 0 rfl) ?_
  obtain ⟨ca, hf⟩ := m_chkE hf
  replace ca := z_in hM (by decide) ca
  refine z_get (k := 2) (j := 2) (C := RX2) (T := TX2) (N := 12) (fl := zf_2) (v := va_rf ((zP o3.2 2 x0).map (zh y))) X hw_X2_readMarks_2 hM rfl zc_2 ca (by decide) fl_X2_readMarks_2_2 rfl dX2_readMarks_16 ?_
  clear ca
  obtain ⟨b4, hb9, hf⟩ := m_calE hf
  refine z_topr hb9 ?_
  clear hb9
  refine lv_aload_n hx hb dX2_readMarks_19 rfl (lv_at hl 0 rfl) ?_
  obtain ⟨ca, hf⟩ := m_chkE hf
  replace ca := z_in hM (by decide) ca
  refine z_get (k := 2) (j := 4) (C := RX2) (T := TX2) (N := 12) (fl := zf_2) (v := .int (zI o3.2 4 x0)) X hw_X2_readMarks_2 hM rfl zc_2 ca (by decide) fl_X2_readMarks_2_4 rfl dX2_readMarks_20 ?_
  clear ca
  refine lv_iconst (v := (1 : Int32)) hx hb dX2_readMarks_23 (by decide) ?_
  refine lv_iadd hx hb dX2_readMarks_24 ?_
  obtain ⟨v5, ev, hf⟩ := m_bndE hf
  refine m_top ev ?_
  clear ev
  obtain ⟨ca, hf⟩ := m_chkE hf
  replace ca := z_in hM (by decide) ca
  obtain ⟨o6, ho, hf⟩ := m_calE hf
  refine z_callVi (k := 6) (C := RX6) (T := TX6) (N := 2) (fl := zf_6) X hM rfl zc_6 ca (c_X6_at ho) gX2_readMarks_X6_at rfl ⟨rfl, rfl⟩ hd_X6_at ⟨Nat.le_of_ble_eq_true rfl, Nat.le_of_ble_eq_true rfl⟩ rfl hl.1 rfl (Nat.le_of_ble_eq_true rfl) dX2_readMarks_25 (fun H locs hM => ?_)
  clear ho
  obtain ⟨o7, ho, hf⟩ := m_calE hf
  refine z_callSi X hM (c_X2_shortMark ho) gX2_readMarks_X2_shortMark rfl ⟨rfl, rfl⟩ hd_X2_shortMark ⟨Nat.le_of_ble_eq_true rfl, Nat.le_of_ble_eq_true rfl⟩ rfl hl.1 rfl (Nat.le_of_ble_eq_true rfl) dX2_readMarks_28 (fun H locs hM => ?_)
  clear ho
  refine lv_istore_n (lv' := [(2, .int o7.1), (0, .ref (zh y x0)), (1, .ref (zh y x1))]) hx hb dX2_readMarks_31 rfl hl (by decide) rfl (fun ls hl => ?_)
  refine lv_iload_n hx hb dX2_readMarks_32 rfl (lv_at hl 0 rfl) ?_
  refine lv_if_le (tgt := 64) hx hb dX2_readMarks_33 (by decide) (fun cc1 => ?_) (fun cc1 => ?_)
  · replace hf := m_ifT hf cc1
    exact w_X2_readMarks_64 (x0 := x0) (x1 := x1) X hret hf hM (lv_sub hl [1, 2] rfl)
  · replace hf := m_ifF hf cc1
    refine lv_aload_n hx hb dX2_readMarks_36 rfl (lv_at hl 2 rfl) ?_
    refine lv_iload_n hx hb dX2_readMarks_37 rfl (lv_at hl 0 rfl) ?_
    obtain ⟨ca, hf⟩ := m_chkE hf
    replace ca := z_in hM (by decide) ca
    obtain ⟨o8, ho, hf⟩ := m_calE hf
    refine z_callVv (k := 4) (C := RX4) (T := TX4) (N := 7) (fl := zf_4) X hM rfl zc_4 ca (c_X4_putMark ho) gX2_readMarks_X4_putMark rfl ⟨rfl, rfl⟩ hd_X4_putMark ⟨Nat.le_of_ble_eq_true rfl, Nat.le_of_ble_eq_true rfl⟩ rfl hl.1 rfl (Nat.le_of_ble_eq_true rfl) dX2_readMarks_38 (fun H locs hM => ?_)
    clear ho
    refine lv_aload_n hx hb dX2_readMarks_41 rfl (lv_at hl 1 rfl) ?_
    refine lv_dup hx hb dX2_readMarks_42 rfl ?_
    obtain ⟨ca, hf⟩ := m_chkE hf
    replace ca := z_in hM (by decide) ca
    refine z_get (k := 2) (j := 4) (C := RX2) (T := TX2) (N := 12) (fl := zf_2) (v := .int (zI o8.2 4 x0)) X hw_X2_readMarks_2 hM rfl zc_2 ca (by decide) fl_X2_readMarks_2_4 rfl dX2_readMarks_43 ?_
    clear ca
    refine lv_iload_n hx hb dX2_readMarks_46 rfl (lv_at hl 0 rfl) ?_
    refine lv_iconst (v := (2 : Int32)) hx hb dX2_readMarks_47 (by decide) ?_
    refine lv_icmp_le (tgt := 55) hx hb dX2_readMarks_48 (by decide) (fun cc1 => ?_) (fun cc1 => ?_)
    · replace hf := m_ifT hf cc1
      refine lv_iconst (v := (1 : Int32)) hx hb dX2_readMarks_55 (by decide) ?_
      exact w_X2_readMarks_56 (x0 := x0) (x1 := x1) (t0 := (1 : Int32)) (t1 := (zI o8.2 4 x0)) (t2 := x0) X hret hf hM (lv_sub hl [1, 2] rfl)
    · replace hf := m_ifF hf cc1
      refine lv_iconst (v := (2 : Int32)) hx hb dX2_readMarks_51 (by decide) ?_
      refine lv_goto (tgt := 56) hx hb dX2_readMarks_52 (by decide) ?_
      exact w_X2_readMarks_56 (x0 := x0) (x1 := x1) (t0 := (2 : Int32)) (t1 := (zI o8.2 4 x0)) (t2 := x0) X hret hf hM (lv_sub hl [1, 2] rfl)
noncomputable def f_X2_readMarks (x0 : Nat) (x1 : Nat) (S : ZS) : Option (Int32 × ZS) := f_X2_readMarks_0 x0 x1 S
theorem c_X2_readMarks {l : Launch} {D : va_G} {y : Nat → ClassId} {x0 : Nat} {x1 : Nat} {S : ZS} {o : Int32 × ZS} (hf : f_X2_readMarks x0 x1 S = some o) : zMi l yX2_readMarks wsX2_readMarks ({ frames := 3, cells := 0, slots := 0, locals := 67 } : Room) [.ref (zh y x0), .ref (zh y x1)] D y S o :=
  z_entryI (own := RX2) (cc := cX2_readMarks) (maxL := 5) (by decide) rfl rfl (Nat.le_of_ble_eq_true rfl) (fun p e s m args below meth c A0 Q H locs ls X hret hM hl => w_X2_readMarks_0 X hret hf hM (lv_sub hl [0, 1] rfl))
theorem hd_X2_readMove : yX2_readMove.cls = RX2 ∧ yX2_readMove.cls ≠ "java/lang/invoke/MethodHandle" ∧ yX2_readMove.cls ≠ "java/lang/invoke/VarHandle" ∧ (parseMethodDescriptor yX2_readMove.desc).map (fun d => d.parameters.length) = some 1 := by decide +kernel
theorem fl_X2_readMove_0_6 : Cond.fieldLink RX2 179 "MoveTexts$Board" "number" "I" ∈ wsX2_readMove := by decide +kernel
theorem fl_X2_readMove_2_0 : Cond.fieldLink RX2 12 "MoveTexts$GameReader" "signReader" "LMoveTexts$SignReader;" ∈ wsX2_readMove := by decide +kernel
theorem fl_X2_readMove_2_10 : Cond.fieldLink RX2 61 "MoveTexts$GameReader" "before" "[LMoveTexts$Board;" ∈ wsX2_readMove := by decide +kernel
theorem fl_X2_readMove_2_11 : Cond.fieldLink RX2 65 "MoveTexts$GameReader" "behind" "[LMoveTexts$Board;" ∈ wsX2_readMove := by decide +kernel
theorem fl_X2_readMove_2_2 : Cond.fieldLink RX2 28 "MoveTexts$GameReader" "text" "LMoveTexts$Row;" ∈ wsX2_readMove := by decide +kernel
theorem fl_X2_readMove_2_3 : Cond.fieldLink RX2 35 "MoveTexts$GameReader" "game" "LMoveTexts$Game;" ∈ wsX2_readMove := by decide +kernel
theorem fl_X2_readMove_2_4 : Cond.fieldLink RX2 39 "MoveTexts$GameReader" "at" "I" ∈ wsX2_readMove := by decide +kernel
theorem fl_X2_readMove_2_9 : Cond.fieldLink RX2 56 "MoveTexts$GameReader" "last" "[I" ∈ wsX2_readMove := by decide +kernel
theorem hw_X2_readMove_0 : ∀ w ∈ wsX00, w ∈ wsX2_readMove := by decide +kernel
theorem hw_X2_readMove_2 : ∀ w ∈ wsX20, w ∈ wsX2_readMove := by decide +kernel
theorem nn_X2_readMove_132 : ((RX2, 132, yX11_isLetter, "MoveTexts") ∈ zNW ∧ Cond.initialized yX11_isLetter.cls ∈ wsX2_readMove) ∧ Cond.static yX11_isLetter ∈ wsX2_readMove := by decide +kernel
theorem nn_X2_readMove_136 : ((RX2, 136, yX11_isDigit, "MoveTexts") ∈ zNW ∧ Cond.initialized yX11_isDigit.cls ∈ wsX2_readMove) ∧ Cond.static yX11_isDigit ∈ wsX2_readMove := by decide +kernel
noncomputable def g_X2_readMove_234 (Pw : Int32 → ZS → Prop) (t0 : Int32) (S : ZS) (C T : Nat) : Prop :=
  m_chkQ (vp_nar .boolean t0 = t0) (Pw t0 S)

set_option maxRecDepth 100000 in
set_option maxHeartbeats 4000000 in
theorem w_X2_readMove_234 {p : Program} {l : Launch} {e : Env} {s : State} {m : MethodId} {args : Array Value} {below : List Frame} {meth : Method} {c : Code} {Q : State → Prop} {D : va_G} {y : Nat → ClassId} {A0 : Nat → Prop} {kc kt : Nat} {Pw : Int32 → ZS → Prop} (X : CallFix p m c cX2_readMove 6 s args wsX2_readMove RX2) (hret : zQi p l e ({ frames := 8, cells := kc, slots := kt, locals := 178 } : Room) s m args below meth c Q cX2_readMove D y A0 .boolean Pw) {t0 : Int32} {S : ZS} {C T : Nat} {H : Heap} {locs : List Loc} {ls : Array Slot} (hf : g_X2_readMove_234 Pw t0 S C T) (hCT : C ≤ kc ∧ T ≤ kt) (hM : zH D y A0 s H locs S) (hl : lv_has ls 6 []) : W p l e ({ frames := 8, cells := kc, slots := kt, locals := 178 } : Room) s m args below meth c H locs (kc - C) (kt - T) Q (F0 m 234 ls [.int t0]) := by
  obtain ⟨hx, hb, hml, hown, hts⟩ := id X
  unfold g_X2_readMove_234 at hf
  obtain ⟨cd, hf⟩ := m_chkPE hf
  exact hret _ _ _ _ H locs _ ls hf hM (m_nb cd) dX2_readMove_234
noncomputable def g_X2_readMove_233 (Pw : Int32 → ZS → Prop) (S : ZS) (C T : Nat) : Prop :=
  g_X2_readMove_234 Pw (0 : Int32) S (C) (T)

set_option maxRecDepth 100000 in
set_option maxHeartbeats 4000000 in
theorem w_X2_readMove_233 {p : Program} {l : Launch} {e : Env} {s : State} {m : MethodId} {args : Array Value} {below : List Frame} {meth : Method} {c : Code} {Q : State → Prop} {D : va_G} {y : Nat → ClassId} {A0 : Nat → Prop} {kc kt : Nat} {Pw : Int32 → ZS → Prop} (X : CallFix p m c cX2_readMove 6 s args wsX2_readMove RX2) (hret : zQi p l e ({ frames := 8, cells := kc, slots := kt, locals := 178 } : Room) s m args below meth c Q cX2_readMove D y A0 .boolean Pw) {S : ZS} {C T : Nat} {H : Heap} {locs : List Loc} {ls : Array Slot} (hf : g_X2_readMove_233 Pw  S C T) (hCT : C ≤ kc ∧ T ≤ kt) (hM : zH D y A0 s H locs S) (hl : lv_has ls 6 []) : W p l e ({ frames := 8, cells := kc, slots := kt, locals := 178 } : Room) s m args below meth c H locs (kc - C) (kt - T) Q (F0 m 233 ls []) := by
  obtain ⟨hx, hb, hml, hown, hts⟩ := id X
  unfold g_X2_readMove_233 at hf
  refine lv_iconst (v := (0 : Int32)) hx hb dX2_readMove_233 (by decide) ?_
  exact w_X2_readMove_234 (t0 := (0 : Int32)) X hret hf hCT hM (lv_sub hl [] rfl)
noncomputable def g_X2_readMove_110 (Pw : Int32 → ZS → Prop) (x3 : Int32) (t0 : Int32) (t1 : Nat) (S : ZS) (C T : Nat) : Prop :=
  m_chkQ (zK S t1 = 2) (
  m_calP (f_X2_refuse t1 t0 x3 S) (fun o1 =>
  m_chkQ (vp_nar .boolean o1.1 = o1.1) (Pw o1.1 o1.2)))

set_option maxRecDepth 100000 in
set_option maxHeartbeats 4000000 in
theorem w_X2_readMove_110 {p : Program} {l : Launch} {e : Env} {s : State} {m : MethodId} {args : Array Value} {below : List Frame} {meth : Method} {c : Code} {Q : State → Prop} {D : va_G} {y : Nat → ClassId} {A0 : Nat → Prop} {kc kt : Nat} {Pw : Int32 → ZS → Prop} (X : CallFix p m c cX2_readMove 6 s args wsX2_readMove RX2) (hret : zQi p l e ({ frames := 8, cells := kc, slots := kt, locals := 178 } : Room) s m args below meth c Q cX2_readMove D y A0 .boolean Pw) {x3 : Int32} {t0 : Int32} {t1 : Nat} {S : ZS} {C T : Nat} {H : Heap} {locs : List Loc} {ls : Array Slot} (hf : g_X2_readMove_110 Pw x3 t0 t1 S C T) (hCT : C ≤ kc ∧ T ≤ kt) (hM : zH D y A0 s H locs S) (hl : lv_has ls 6 [(3, .int x3)]) : W p l e ({ frames := 8, cells := kc, slots := kt, locals := 178 } : Room) s m args below meth c H locs (kc - C) (kt - T) Q (F0 m 110 ls [.int t0, .ref (zh y t1)]) := by
  obtain ⟨hx, hb, hml, hown, hts⟩ := id X
  unfold g_X2_readMove_110 at hf
  refine lv_iload_n hx hb dX2_readMove_110 rfl (lv_at hl 0 rfl) ?_
  obtain ⟨ca, hf⟩ := m_chkPE hf
  replace ca := z_in hM (by decide) ca
  obtain ⟨o1, ho, hf⟩ := m_calPE hf
  refine z_gcallVi (k := 2) (C := RX2) (T := TX2) (N := 12) (fl := zf_2) X hM rfl zc_2 ca (c_X2_refuse ho) gX2_readMove_X2_refuse rfl ⟨rfl, rfl⟩ hd_X2_refuse ⟨Nat.le_of_ble_eq_true rfl, Nat.le_of_ble_eq_true rfl⟩ rfl hl.1 rfl ⟨Nat.sub_le _ _, Nat.sub_le _ _⟩ (Nat.le_of_ble_eq_true rfl) dX2_readMove_111 (fun H locs hM => ?_)
  clear ho
  obtain ⟨cd, hf⟩ := m_chkPE hf
  exact hret _ _ _ _ H locs _ ls hf hM (m_nb cd) dX2_readMove_114
noncomputable def g_X2_readMove_37 (Pw : Int32 → ZS → Prop) (x0 : Nat) (x1 : Int32) (x2 : Nat) (S : ZS) (C T : Nat) : Prop :=
  m_chkQ (zK S x0 = 2) (
  m_calP (zP S 2 x0) (fun b1 =>
  m_chkQ (zK S x0 = 2) (
  m_chkQ (zK S b1 = 6) (
  m_calP (f_X6_at b1 (zI S 4 x0) S) (fun o2 =>
  m_calP (f_X11_isLetter o2.1 o2.2) (fun o3 =>
  m_ifQ (o3.1 = 0) (
  m_chkQ (zK o3.2 x0 = 2) (
  m_chkQ (zK o3.2 x0 = 2) (
  m_calP (f_X2_refuse x0 (1 : Int32) (zI o3.2 4 x0) o3.2) (fun o42 =>
  m_chkQ (vp_nar .boolean o42.1 = o42.1) (Pw o42.1 o42.2))))
  ) (
  m_chkQ (zK o3.2 x0 = 2) (
  m_chkQ (zK o3.2 x0 = 2) (
  m_calP (f_X2_skipSigns x0 o3.2) (fun o4 =>
  m_chkQ (zK o4.2 x0 = 2) (
  m_calP (zP o4.2 0 x0) (fun b5 =>
  m_chkQ (zK o4.2 x0 = 2) (
  m_calP (zP o4.2 2 x0) (fun b6 =>
  m_chkQ (zK o4.2 x0 = 2) (
  m_chkQ (zK o4.2 b5 = 8) (
  m_gal (C) (T) (fun mc ms Pw => g_X8_matched b5 x2 b6 (zI o3.2 4 x0) (zI o4.2 4 x0) o4.2 mc ms Pw) (fun r8 S9 C10 T11 =>
  m_ifQ (0 ≤ r8) (
  m_chkQ (zK S9 x0 = 2) (
  m_calP (zP S9 3 x0) (fun b12 =>
  m_chkQ (zK S9 x0 = 2) (
  m_calP (zP S9 9 x0) (fun b13 =>
  m_chkQ (zK S9 b13 = 14) (
  m_chkQ (¬ (x1 < 0 ∨ zN S9 b13 ≤ (x1).toNatClampNeg)) (
  m_bndP (zA S9 b13 (x1).toNatClampNeg) (fun v14 =>
  m_chkQ (zK S9 b12 = 1) (
  m_calP (f_X1_childWith b12 v14 r8 S9) (fun o15 =>
  m_ifQ (o15.1 = (-1 : Int32)) (
  m_chkQ (zK o15.2 x0 = 2) (
  m_calP (zP o15.2 3 x0) (fun b16 =>
  m_chkQ (zK o15.2 x0 = 2) (
  m_calP (zP o15.2 9 x0) (fun b17 =>
  m_chkQ (zK o15.2 b17 = 14) (
  m_chkQ (¬ (x1 < 0 ∨ zN o15.2 b17 ≤ (x1).toNatClampNeg)) (
  m_bndP (zA o15.2 b17 (x1).toNatClampNeg) (fun v18 =>
  m_chkQ (zK o15.2 b16 = 1) (
  m_gal (C10) (T11) (fun mc ms Pw => g_X1_grow b16 v18 r8 o15.2 mc ms Pw) (fun r20 S21 C22 T23 =>
  m_ifQ (r20 = (-1 : Int32)) (
  m_chkQ (zK S21 x0 = 2) (
  m_calP (f_X2_refuse x0 (8 : Int32) (zI o3.2 4 x0) S21) (fun o40 =>
  m_chkQ (vp_nar .boolean o40.1 = o40.1) (Pw o40.1 o40.2)))
  ) (
  m_chkQ (zK S21 x0 = 2) (
  m_calP (zP S21 9 x0) (fun b24 =>
  m_chkQ (zK S21 b24 = 14) (
  m_chkQ (¬ (x1 < 0 ∨ zN S21 b24 ≤ (x1).toNatClampNeg)) (
  m_bndP (zsA S21 b24 (x1).toNatClampNeg r20) (fun S25 =>
  m_chkQ (zK S25 x0 = 2) (
  m_calP (zP S25 10 x0) (fun b26 =>
  m_chkQ (zK S25 b26 = 15) (
  m_chkQ (¬ (x1 < 0 ∨ zN S25 b26 ≤ (x1).toNatClampNeg)) (
  m_calP (zB S25 b26 (x1).toNatClampNeg) (fun b27 =>
  m_chkQ (zK S25 b27 = 0) (
  m_calP (f_X0_copyFrom b27 x2 S25) (fun o28 =>
  m_chkQ (zK o28.2 x2 = 0) (
  m_calP (f_X0_play x2 r8 o28.2) (fun o29 =>
  m_chkQ (zK o29.2 x0 = 2) (
  m_calP (zP o29.2 3 x0) (fun b30 =>
  m_chkQ (zK o29.2 b30 = 1) (
  m_calP (f_X1_at b30 r20 o29.2) (fun o31 =>
  m_chkQ (zK o31.2 x0 = 2) (
  m_calP (f_X2_readMarks x0 o31.1 o31.2) (fun o32 =>
  m_ifQ (o32.1 = 0) (
  g_X2_readMove_233 Pw  o32.2 (C22) (T23)
  ) (
  m_chkQ (zK o32.2 x0 = 2) (
  m_calP (zP o32.2 3 x0) (fun b33 =>
  m_chkQ (zK o32.2 b33 = 1) (
  m_calP (f_X1_at b33 r20 o32.2) (fun o34 =>
  m_chkQ (zK o34.2 x0 = 2) (
  m_gal (C22) (T23) (fun mc ms Pw => g_X2_readRemarks x0 o34.1 o34.2 mc ms Pw) (fun r36 S37 C38 T39 =>
  m_ifQ (r36 = 0) (
  g_X2_readMove_233 Pw  S37 (C38) (T39)
  ) (
  g_X2_readMove_234 Pw (1 : Int32) S37 (C38) (T39)
  )))))))
  )))))))))))))))))))))
  ))))))))))
  ) (
  m_chkQ (zK o15.2 x0 = 2) (
  m_calP (f_X2_refuse x0 (6 : Int32) (zI o3.2 4 x0) o15.2) (fun o41 =>
  m_chkQ (vp_nar .boolean o41.1 = o41.1) (Pw o41.1 o41.2)))
  ))))))))))
  ) (
  m_ifQ (r8 = (-2 : Int32)) (
  g_X2_readMove_110 Pw (zI o3.2 4 x0) (5 : Int32) x0 S9 (C10) (T11)
  ) (
  g_X2_readMove_110 Pw (zI o3.2 4 x0) (4 : Int32) x0 S9 (C10) (T11)
  )
  )))))))))))
  )))))))

set_option maxRecDepth 100000 in
set_option maxHeartbeats 4000000 in
theorem w_X2_readMove_37 {p : Program} {l : Launch} {e : Env} {s : State} {m : MethodId} {args : Array Value} {below : List Frame} {meth : Method} {c : Code} {Q : State → Prop} {D : va_G} {y : Nat → ClassId} {A0 : Nat → Prop} {kc kt : Nat} {Pw : Int32 → ZS → Prop} (X : CallFix p m c cX2_readMove 6 s args wsX2_readMove RX2) (hret : zQi p l e ({ frames := 8, cells := kc, slots := kt, locals := 178 } : Room) s m args below meth c Q cX2_readMove D y A0 .boolean Pw) {x0 : Nat} {x1 : Int32} {x2 : Nat} {S : ZS} {C T : Nat} {H : Heap} {locs : List Loc} {ls : Array Slot} (hf : g_X2_readMove_37 Pw x0 x1 x2 S C T) (hCT : C ≤ kc ∧ T ≤ kt) (hM : zH D y A0 s H locs S) (hl : lv_has ls 6 [(0, .ref (zh y x0)), (1, .int x1), (2, .ref (zh y x2))]) : W p l e ({ frames := 8, cells := kc, slots := kt, locals := 178 } : Room) s m args below meth c H locs (kc - C) (kt - T) Q (F0 m 37 ls []) := by
  obtain ⟨hx, hb, hml, hown, hts⟩ := id X
  unfold g_X2_readMove_37 at hf
  refine lv_aload_n hx hb dX2_readMove_37 rfl (lv_at hl 0 rfl) ?_
  obtain ⟨ca, hf⟩ := m_chkPE hf
  replace ca := z_in hM (by decide) ca
  refine z_get (k := 2) (j := 2) (C := RX2) (T := TX2) (N := 12) (fl := zf_2) (v := va_rf ((zP S 2 x0).map (zh y))) X hw_X2_readMove_2 hM rfl zc_2 ca (by decide) fl_X2_readMove_2_2 rfl dX2_readMove_38 ?_
  clear ca
  obtain ⟨b1, hb9, hf⟩ := m_calPE hf
  refine z_topr hb9 ?_
  clear hb9
  refine lv_aload_n hx hb dX2_readMove_41 rfl (lv_at hl 0 rfl) ?_
  obtain ⟨ca, hf⟩ := m_chkPE hf
  replace ca := z_in hM (by decide) ca
  refine z_get (k := 2) (j := 4) (C := RX2) (T := TX2) (N := 12) (fl := zf_2) (v := .int (zI S 4 x0)) X hw_X2_readMove_2 hM rfl zc_2 ca (by decide) fl_X2_readMove_2_4 rfl dX2_readMove_42 ?_
  clear ca
  obtain ⟨ca, hf⟩ := m_chkPE hf
  replace ca := z_in hM (by decide) ca
  obtain ⟨o2, ho, hf⟩ := m_calPE hf
  refine z_gcallVi (k := 6) (C := RX6) (T := TX6) (N := 2) (fl := zf_6) X hM rfl zc_6 ca (c_X6_at ho) gX2_readMove_X6_at rfl ⟨rfl, rfl⟩ hd_X6_at ⟨Nat.le_of_ble_eq_true rfl, Nat.le_of_ble_eq_true rfl⟩ rfl hl.1 rfl ⟨Nat.sub_le _ _, Nat.sub_le _ _⟩ (Nat.le_of_ble_eq_true rfl) dX2_readMove_45 (fun H locs hM => ?_)
  clear ho
  obtain ⟨o3, ho, hf⟩ := m_calPE hf
  refine z_gcallSNi X hM (c_X11_isLetter ho) gX2_readMove_X11_isLetter_n132 nn_X2_readMove_132.1.1 nn_X2_readMove_132.1.2 nn_X2_readMove_132.2 rfl ⟨rfl, rfl⟩ hd_X11_isLetter ⟨Nat.le_of_ble_eq_true rfl, Nat.le_of_ble_eq_true rfl⟩ rfl hl.1 rfl ⟨Nat.sub_le _ _, Nat.sub_le _ _⟩ (Nat.le_of_ble_eq_true rfl) dX2_readMove_48 (fun H locs hM => ?_)
  clear ho
  refine lv_if_ne (tgt := 64) hx hb dX2_readMove_51 (by decide) (fun cc1 => ?_) (fun cc1 => ?_)
  · replace hf := m_ifPF hf cc1
    refine lv_aload_n hx hb dX2_readMove_64 rfl (lv_at hl 0 rfl) ?_
    obtain ⟨ca, hf⟩ := m_chkPE hf
    replace ca := z_in hM (by decide) ca
    refine z_get (k := 2) (j := 4) (C := RX2) (T := TX2) (N := 12) (fl := zf_2) (v := .int (zI o3.2 4 x0)) X hw_X2_readMove_2 hM rfl zc_2 ca (by decide) fl_X2_readMove_2_4 rfl dX2_readMove_65 ?_
    clear ca
    refine lv_istore_n (lv' := [(3, .int (zI o3.2 4 x0)), (0, .ref (zh y x0)), (1, .int x1), (2, .ref (zh y x2))]) hx hb dX2_readMove_68 rfl hl (by decide) rfl (fun ls hl => ?_)
    refine lv_aload_n hx hb dX2_readMove_69 rfl (lv_at hl 1 rfl) ?_
    obtain ⟨ca, hf⟩ := m_chkPE hf
    replace ca := z_in hM (by decide) ca
    obtain ⟨o4, ho, hf⟩ := m_calPE hf
    refine z_gcallVv (k := 2) (C := RX2) (T := TX2) (N := 12) (fl := zf_2) X hM rfl zc_2 ca (c_X2_skipSigns ho) gX2_readMove_X2_skipSigns rfl ⟨rfl, rfl⟩ hd_X2_skipSigns ⟨Nat.le_of_ble_eq_true rfl, Nat.le_of_ble_eq_true rfl⟩ rfl hl.1 rfl ⟨Nat.sub_le _ _, Nat.sub_le _ _⟩ (Nat.le_of_ble_eq_true rfl) dX2_readMove_70 (fun H locs hM => ?_)
    clear ho
    refine lv_aload_n hx hb dX2_readMove_73 rfl (lv_at hl 1 rfl) ?_
    obtain ⟨ca, hf⟩ := m_chkPE hf
    replace ca := z_in hM (by decide) ca
    refine z_get (k := 2) (j := 0) (C := RX2) (T := TX2) (N := 12) (fl := zf_2) (v := va_rf ((zP o4.2 0 x0).map (zh y))) X hw_X2_readMove_2 hM rfl zc_2 ca (by decide) fl_X2_readMove_2_0 rfl dX2_readMove_74 ?_
    clear ca
    obtain ⟨b5, hb9, hf⟩ := m_calPE hf
    refine z_topr hb9 ?_
    clear hb9
    refine lv_aload_n hx hb dX2_readMove_77 rfl (lv_at hl 3 rfl) ?_
    refine lv_aload_n hx hb dX2_readMove_78 rfl (lv_at hl 1 rfl) ?_
    obtain ⟨ca, hf⟩ := m_chkPE hf
    replace ca := z_in hM (by decide) ca
    refine z_get (k := 2) (j := 2) (C := RX2) (T := TX2) (N := 12) (fl := zf_2) (v := va_rf ((zP o4.2 2 x0).map (zh y))) X hw_X2_readMove_2 hM rfl zc_2 ca (by decide) fl_X2_readMove_2_2 rfl dX2_readMove_79 ?_
    clear ca
    obtain ⟨b6, hb9, hf⟩ := m_calPE hf
    refine z_topr hb9 ?_
    clear hb9
    refine lv_iload_n hx hb dX2_readMove_82 rfl (lv_at hl 0 rfl) ?_
    refine lv_aload_n hx hb dX2_readMove_83 rfl (lv_at hl 1 rfl) ?_
    obtain ⟨ca, hf⟩ := m_chkPE hf
    replace ca := z_in hM (by decide) ca
    refine z_get (k := 2) (j := 4) (C := RX2) (T := TX2) (N := 12) (fl := zf_2) (v := .int (zI o4.2 4 x0)) X hw_X2_readMove_2 hM rfl zc_2 ca (by decide) fl_X2_readMove_2_4 rfl dX2_readMove_84 ?_
    clear ca
    obtain ⟨ca, hf⟩ := m_chkPE hf
    replace ca := z_in hM (by decide) ca
    obtain ⟨mc, ms, hcm, ho⟩ := m_galE hf
    refine z_wcallVi (k := 8) (C := RX8) (T := TX8) (N := 12) (fl := zf_8) X hM rfl zc_8 ca (c_X8_matched ho) gX2_readMove_X8_matched rfl ⟨rfl, rfl⟩ ⟨by show kc - (C) + mc ≤ kc; omega, by show kt - (T) + ms ≤ kt; omega⟩ hd_X8_matched ⟨Nat.le_of_ble_eq_true rfl, Nat.le_of_ble_eq_true rfl⟩ rfl hl.1 rfl (Nat.le_of_ble_eq_true rfl) dX2_readMove_87 (fun r8 S9 H locs hf hM => ?_)
    refine z_eqCS (c2 := kc - (C - mc)) (t2 := kt - (T - ms)) (by omega) (by omega) ?_
    replace hCT : C - mc ≤ kc ∧ T - ms ≤ kt := by omega
    generalize C - mc = C10 at hf hCT ⊢
    generalize T - ms = T11 at hf hCT ⊢
    clear ho hcm
    refine lv_istore (lv' := [(4, .int r8), (3, .int (zI o3.2 4 x0)), (0, .ref (zh y x0)), (1, .int x1), (2, .ref (zh y x2))]) hx hb dX2_readMove_90 hl (by decide) rfl (fun ls hl => ?_)
    refine lv_iload hx hb dX2_readMove_92 (lv_at hl 0 rfl) ?_
    refine lv_if_ge (tgt := 115) hx hb dX2_readMove_94 (by decide) (fun cc1 => ?_) (fun cc1 => ?_)
    · replace hf := m_ifPT hf cc1
      refine lv_aload_n hx hb dX2_readMove_115 rfl (lv_at hl 2 rfl) ?_
      obtain ⟨ca, hf⟩ := m_chkPE hf
      replace ca := z_in hM (by decide) ca
      refine z_get (k := 2) (j := 3) (C := RX2) (T := TX2) (N := 12) (fl := zf_2) (v := va_rf ((zP S9 3 x0).map (zh y))) X hw_X2_readMove_2 hM rfl zc_2 ca (by decide) fl_X2_readMove_2_3 rfl dX2_readMove_116 ?_
      clear ca
      obtain ⟨b12, hb9, hf⟩ := m_calPE hf
      refine z_topr hb9 ?_
      clear hb9
      refine lv_aload_n hx hb dX2_readMove_119 rfl (lv_at hl 2 rfl) ?_
      obtain ⟨ca, hf⟩ := m_chkPE hf
      replace ca := z_in hM (by decide) ca
      refine z_get (k := 2) (j := 9) (C := RX2) (T := TX2) (N := 12) (fl := zf_2) (v := va_rf ((zP S9 9 x0).map (zh y))) X hw_X2_readMove_2 hM rfl zc_2 ca (by decide) fl_X2_readMove_2_9 rfl dX2_readMove_120 ?_
      clear ca
      obtain ⟨b13, hb9, hf⟩ := m_calPE hf
      refine z_topr hb9 ?_
      clear hb9
      refine lv_iload_n hx hb dX2_readMove_123 rfl (lv_at hl 3 rfl) ?_
      obtain ⟨ca, hf⟩ := m_chkPE hf
      replace ca := z_in hM (by decide) ca
      obtain ⟨cd, hf⟩ := m_chkPE hf
      refine z_iald X hM ca cd dX2_readMove_124 ?_
      clear ca cd
      obtain ⟨v14, ev, hf⟩ := m_bndPE hf
      refine m_top ev ?_
      clear ev
      refine lv_iload hx hb dX2_readMove_125 (lv_at hl 0 rfl) ?_
      obtain ⟨ca, hf⟩ := m_chkPE hf
      replace ca := z_in hM (by decide) ca
      obtain ⟨o15, ho, hf⟩ := m_calPE hf
      refine z_gcallVi (k := 1) (C := RX1) (T := TX1) (N := 8) (fl := zf_1) X hM rfl zc_1 ca (c_X1_childWith ho) gX2_readMove_X1_childWith rfl ⟨rfl, rfl⟩ hd_X1_childWith ⟨Nat.le_of_ble_eq_true rfl, Nat.le_of_ble_eq_true rfl⟩ rfl hl.1 rfl ⟨Nat.sub_le _ _, Nat.sub_le _ _⟩ (Nat.le_of_ble_eq_true rfl) dX2_readMove_127 (fun H locs hM => ?_)
      clear ho
      refine lv_iconst (v := (-1 : Int32)) hx hb dX2_readMove_130 (by decide) ?_
      refine lv_icmp_eq (tgt := 142) hx hb dX2_readMove_131 (by decide) (fun cc1 => ?_) (fun cc1 => ?_)
      · replace hf := m_ifPT hf cc1
        refine lv_aload_n hx hb dX2_readMove_142 rfl (lv_at hl 2 rfl) ?_
        obtain ⟨ca, hf⟩ := m_chkPE hf
        replace ca := z_in hM (by decide) ca
        refine z_get (k := 2) (j := 3) (C := RX2) (T := TX2) (N := 12) (fl := zf_2) (v := va_rf ((zP o15.2 3 x0).map (zh y))) X hw_X2_readMove_2 hM rfl zc_2 ca (by decide) fl_X2_readMove_2_3 rfl dX2_readMove_143 ?_
        clear ca
        obtain ⟨b16, hb9, hf⟩ := m_calPE hf
        refine z_topr hb9 ?_
        clear hb9
        refine lv_aload_n hx hb dX2_readMove_146 rfl (lv_at hl 2 rfl) ?_
        obtain ⟨ca, hf⟩ := m_chkPE hf
        replace ca := z_in hM (by decide) ca
        refine z_get (k := 2) (j := 9) (C := RX2) (T := TX2) (N := 12) (fl := zf_2) (v := va_rf ((zP o15.2 9 x0).map (zh y))) X hw_X2_readMove_2 hM rfl zc_2 ca (by decide) fl_X2_readMove_2_9 rfl dX2_readMove_147 ?_
        clear ca
        obtain ⟨b17, hb9, hf⟩ := m_calPE hf
        refine z_topr hb9 ?_
        clear hb9
        refine lv_iload_n hx hb dX2_readMove_150 rfl (lv_at hl 3 rfl) ?_
        obtain ⟨ca, hf⟩ := m_chkPE hf
        replace ca := z_in hM (by decide) ca
        obtain ⟨cd, hf⟩ := m_chkPE hf
        refine z_iald X hM ca cd dX2_readMove_151 ?_
        clear ca cd
        obtain ⟨v18, ev, hf⟩ := m_bndPE hf
        refine m_top ev ?_
        clear ev
        refine lv_iload hx hb dX2_readMove_152 (lv_at hl 0 rfl) ?_
        obtain ⟨ca, hf⟩ := m_chkPE hf
        replace ca := z_in hM (by decide) ca
        obtain ⟨mc, ms, hcm, ho⟩ := m_galE hf
        refine z_wcallVi (k := 1) (C := RX1) (T := TX1) (N := 8) (fl := zf_1) X hM rfl zc_1 ca (c_X1_grow ho) gX2_readMove_X1_grow rfl ⟨rfl, rfl⟩ ⟨by show kc - (C10) + mc ≤ kc; omega, by show kt - (T11) + ms ≤ kt; omega⟩ hd_X1_grow ⟨Nat.le_of_ble_eq_true rfl, Nat.le_of_ble_eq_true rfl⟩ rfl hl.1 rfl (Nat.le_of_ble_eq_true rfl) dX2_readMove_154 (fun r20 S21 H locs hf hM => ?_)
        refine z_eqCS (c2 := kc - (C10 - mc)) (t2 := kt - (T11 - ms)) (by omega) (by omega) ?_
        replace hCT : C10 - mc ≤ kc ∧ T11 - ms ≤ kt := by omega
        generalize C10 - mc = C22 at hf hCT ⊢
        generalize T11 - ms = T23 at hf hCT ⊢
        clear ho hcm
        refine lv_istore (lv' := [(5, .int r20), (4, .int r8), (3, .int (zI o3.2 4 x0)), (0, .ref (zh y x0)), (1, .int x1), (2, .ref (zh y x2))]) hx hb dX2_readMove_157 hl (by decide) rfl (fun ls hl => ?_)
        refine lv_iload hx hb dX2_readMove_159 (lv_at hl 0 rfl) ?_
        refine lv_iconst (v := (-1 : Int32)) hx hb dX2_readMove_161 (by decide) ?_
        refine lv_icmp_ne (tgt := 173) hx hb dX2_readMove_162 (by decide) (fun cc1 => ?_) (fun cc1 => ?_)
        · replace hf := m_ifPF hf cc1
          refine lv_aload_n hx hb dX2_readMove_173 rfl (lv_at hl 3 rfl) ?_
          obtain ⟨ca, hf⟩ := m_chkPE hf
          replace ca := z_in hM (by decide) ca
          refine z_get (k := 2) (j := 9) (C := RX2) (T := TX2) (N := 12) (fl := zf_2) (v := va_rf ((zP S21 9 x0).map (zh y))) X hw_X2_readMove_2 hM rfl zc_2 ca (by decide) fl_X2_readMove_2_9 rfl dX2_readMove_174 ?_
          clear ca
          obtain ⟨b24, hb9, hf⟩ := m_calPE hf
          refine z_topr hb9 ?_
          clear hb9
          refine lv_iload_n hx hb dX2_readMove_177 rfl (lv_at hl 4 rfl) ?_
          refine lv_iload hx hb dX2_readMove_178 (lv_at hl 0 rfl) ?_
          obtain ⟨ca, hf⟩ := m_chkPE hf
          replace ca := z_in hM (by decide) ca
          obtain ⟨cd, hf⟩ := m_chkPE hf
          refine z_iast X hM ca cd dX2_readMove_180 (fun H locs hM => ?_)
          clear ca cd
          obtain ⟨S25, ev, hf⟩ := m_bndPE hf
          replace hM := z_hS hM ev
          clear ev
          refine lv_aload_n hx hb dX2_readMove_181 rfl (lv_at hl 3 rfl) ?_
          obtain ⟨ca, hf⟩ := m_chkPE hf
          replace ca := z_in hM (by decide) ca
          refine z_get (k := 2) (j := 10) (C := RX2) (T := TX2) (N := 12) (fl := zf_2) (v := va_rf ((zP S25 10 x0).map (zh y))) X hw_X2_readMove_2 hM rfl zc_2 ca (by decide) fl_X2_readMove_2_10 rfl dX2_readMove_182 ?_
          clear ca
          obtain ⟨b26, hb9, hf⟩ := m_calPE hf
          refine z_topr hb9 ?_
          clear hb9
          refine lv_iload_n hx hb dX2_readMove_185 rfl (lv_at hl 4 rfl) ?_
          obtain ⟨ca, hf⟩ := m_chkPE hf
          replace ca := z_in hM (by decide) ca
          obtain ⟨cd, hf⟩ := m_chkPE hf
          refine z_aald (k := 15) (t0 := 2) (C := "MoveTexts$Board") X hM (fun _ _ _ _ _ => rfl) rfl ca cd dX2_readMove_186 ?_
          clear ca cd
          obtain ⟨b27, hb9, hf⟩ := m_calPE hf
          refine z_topr hb9 ?_
          clear hb9
          refine lv_aload_n hx hb dX2_readMove_187 rfl (lv_at hl 5 rfl) ?_
          obtain ⟨ca, hf⟩ := m_chkPE hf
          replace ca := z_in hM (by decide) ca
          obtain ⟨o28, ho, hf⟩ := m_calPE hf
          refine z_gcallVv (k := 0) (C := RX0) (T := TX0) (N := 7) (fl := zf_0) X hM rfl zc_0 ca (c_X0_copyFrom ho) gX2_readMove_X0_copyFrom rfl ⟨rfl, rfl⟩ hd_X0_copyFrom ⟨Nat.le_of_ble_eq_true rfl, Nat.le_of_ble_eq_true rfl⟩ rfl hl.1 rfl ⟨Nat.sub_le _ _, Nat.sub_le _ _⟩ (Nat.le_of_ble_eq_true rfl) dX2_readMove_188 (fun H locs hM => ?_)
          clear ho
          refine lv_aload_n hx hb dX2_readMove_191 rfl (lv_at hl 5 rfl) ?_
          refine lv_iload hx hb dX2_readMove_192 (lv_at hl 1 rfl) ?_
          obtain ⟨ca, hf⟩ := m_chkPE hf
          replace ca := z_in hM (by decide) ca
          obtain ⟨o29, ho, hf⟩ := m_calPE hf
          refine z_gcallVv (k := 0) (C := RX0) (T := TX0) (N := 7) (fl := zf_0) X hM rfl zc_0 ca (c_X0_play ho) gX2_readMove_X0_play rfl ⟨rfl, rfl⟩ hd_X0_play ⟨Nat.le_of_ble_eq_true rfl, Nat.le_of_ble_eq_true rfl⟩ rfl hl.1 rfl ⟨Nat.sub_le _ _, Nat.sub_le _ _⟩ (Nat.le_of_ble_eq_true rfl) dX2_readMove_194 (fun H locs hM => ?_)
          clear ho
          refine lv_aload_n hx hb dX2_readMove_197 rfl (lv_at hl 3 rfl) ?_
          refine lv_aload_n hx hb dX2_readMove_198 rfl (lv_at hl 3 rfl) ?_
          obtain ⟨ca, hf⟩ := m_chkPE hf
          replace ca := z_in hM (by decide) ca
          refine z_get (k := 2) (j := 3) (C := RX2) (T := TX2) (N := 12) (fl := zf_2) (v := va_rf ((zP o29.2 3 x0).map (zh y))) X hw_X2_readMove_2 hM rfl zc_2 ca (by decide) fl_X2_readMove_2_3 rfl dX2_readMove_199 ?_
          clear ca
          obtain ⟨b30, hb9, hf⟩ := m_calPE hf
          refine z_topr hb9 ?_
          clear hb9
          refine lv_iload hx hb dX2_readMove_202 (lv_at hl 0 rfl) ?_
          obtain ⟨ca, hf⟩ := m_chkPE hf
          replace ca := z_in hM (by decide) ca
          obtain ⟨o31, ho, hf⟩ := m_calPE hf
          refine z_gcallVr (k := 1) (C := RX1) (T := TX1) (N := 8) (fl := zf_1) X hM rfl zc_1 ca (c_X1_at ho) gX2_readMove_X1_at rfl ⟨rfl, rfl⟩ hd_X1_at ⟨Nat.le_of_ble_eq_true rfl, Nat.le_of_ble_eq_true rfl⟩ rfl hl.1 rfl ⟨Nat.sub_le _ _, Nat.sub_le _ _⟩ (Nat.le_of_ble_eq_true rfl) dX2_readMove_204 (fun H locs hM => ?_)
          clear ho
          obtain ⟨ca, hf⟩ := m_chkPE hf
          replace ca := z_in hM (by decide) ca
          obtain ⟨o32, ho, hf⟩ := m_calPE hf
          refine z_gcallVi (k := 2) (C := RX2) (T := TX2) (N := 12) (fl := zf_2) X hM rfl zc_2 ca (c_X2_readMarks ho) gX2_readMove_X2_readMarks rfl ⟨rfl, rfl⟩ hd_X2_readMarks ⟨Nat.le_of_ble_eq_true rfl, Nat.le_of_ble_eq_true rfl⟩ rfl hl.1 rfl ⟨Nat.sub_le _ _, Nat.sub_le _ _⟩ (Nat.le_of_ble_eq_true rfl) dX2_readMove_207 (fun H locs hM => ?_)
          clear ho
          refine lv_if_eq (tgt := 233) hx hb dX2_readMove_210 (by decide) (fun cc1 => ?_) (fun cc1 => ?_)
          · replace hf := m_ifPT hf cc1
            exact w_X2_readMove_233 X hret hf hCT hM (lv_sub hl [] rfl)
          · replace hf := m_ifPF hf cc1
            refine lv_aload_n hx hb dX2_readMove_213 rfl (lv_at hl 3 rfl) ?_
            refine lv_aload_n hx hb dX2_readMove_214 rfl (lv_at hl 3 rfl) ?_
            obtain ⟨ca, hf⟩ := m_chkPE hf
            replace ca := z_in hM (by decide) ca
            refine z_get (k := 2) (j := 3) (C := RX2) (T := TX2) (N := 12) (fl := zf_2) (v := va_rf ((zP o32.2 3 x0).map (zh y))) X hw_X2_readMove_2 hM rfl zc_2 ca (by decide) fl_X2_readMove_2_3 rfl dX2_readMove_215 ?_
            clear ca
            obtain ⟨b33, hb9, hf⟩ := m_calPE hf
            refine z_topr hb9 ?_
            clear hb9
            refine lv_iload hx hb dX2_readMove_218 (lv_at hl 0 rfl) ?_
            obtain ⟨ca, hf⟩ := m_chkPE hf
            replace ca := z_in hM (by decide) ca
            obtain ⟨o34, ho, hf⟩ := m_calPE hf
            refine z_gcallVr (k := 1) (C := RX1) (T := TX1) (N := 8) (fl := zf_1) X hM rfl zc_1 ca (c_X1_at ho) gX2_readMove_X1_at rfl ⟨rfl, rfl⟩ hd_X1_at ⟨Nat.le_of_ble_eq_true rfl, Nat.le_of_ble_eq_true rfl⟩ rfl hl.1 rfl ⟨Nat.sub_le _ _, Nat.sub_le _ _⟩ (Nat.le_of_ble_eq_true rfl) dX2_readMove_220 (fun H locs hM => ?_)
            clear ho
            obtain ⟨ca, hf⟩ := m_chkPE hf
            replace ca := z_in hM (by decide) ca
            obtain ⟨mc, ms, hcm, ho⟩ := m_galE hf
            refine z_wcallVi (k := 2) (C := RX2) (T := TX2) (N := 12) (fl := zf_2) X hM rfl zc_2 ca (c_X2_readRemarks ho) gX2_readMove_X2_readRemarks rfl ⟨rfl, rfl⟩ ⟨by show kc - (C22) + mc ≤ kc; omega, by show kt - (T23) + ms ≤ kt; omega⟩ hd_X2_readRemarks ⟨Nat.le_of_ble_eq_true rfl, Nat.le_of_ble_eq_true rfl⟩ rfl hl.1 rfl (Nat.le_of_ble_eq_true rfl) dX2_readMove_223 (fun r36 S37 H locs hf hM => ?_)
            refine z_eqCS (c2 := kc - (C22 - mc)) (t2 := kt - (T23 - ms)) (by omega) (by omega) ?_
            replace hCT : C22 - mc ≤ kc ∧ T23 - ms ≤ kt := by omega
            generalize C22 - mc = C38 at hf hCT ⊢
            generalize T23 - ms = T39 at hf hCT ⊢
            clear ho hcm
            refine lv_if_eq (tgt := 233) hx hb dX2_readMove_226 (by decide) (fun cc1 => ?_) (fun cc1 => ?_)
            · replace hf := m_ifPT hf cc1
              exact w_X2_readMove_233 X hret hf hCT hM (lv_sub hl [] rfl)
            · replace hf := m_ifPF hf cc1
              refine lv_iconst (v := (1 : Int32)) hx hb dX2_readMove_229 (by decide) ?_
              refine lv_goto (tgt := 234) hx hb dX2_readMove_230 (by decide) ?_
              exact w_X2_readMove_234 (t0 := (1 : Int32)) X hret hf hCT hM (lv_sub hl [] rfl)
        · replace hf := m_ifPT hf cc1
          refine lv_aload_n hx hb dX2_readMove_165 rfl (lv_at hl 3 rfl) ?_
          refine lv_bipush (v := (8 : Int32)) hx hb dX2_readMove_166 (by decide) ?_
          refine lv_iload_n hx hb dX2_readMove_168 rfl (lv_at hl 2 rfl) ?_
          obtain ⟨ca, hf⟩ := m_chkPE hf
          replace ca := z_in hM (by decide) ca
          obtain ⟨o40, ho, hf⟩ := m_calPE hf
          refine z_gcallVi (k := 2) (C := RX2) (T := TX2) (N := 12) (fl := zf_2) X hM rfl zc_2 ca (c_X2_refuse ho) gX2_readMove_X2_refuse rfl ⟨rfl, rfl⟩ hd_X2_refuse ⟨Nat.le_of_ble_eq_true rfl, Nat.le_of_ble_eq_true rfl⟩ rfl hl.1 rfl ⟨Nat.sub_le _ _, Nat.sub_le _ _⟩ (Nat.le_of_ble_eq_true rfl) dX2_readMove_169 (fun H locs hM => ?_)
          clear ho
          obtain ⟨cd, hf⟩ := m_chkPE hf
          exact hret _ _ _ _ H locs _ ls hf hM (m_nb cd) dX2_readMove_172
      · replace hf := m_ifPF hf cc1
        refine lv_aload_n hx hb dX2_readMove_134 rfl (lv_at hl 2 rfl) ?_
        refine lv_bipush (v := (6 : Int32)) hx hb dX2_readMove_135 (by decide) ?_
        refine lv_iload_n hx hb dX2_readMove_137 rfl (lv_at hl 1 rfl) ?_
        obtain ⟨ca, hf⟩ := m_chkPE hf
        replace ca := z_in hM (by decide) ca
        obtain ⟨o41, ho, hf⟩ := m_calPE hf
        refine z_gcallVi (k := 2) (C := RX2) (T := TX2) (N := 12) (fl := zf_2) X hM rfl zc_2 ca (c_X2_refuse ho) gX2_readMove_X2_refuse rfl ⟨rfl, rfl⟩ hd_X2_refuse ⟨Nat.le_of_ble_eq_true rfl, Nat.le_of_ble_eq_true rfl⟩ rfl hl.1 rfl ⟨Nat.sub_le _ _, Nat.sub_le _ _⟩ (Nat.le_of_ble_eq_true rfl) dX2_readMove_138 (fun H locs hM => ?_)
        clear ho
        obtain ⟨cd, hf⟩ := m_chkPE hf
        exact hret _ _ _ _ H locs _ ls hf hM (m_nb cd) dX2_readMove_141
    · replace hf := m_ifPF hf cc1
      refine lv_aload_n hx hb dX2_readMove_97 rfl (lv_at hl 2 rfl) ?_
      refine lv_iload hx hb dX2_readMove_98 (lv_at hl 0 rfl) ?_
      refine lv_bipush (v := (-2 : Int32)) hx hb dX2_readMove_100 (by decide) ?_
      refine lv_icmp_ne (tgt := 109) hx hb dX2_readMove_102 (by decide) (fun cc1 => ?_) (fun cc1 => ?_)
      · replace hf := m_ifPF hf cc1
        refine lv_iconst (v := (4 : Int32)) hx hb dX2_readMove_109 (by decide) ?_
        exact w_X2_readMove_110 (x3 := (zI o3.2 4 x0)) (t0 := (4 : Int32)) (t1 := x0) X hret hf hCT hM (lv_sub hl [1] rfl)
      · replace hf := m_ifPT hf cc1
        refine lv_iconst (v := (5 : Int32)) hx hb dX2_readMove_105 (by decide) ?_
        refine lv_goto (tgt := 110) hx hb dX2_readMove_106 (by decide) ?_
        exact w_X2_readMove_110 (x3 := (zI o3.2 4 x0)) (t0 := (5 : Int32)) (t1 := x0) X hret hf hCT hM (lv_sub hl [1] rfl)
  · replace hf := m_ifPT hf cc1
    refine lv_aload_n hx hb dX2_readMove_54 rfl (lv_at hl 0 rfl) ?_
    refine lv_iconst (v := (1 : Int32)) hx hb dX2_readMove_55 (by decide) ?_
    refine lv_aload_n hx hb dX2_readMove_56 rfl (lv_at hl 0 rfl) ?_
    obtain ⟨ca, hf⟩ := m_chkPE hf
    replace ca := z_in hM (by decide) ca
    refine z_get (k := 2) (j := 4) (C := RX2) (T := TX2) (N := 12) (fl := zf_2) (v := .int (zI o3.2 4 x0)) X hw_X2_readMove_2 hM rfl zc_2 ca (by decide) fl_X2_readMove_2_4 rfl dX2_readMove_57 ?_
    clear ca
    obtain ⟨ca, hf⟩ := m_chkPE hf
    replace ca := z_in hM (by decide) ca
    obtain ⟨o42, ho, hf⟩ := m_calPE hf
    refine z_gcallVi (k := 2) (C := RX2) (T := TX2) (N := 12) (fl := zf_2) X hM rfl zc_2 ca (c_X2_refuse ho) gX2_readMove_X2_refuse rfl ⟨rfl, rfl⟩ hd_X2_refuse ⟨Nat.le_of_ble_eq_true rfl, Nat.le_of_ble_eq_true rfl⟩ rfl hl.1 rfl ⟨Nat.sub_le _ _, Nat.sub_le _ _⟩ (Nat.le_of_ble_eq_true rfl) dX2_readMove_60 (fun H locs hM => ?_)
    clear ho
    obtain ⟨cd, hf⟩ := m_chkPE hf
    exact hret _ _ _ _ H locs _ ls hf hM (m_nb cd) dX2_readMove_63
noncomputable def g_X2_readMove_0 (Pw : Int32 → ZS → Prop) (x0 : Nat) (x1 : Int32) (S : ZS) (C T : Nat) : Prop :=
  m_chkQ (zK S x0 = 2) (
  m_calP (zP S 11 x0) (fun b1 =>
  m_chkQ (zK S b1 = 15) (
  m_chkQ (¬ (x1 < 0 ∨ zN S b1 ≤ (x1).toNatClampNeg)) (
  m_calP (zB S b1 (x1).toNatClampNeg) (fun b2 =>
  m_chkQ (zK S x0 = 2) (
  m_calP (zP S 2 x0) (fun b3 =>
  m_chkQ (zK S x0 = 2) (
  m_chkQ (zK S b3 = 6) (
  m_calP (f_X6_at b3 (zI S 4 x0) S) (fun o4 =>
  m_calP (f_X11_isDigit o4.1 o4.2) (fun o5 =>
  m_ifQ (o5.1 = 0) (
  g_X2_readMove_37 Pw x0 x1 b2 o5.2 (C) (T)
  ) (
  m_chkQ (zK o5.2 b2 = 0) (
  m_chkQ (zK o5.2 x0 = 2) (
  m_calP (f_X2_readNumber x0 (zI o5.2 6 b2) o5.2) (fun o6 =>
  m_ifQ (o6.1 = 0) (
  m_chkQ (vp_nar .boolean (0 : Int32) = (0 : Int32)) (Pw (0 : Int32) o6.2)
  ) (
  g_X2_readMove_37 Pw x0 x1 b2 o6.2 (C) (T)
  ))))
  ))))))))))))

set_option maxRecDepth 100000 in
set_option maxHeartbeats 4000000 in
theorem w_X2_readMove_0 {p : Program} {l : Launch} {e : Env} {s : State} {m : MethodId} {args : Array Value} {below : List Frame} {meth : Method} {c : Code} {Q : State → Prop} {D : va_G} {y : Nat → ClassId} {A0 : Nat → Prop} {kc kt : Nat} {Pw : Int32 → ZS → Prop} (X : CallFix p m c cX2_readMove 6 s args wsX2_readMove RX2) (hret : zQi p l e ({ frames := 8, cells := kc, slots := kt, locals := 178 } : Room) s m args below meth c Q cX2_readMove D y A0 .boolean Pw) {x0 : Nat} {x1 : Int32} {S : ZS} {C T : Nat} {H : Heap} {locs : List Loc} {ls : Array Slot} (hf : g_X2_readMove_0 Pw x0 x1 S C T) (hCT : C ≤ kc ∧ T ≤ kt) (hM : zH D y A0 s H locs S) (hl : lv_has ls 6 [(0, .ref (zh y x0)), (1, .int x1)]) : W p l e ({ frames := 8, cells := kc, slots := kt, locals := 178 } : Room) s m args below meth c H locs (kc - C) (kt - T) Q (F0 m 0 ls []) := by
  obtain ⟨hx, hb, hml, hown, hts⟩ := id X
  unfold g_X2_readMove_0 at hf
  refine lv_aload_n hx hb dX2_readMove_0 rfl (lv_at hl 0 rfl) ?_
  obtain ⟨ca, hf⟩ := m_chkPE hf
  replace ca := z_in hM (by decide) ca
  refine z_get (k := 2) (j := 11) (C := RX2) (T := TX2) (N := 12) (fl := zf_2) (v := va_rf ((zP S 11 x0).map (zh y))) X hw_X2_readMove_2 hM rfl zc_2 ca (by decide) fl_X2_readMove_2_11 rfl dX2_readMove_1 ?_
  clear ca
  obtain ⟨b1, hb9, hf⟩ := m_calPE hf
  refine z_topr hb9 ?_
  clear hb9
  refine lv_iload_n hx hb dX2_readMove_4 rfl (lv_at hl 1 rfl) ?_
  obtain ⟨ca, hf⟩ := m_chkPE hf
  replace ca := z_in hM (by decide) ca
  obtain ⟨cd, hf⟩ := m_chkPE hf
  refine z_aald (k := 15) (t0 := 2) (C := "MoveTexts$Board") X hM (fun _ _ _ _ _ => rfl) rfl ca cd dX2_readMove_5 ?_
  clear ca cd
  obtain ⟨b2, hb9, hf⟩ := m_calPE hf
  refine z_topr hb9 ?_
  clear hb9
  refine lv_astore_n (lv' := [(2, .ref (zh y b2)), (0, .ref (zh y x0)), (1, .int x1)]) hx hb dX2_readMove_6 rfl hl (by decide) rfl (fun ls hl => ?_)
  refine lv_aload_n hx hb dX2_readMove_7 rfl (lv_at hl 1 rfl) ?_
  obtain ⟨ca, hf⟩ := m_chkPE hf
  replace ca := z_in hM (by decide) ca
  refine z_get (k := 2) (j := 2) (C := RX2) (T := TX2) (N := 12) (fl := zf_2) (v := va_rf ((zP S 2 x0).map (zh y))) X hw_X2_readMove_2 hM rfl zc_2 ca (by decide) fl_X2_readMove_2_2 rfl dX2_readMove_8 ?_
  clear ca
  obtain ⟨b3, hb9, hf⟩ := m_calPE hf
  refine z_topr hb9 ?_
  clear hb9
  refine lv_aload_n hx hb dX2_readMove_11 rfl (lv_at hl 1 rfl) ?_
  obtain ⟨ca, hf⟩ := m_chkPE hf
  replace ca := z_in hM (by decide) ca
  refine z_get (k := 2) (j := 4) (C := RX2) (T := TX2) (N := 12) (fl := zf_2) (v := .int (zI S 4 x0)) X hw_X2_readMove_2 hM rfl zc_2 ca (by decide) fl_X2_readMove_2_4 rfl dX2_readMove_12 ?_
  clear ca
  obtain ⟨ca, hf⟩ := m_chkPE hf
  replace ca := z_in hM (by decide) ca
  obtain ⟨o4, ho, hf⟩ := m_calPE hf
  refine z_gcallVi (k := 6) (C := RX6) (T := TX6) (N := 2) (fl := zf_6) X hM rfl zc_6 ca (c_X6_at ho) gX2_readMove_X6_at rfl ⟨rfl, rfl⟩ hd_X6_at ⟨Nat.le_of_ble_eq_true rfl, Nat.le_of_ble_eq_true rfl⟩ rfl hl.1 rfl ⟨Nat.sub_le _ _, Nat.sub_le _ _⟩ (Nat.le_of_ble_eq_true rfl) dX2_readMove_15 (fun H locs hM => ?_)
  clear ho
  obtain ⟨o5, ho, hf⟩ := m_calPE hf
  refine z_gcallSNi X hM (c_X11_isDigit ho) gX2_readMove_X11_isDigit_n136 nn_X2_readMove_136.1.1 nn_X2_readMove_136.1.2 nn_X2_readMove_136.2 rfl ⟨rfl, rfl⟩ hd_X11_isDigit ⟨Nat.le_of_ble_eq_true rfl, Nat.le_of_ble_eq_true rfl⟩ rfl hl.1 rfl ⟨Nat.sub_le _ _, Nat.sub_le _ _⟩ (Nat.le_of_ble_eq_true rfl) dX2_readMove_18 (fun H locs hM => ?_)
  clear ho
  refine lv_if_eq (tgt := 37) hx hb dX2_readMove_21 (by decide) (fun cc1 => ?_) (fun cc1 => ?_)
  · replace hf := m_ifPT hf cc1
    exact w_X2_readMove_37 (x0 := x0) (x1 := x1) (x2 := b2) X hret hf hCT hM (lv_sub hl [1, 2, 0] rfl)
  · replace hf := m_ifPF hf cc1
    refine lv_aload_n hx hb dX2_readMove_24 rfl (lv_at hl 1 rfl) ?_
    refine lv_aload_n hx hb dX2_readMove_25 rfl (lv_at hl 0 rfl) ?_
    obtain ⟨ca, hf⟩ := m_chkPE hf
    replace ca := z_in hM (by decide) ca
    refine z_get (k := 0) (j := 6) (C := RX0) (T := TX0) (N := 7) (fl := zf_0) (v := .int (zI o5.2 6 b2)) X hw_X2_readMove_0 hM rfl zc_0 ca (by decide) fl_X2_readMove_0_6 rfl dX2_readMove_26 ?_
    clear ca
    obtain ⟨ca, hf⟩ := m_chkPE hf
    replace ca := z_in hM (by decide) ca
    obtain ⟨o6, ho, hf⟩ := m_calPE hf
    refine z_gcallVi (k := 2) (C := RX2) (T := TX2) (N := 12) (fl := zf_2) X hM rfl zc_2 ca (c_X2_readNumber ho) gX2_readMove_X2_readNumber rfl ⟨rfl, rfl⟩ hd_X2_readNumber ⟨Nat.le_of_ble_eq_true rfl, Nat.le_of_ble_eq_true rfl⟩ rfl hl.1 rfl ⟨Nat.sub_le _ _, Nat.sub_le _ _⟩ (Nat.le_of_ble_eq_true rfl) dX2_readMove_29 (fun H locs hM => ?_)
    clear ho
    refine lv_if_ne (tgt := 37) hx hb dX2_readMove_32 (by decide) (fun cc1 => ?_) (fun cc1 => ?_)
    · replace hf := m_ifPF hf cc1
      exact w_X2_readMove_37 (x0 := x0) (x1 := x1) (x2 := b2) X hret hf hCT hM (lv_sub hl [1, 2, 0] rfl)
    · replace hf := m_ifPT hf cc1
      refine lv_iconst (v := (0 : Int32)) hx hb dX2_readMove_35 (by decide) ?_
      obtain ⟨cd, hf⟩ := m_chkPE hf
      exact hret _ _ _ _ H locs _ ls hf hM (m_nb cd) dX2_readMove_36
noncomputable def g_X2_readMove (x0 : Nat) (x1 : Int32) (S : ZS) (mc ms : Nat) (Pw : Int32 → ZS → Prop) : Prop := g_X2_readMove_0 Pw x0 x1 S mc ms
theorem c_X2_readMove {l : Launch} {D : va_G} {y : Nat → ClassId} {x0 : Nat} {x1 : Int32} {S : ZS} {kc kt : Nat} {Pw : Int32 → ZS → Prop} (hf : g_X2_readMove x0 x1 S kc kt Pw) : zWi l yX2_readMove wsX2_readMove ({ frames := 8, cells := kc, slots := kt, locals := 178 } : Room) [.ref (zh y x0), .int x1] D y S kc kt Pw :=
  z_wentI (own := RX2) (cc := cX2_readMove) (maxL := 6) (by decide) rfl rfl (Nat.le_of_ble_eq_true rfl) ⟨rfl, rfl⟩ (fun p e s m args below meth c A0 Q H locs ls X hret hM hl => w_X2_readMove_0 X hret hf ⟨Nat.le_refl _, Nat.le_refl _⟩ hM (lv_sub hl [0, 1] rfl))
theorem hd_X2_readMoves : yX2_readMoves.cls = RX2 ∧ yX2_readMoves.cls ≠ "java/lang/invoke/MethodHandle" ∧ yX2_readMoves.cls ≠ "java/lang/invoke/VarHandle" ∧ (parseMethodDescriptor yX2_readMoves.desc).map (fun d => d.parameters.length) = some 0 := by decide +kernel
theorem fl_X2_readMoves_1_0 : Cond.fieldLink RX2 116 "MoveTexts$Game" "start" "LMoveTexts$Board;" ∈ wsX2_readMoves := by decide +kernel
theorem fl_X2_readMoves_2_11 : Cond.fieldLink RX2 65 "MoveTexts$GameReader" "behind" "[LMoveTexts$Board;" ∈ wsX2_readMoves := by decide +kernel
theorem fl_X2_readMoves_2_2 : Cond.fieldLink RX2 28 "MoveTexts$GameReader" "text" "LMoveTexts$Row;" ∈ wsX2_readMoves := by decide +kernel
theorem fl_X2_readMoves_2_3 : Cond.fieldLink RX2 35 "MoveTexts$GameReader" "game" "LMoveTexts$Game;" ∈ wsX2_readMoves := by decide +kernel
theorem fl_X2_readMoves_2_4 : Cond.fieldLink RX2 39 "MoveTexts$GameReader" "at" "I" ∈ wsX2_readMoves := by decide +kernel
theorem fl_X2_readMoves_2_8 : Cond.fieldLink RX2 52 "MoveTexts$GameReader" "root" "[I" ∈ wsX2_readMoves := by decide +kernel
theorem fl_X2_readMoves_2_9 : Cond.fieldLink RX2 56 "MoveTexts$GameReader" "last" "[I" ∈ wsX2_readMoves := by decide +kernel
theorem hw_X2_readMoves_1 : ∀ w ∈ wsX10, w ∈ wsX2_readMoves := by decide +kernel
theorem hw_X2_readMoves_2 : ∀ w ∈ wsX20, w ∈ wsX2_readMoves := by decide +kernel
noncomputable def g_X2_readMoves_197 (Pw : Int32 → ZS → Prop) (self34 : Nat → Int32 → Int32 → ZS → Nat → Nat → Prop) (x0 : Nat) (x1 : Int32) (x2 : Int32) (S : ZS) (C T : Nat) : Prop :=
  m_bndP (x2 + (1 : Int32)) (fun v1 =>
  self34 x0 x1 v1 S (C) (T))

set_option maxRecDepth 100000 in
set_option maxHeartbeats 4000000 in
theorem w_X2_readMoves_197 {p : Program} {l : Launch} {e : Env} {s : State} {m : MethodId} {args : Array Value} {below : List Frame} {meth : Method} {c : Code} {Q : State → Prop} {D : va_G} {y : Nat → ClassId} {A0 : Nat → Prop} {kc kt : Nat} {Pw : Int32 → ZS → Prop} (X : CallFix p m c cX2_readMoves 4 s args wsX2_readMoves RX2) (hret : zQi p l e ({ frames := 9, cells := kc, slots := kt, locals := 203 } : Room) s m args below meth c Q cX2_readMoves D y A0 .boolean Pw) {self34 : Nat → Int32 → Int32 → ZS → Nat → Nat → Prop} (hself34 : ∀ (x0 : Nat) (x1 : Int32) (x2 : Int32) (S : ZS) (C T : Nat) (H : Heap) (locs : List Loc) (ls : Array Slot), self34 x0 x1 x2 S C T → C ≤ kc ∧ T ≤ kt → zH D y A0 s H locs S → lv_has ls 4 [(0, .ref (zh y x0)), (1, .int x1), (2, .int x2)] → W p l e ({ frames := 9, cells := kc, slots := kt, locals := 203 } : Room) s m args below meth c H locs (kc - C) (kt - T) Q (F0 m 34 ls [])) {x0 : Nat} {x1 : Int32} {x2 : Int32} {S : ZS} {C T : Nat} {H : Heap} {locs : List Loc} {ls : Array Slot} (hf : g_X2_readMoves_197 Pw self34 x0 x1 x2 S C T) (hCT : C ≤ kc ∧ T ≤ kt) (hM : zH D y A0 s H locs S) (hl : lv_has ls 4 [(0, .ref (zh y x0)), (1, .int x1), (2, .int x2)]) : W p l e ({ frames := 9, cells := kc, slots := kt, locals := 203 } : Room) s m args below meth c H locs (kc - C) (kt - T) Q (F0 m 197 ls []) := by
  obtain ⟨hx, hb, hml, hown, hts⟩ := id X
  unfold g_X2_readMoves_197 at hf
  obtain ⟨v1, ev, hf⟩ := m_bndPE hf
  refine lv_iinc (v := v1) (lv' := [(2, .int v1), (0, .ref (zh y x0)), (1, .int x1)]) hx hb dX2_readMoves_197 hl (k := 2) rfl (by rw [ev]; rfl) (by decide) rfl (fun ls hl => ?_)
  clear ev
  refine lv_goto (tgt := 34) hx hb dX2_readMoves_200 (by decide) ?_
  exact hself34 x0 x1 v1 _ _ _ _ _ _ hf hCT hM (lv_sub hl [1, 2, 0] rfl)
noncomputable def g_X2_readMoves_187 (Pw : Int32 → ZS → Prop) (self34 : Nat → Int32 → Int32 → ZS → Nat → Nat → Prop) (x0 : Nat) (x1 : Int32) (x2 : Int32) (S : ZS) (C T : Nat) : Prop :=
  m_chkQ (zK S x0 = 2) (
  m_gal (C) (T) (fun mc ms Pw => g_X2_readMove x0 x1 S mc ms Pw) (fun r2 S3 C4 T5 =>
  m_ifQ (r2 = 0) (
  m_chkQ (vp_nar .boolean (0 : Int32) = (0 : Int32)) (Pw (0 : Int32) S3)
  ) (
  g_X2_readMoves_197 Pw self34 x0 x1 x2 S3 (C4) (T5)
  )))

set_option maxRecDepth 100000 in
set_option maxHeartbeats 4000000 in
theorem w_X2_readMoves_187 {p : Program} {l : Launch} {e : Env} {s : State} {m : MethodId} {args : Array Value} {below : List Frame} {meth : Method} {c : Code} {Q : State → Prop} {D : va_G} {y : Nat → ClassId} {A0 : Nat → Prop} {kc kt : Nat} {Pw : Int32 → ZS → Prop} (X : CallFix p m c cX2_readMoves 4 s args wsX2_readMoves RX2) (hret : zQi p l e ({ frames := 9, cells := kc, slots := kt, locals := 203 } : Room) s m args below meth c Q cX2_readMoves D y A0 .boolean Pw) {self34 : Nat → Int32 → Int32 → ZS → Nat → Nat → Prop} (hself34 : ∀ (x0 : Nat) (x1 : Int32) (x2 : Int32) (S : ZS) (C T : Nat) (H : Heap) (locs : List Loc) (ls : Array Slot), self34 x0 x1 x2 S C T → C ≤ kc ∧ T ≤ kt → zH D y A0 s H locs S → lv_has ls 4 [(0, .ref (zh y x0)), (1, .int x1), (2, .int x2)] → W p l e ({ frames := 9, cells := kc, slots := kt, locals := 203 } : Room) s m args below meth c H locs (kc - C) (kt - T) Q (F0 m 34 ls [])) {x0 : Nat} {x1 : Int32} {x2 : Int32} {S : ZS} {C T : Nat} {H : Heap} {locs : List Loc} {ls : Array Slot} (hf : g_X2_readMoves_187 Pw self34 x0 x1 x2 S C T) (hCT : C ≤ kc ∧ T ≤ kt) (hM : zH D y A0 s H locs S) (hl : lv_has ls 4 [(0, .ref (zh y x0)), (1, .int x1), (2, .int x2)]) : W p l e ({ frames := 9, cells := kc, slots := kt, locals := 203 } : Room) s m args below meth c H locs (kc - C) (kt - T) Q (F0 m 187 ls []) := by
  obtain ⟨hx, hb, hml, hown, hts⟩ := id X
  unfold g_X2_readMoves_187 at hf
  refine lv_aload_n hx hb dX2_readMoves_187 rfl (lv_at hl 0 rfl) ?_
  refine lv_iload_n hx hb dX2_readMoves_188 rfl (lv_at hl 1 rfl) ?_
  obtain ⟨ca, hf⟩ := m_chkPE hf
  replace ca := z_in hM (by decide) ca
  obtain ⟨mc, ms, hcm, ho⟩ := m_galE hf
  refine z_wcallVi (k := 2) (C := RX2) (T := TX2) (N := 12) (fl := zf_2) X hM rfl zc_2 ca (c_X2_readMove ho) gX2_readMoves_X2_readMove rfl ⟨rfl, rfl⟩ ⟨by show kc - (C) + mc ≤ kc; omega, by show kt - (T) + ms ≤ kt; omega⟩ hd_X2_readMove ⟨Nat.le_of_ble_eq_true rfl, Nat.le_of_ble_eq_true rfl⟩ rfl hl.1 rfl (Nat.le_of_ble_eq_true rfl) dX2_readMoves_189 (fun r2 S3 H locs hf hM => ?_)
  refine z_eqCS (c2 := kc - (C - mc)) (t2 := kt - (T - ms)) (by omega) (by omega) ?_
  replace hCT : C - mc ≤ kc ∧ T - ms ≤ kt := by omega
  generalize C - mc = C4 at hf hCT ⊢
  generalize T - ms = T5 at hf hCT ⊢
  clear ho hcm
  refine lv_if_ne (tgt := 197) hx hb dX2_readMoves_192 (by decide) (fun cc1 => ?_) (fun cc1 => ?_)
  · replace hf := m_ifPF hf cc1
    exact w_X2_readMoves_197 (x0 := x0) (x1 := x1) (x2 := x2) X hret hself34 hf hCT hM (lv_sub hl [0, 1, 2] rfl)
  · replace hf := m_ifPT hf cc1
    refine lv_iconst (v := (0 : Int32)) hx hb dX2_readMoves_195 (by decide) ?_
    obtain ⟨cd, hf⟩ := m_chkPE hf
    exact hret _ _ _ _ H locs _ ls hf hM (m_nb cd) dX2_readMoves_196
noncomputable def g_X2_readMoves_128 (Pw : Int32 → ZS → Prop) (self34 : Nat → Int32 → Int32 → ZS → Nat → Nat → Prop) (x0 : Nat) (x1 : Int32) (x2 : Int32) (x3 : Int32) (S : ZS) (C T : Nat) : Prop :=
  m_ifQ (x3 = 0) (
  g_X2_readMoves_187 Pw self34 x0 x1 x2 S (C) (T)
  ) (
  m_ifQ (x1 ≤ 0) (
  g_X2_readMoves_187 Pw self34 x0 x1 x2 S (C) (T)
  ) (
  m_chkQ (zK S x0 = 2) (
  m_calP (zP S 2 x0) (fun b1 =>
  m_chkQ (zK S x0 = 2) (
  m_chkQ (zK S b1 = 6) (
  m_calP (f_X6_at b1 (zI S 4 x0) S) (fun o2 =>
  m_ifQ (o2.1 = (41 : Int32)) (
  m_bndP (x1 + (-1 : Int32)) (fun v3 =>
  m_chkQ (zK o2.2 x0 = 2) (
  m_bndP ((zI o2.2 4 x0) + (1 : Int32)) (fun v4 =>
  m_chkQ (zK o2.2 x0 = 2) (
  m_bndP (zsI o2.2 4 x0 v4) (fun S5 =>
  m_chkQ (zK S5 x0 = 2) (
  m_calP (zP S5 3 x0) (fun b6 =>
  m_chkQ (zK S5 x0 = 2) (
  m_calP (zP S5 9 x0) (fun b7 =>
  m_chkQ (zK S5 b7 = 14) (
  m_chkQ (¬ (v3 < 0 ∨ zN S5 b7 ≤ (v3).toNatClampNeg)) (
  m_bndP (zA S5 b7 (v3).toNatClampNeg) (fun v8 =>
  m_chkQ (zK S5 b6 = 1) (
  m_calP (f_X1_at b6 v8 S5) (fun o9 =>
  m_chkQ (zK o9.2 x0 = 2) (
  m_gal (C) (T) (fun mc ms Pw => g_X2_readRemarks x0 o9.1 o9.2 mc ms Pw) (fun r11 S12 C13 T14 =>
  m_ifQ (r11 = 0) (
  m_chkQ (vp_nar .boolean (0 : Int32) = (0 : Int32)) (Pw (0 : Int32) S12)
  ) (
  g_X2_readMoves_197 Pw self34 x0 v3 x2 S12 (C13) (T14)
  )))))))))))))))))
  ) (
  g_X2_readMoves_187 Pw self34 x0 x1 x2 o2.2 (C) (T)
  ))))))
  )
  )

set_option maxRecDepth 100000 in
set_option maxHeartbeats 4000000 in
theorem w_X2_readMoves_128 {p : Program} {l : Launch} {e : Env} {s : State} {m : MethodId} {args : Array Value} {below : List Frame} {meth : Method} {c : Code} {Q : State → Prop} {D : va_G} {y : Nat → ClassId} {A0 : Nat → Prop} {kc kt : Nat} {Pw : Int32 → ZS → Prop} (X : CallFix p m c cX2_readMoves 4 s args wsX2_readMoves RX2) (hret : zQi p l e ({ frames := 9, cells := kc, slots := kt, locals := 203 } : Room) s m args below meth c Q cX2_readMoves D y A0 .boolean Pw) {self34 : Nat → Int32 → Int32 → ZS → Nat → Nat → Prop} (hself34 : ∀ (x0 : Nat) (x1 : Int32) (x2 : Int32) (S : ZS) (C T : Nat) (H : Heap) (locs : List Loc) (ls : Array Slot), self34 x0 x1 x2 S C T → C ≤ kc ∧ T ≤ kt → zH D y A0 s H locs S → lv_has ls 4 [(0, .ref (zh y x0)), (1, .int x1), (2, .int x2)] → W p l e ({ frames := 9, cells := kc, slots := kt, locals := 203 } : Room) s m args below meth c H locs (kc - C) (kt - T) Q (F0 m 34 ls [])) {x0 : Nat} {x1 : Int32} {x2 : Int32} {x3 : Int32} {S : ZS} {C T : Nat} {H : Heap} {locs : List Loc} {ls : Array Slot} (hf : g_X2_readMoves_128 Pw self34 x0 x1 x2 x3 S C T) (hCT : C ≤ kc ∧ T ≤ kt) (hM : zH D y A0 s H locs S) (hl : lv_has ls 4 [(0, .ref (zh y x0)), (1, .int x1), (2, .int x2), (3, .int x3)]) : W p l e ({ frames := 9, cells := kc, slots := kt, locals := 203 } : Room) s m args below meth c H locs (kc - C) (kt - T) Q (F0 m 128 ls []) := by
  obtain ⟨hx, hb, hml, hown, hts⟩ := id X
  unfold g_X2_readMoves_128 at hf
  refine lv_iload_n hx hb dX2_readMoves_128 rfl (lv_at hl 3 rfl) ?_
  refine lv_if_eq (tgt := 187) hx hb dX2_readMoves_129 (by decide) (fun cc1 => ?_) (fun cc1 => ?_)
  · replace hf := m_ifPT hf cc1
    exact w_X2_readMoves_187 (x0 := x0) (x1 := x1) (x2 := x2) X hret hself34 hf hCT hM (lv_sub hl [0, 1, 2] rfl)
  · replace hf := m_ifPF hf cc1
    refine lv_iload_n hx hb dX2_readMoves_132 rfl (lv_at hl 1 rfl) ?_
    refine lv_if_le (tgt := 187) hx hb dX2_readMoves_133 (by decide) (fun cc1 => ?_) (fun cc1 => ?_)
    · replace hf := m_ifPT hf cc1
      exact w_X2_readMoves_187 (x0 := x0) (x1 := x1) (x2 := x2) X hret hself34 hf hCT hM (lv_sub hl [0, 1, 2] rfl)
    · replace hf := m_ifPF hf cc1
      refine lv_aload_n hx hb dX2_readMoves_136 rfl (lv_at hl 0 rfl) ?_
      obtain ⟨ca, hf⟩ := m_chkPE hf
      replace ca := z_in hM (by decide) ca
      refine z_get (k := 2) (j := 2) (C := RX2) (T := TX2) (N := 12) (fl := zf_2) (v := va_rf ((zP S 2 x0).map (zh y))) X hw_X2_readMoves_2 hM rfl zc_2 ca (by decide) fl_X2_readMoves_2_2 rfl dX2_readMoves_137 ?_
      clear ca
      obtain ⟨b1, hb9, hf⟩ := m_calPE hf
      refine z_topr hb9 ?_
      clear hb9
      refine lv_aload_n hx hb dX2_readMoves_140 rfl (lv_at hl 0 rfl) ?_
      obtain ⟨ca, hf⟩ := m_chkPE hf
      replace ca := z_in hM (by decide) ca
      refine z_get (k := 2) (j := 4) (C := RX2) (T := TX2) (N := 12) (fl := zf_2) (v := .int (zI S 4 x0)) X hw_X2_readMoves_2 hM rfl zc_2 ca (by decide) fl_X2_readMoves_2_4 rfl dX2_readMoves_141 ?_
      clear ca
      obtain ⟨ca, hf⟩ := m_chkPE hf
      replace ca := z_in hM (by decide) ca
      obtain ⟨o2, ho, hf⟩ := m_calPE hf
      refine z_gcallVi (k := 6) (C := RX6) (T := TX6) (N := 2) (fl := zf_6) X hM rfl zc_6 ca (c_X6_at ho) gX2_readMoves_X6_at rfl ⟨rfl, rfl⟩ hd_X6_at ⟨Nat.le_of_ble_eq_true rfl, Nat.le_of_ble_eq_true rfl⟩ rfl hl.1 rfl ⟨Nat.sub_le _ _, Nat.sub_le _ _⟩ (Nat.le_of_ble_eq_true rfl) dX2_readMoves_144 (fun H locs hM => ?_)
      clear ho
      refine lv_bipush (v := (41 : Int32)) hx hb dX2_readMoves_147 (by decide) ?_
      refine lv_icmp_ne (tgt := 187) hx hb dX2_readMoves_149 (by decide) (fun cc1 => ?_) (fun cc1 => ?_)
      · replace hf := m_ifPF hf cc1
        exact w_X2_readMoves_187 (x0 := x0) (x1 := x1) (x2 := x2) X hret hself34 hf hCT hM (lv_sub hl [0, 1, 2] rfl)
      · replace hf := m_ifPT hf cc1
        obtain ⟨v3, ev, hf⟩ := m_bndPE hf
        refine lv_iinc (v := v3) (lv' := [(1, .int v3), (0, .ref (zh y x0)), (2, .int x2), (3, .int x3)]) hx hb dX2_readMoves_152 hl (k := 1) rfl (by rw [ev]; rfl) (by decide) rfl (fun ls hl => ?_)
        clear ev
        refine lv_aload_n hx hb dX2_readMoves_155 rfl (lv_at hl 1 rfl) ?_
        refine lv_dup hx hb dX2_readMoves_156 rfl ?_
        obtain ⟨ca, hf⟩ := m_chkPE hf
        replace ca := z_in hM (by decide) ca
        refine z_get (k := 2) (j := 4) (C := RX2) (T := TX2) (N := 12) (fl := zf_2) (v := .int (zI o2.2 4 x0)) X hw_X2_readMoves_2 hM rfl zc_2 ca (by decide) fl_X2_readMoves_2_4 rfl dX2_readMoves_157 ?_
        clear ca
        refine lv_iconst (v := (1 : Int32)) hx hb dX2_readMoves_160 (by decide) ?_
        refine lv_iadd hx hb dX2_readMoves_161 ?_
        obtain ⟨v4, ev, hf⟩ := m_bndPE hf
        refine m_top ev ?_
        clear ev
        obtain ⟨ca, hf⟩ := m_chkPE hf
        replace ca := z_in hM (by decide) ca
        refine z_putI (k := 2) (j := 4) (C := RX2) (T := TX2) (N := 12) (fl := zf_2) (ty := .int) X hw_X2_readMoves_2 tyX2_ok nmX2 hM rfl zc_2 ca (by decide) fl_X2_readMoves_2_4 rfl (tyX2_ok 4 (by decide)) rfl rfl zi_2_4 (Nat.le_of_ble_eq_true rfl) dX2_readMoves_162 (fun H locs hM => ?_)
        clear ca
        obtain ⟨S5, ev, hf⟩ := m_bndPE hf
        replace hM := z_hS hM ev
        clear ev
        refine lv_aload_n hx hb dX2_readMoves_165 rfl (lv_at hl 1 rfl) ?_
        refine lv_aload_n hx hb dX2_readMoves_166 rfl (lv_at hl 1 rfl) ?_
        obtain ⟨ca, hf⟩ := m_chkPE hf
        replace ca := z_in hM (by decide) ca
        refine z_get (k := 2) (j := 3) (C := RX2) (T := TX2) (N := 12) (fl := zf_2) (v := va_rf ((zP S5 3 x0).map (zh y))) X hw_X2_readMoves_2 hM rfl zc_2 ca (by decide) fl_X2_readMoves_2_3 rfl dX2_readMoves_167 ?_
        clear ca
        obtain ⟨b6, hb9, hf⟩ := m_calPE hf
        refine z_topr hb9 ?_
        clear hb9
        refine lv_aload_n hx hb dX2_readMoves_170 rfl (lv_at hl 1 rfl) ?_
        obtain ⟨ca, hf⟩ := m_chkPE hf
        replace ca := z_in hM (by decide) ca
        refine z_get (k := 2) (j := 9) (C := RX2) (T := TX2) (N := 12) (fl := zf_2) (v := va_rf ((zP S5 9 x0).map (zh y))) X hw_X2_readMoves_2 hM rfl zc_2 ca (by decide) fl_X2_readMoves_2_9 rfl dX2_readMoves_171 ?_
        clear ca
        obtain ⟨b7, hb9, hf⟩ := m_calPE hf
        refine z_topr hb9 ?_
        clear hb9
        refine lv_iload_n hx hb dX2_readMoves_174 rfl (lv_at hl 0 rfl) ?_
        obtain ⟨ca, hf⟩ := m_chkPE hf
        replace ca := z_in hM (by decide) ca
        obtain ⟨cd, hf⟩ := m_chkPE hf
        refine z_iald X hM ca cd dX2_readMoves_175 ?_
        clear ca cd
        obtain ⟨v8, ev, hf⟩ := m_bndPE hf
        refine m_top ev ?_
        clear ev
        obtain ⟨ca, hf⟩ := m_chkPE hf
        replace ca := z_in hM (by decide) ca
        obtain ⟨o9, ho, hf⟩ := m_calPE hf
        refine z_gcallVr (k := 1) (C := RX1) (T := TX1) (N := 8) (fl := zf_1) X hM rfl zc_1 ca (c_X1_at ho) gX2_readMoves_X1_at rfl ⟨rfl, rfl⟩ hd_X1_at ⟨Nat.le_of_ble_eq_true rfl, Nat.le_of_ble_eq_true rfl⟩ rfl hl.1 rfl ⟨Nat.sub_le _ _, Nat.sub_le _ _⟩ (Nat.le_of_ble_eq_true rfl) dX2_readMoves_176 (fun H locs hM => ?_)
        clear ho
        obtain ⟨ca, hf⟩ := m_chkPE hf
        replace ca := z_in hM (by decide) ca
        obtain ⟨mc, ms, hcm, ho⟩ := m_galE hf
        refine z_wcallVi (k := 2) (C := RX2) (T := TX2) (N := 12) (fl := zf_2) X hM rfl zc_2 ca (c_X2_readRemarks ho) gX2_readMoves_X2_readRemarks rfl ⟨rfl, rfl⟩ ⟨by show kc - (C) + mc ≤ kc; omega, by show kt - (T) + ms ≤ kt; omega⟩ hd_X2_readRemarks ⟨Nat.le_of_ble_eq_true rfl, Nat.le_of_ble_eq_true rfl⟩ rfl hl.1 rfl (Nat.le_of_ble_eq_true rfl) dX2_readMoves_179 (fun r11 S12 H locs hf hM => ?_)
        refine z_eqCS (c2 := kc - (C - mc)) (t2 := kt - (T - ms)) (by omega) (by omega) ?_
        replace hCT : C - mc ≤ kc ∧ T - ms ≤ kt := by omega
        generalize C - mc = C13 at hf hCT ⊢
        generalize T - ms = T14 at hf hCT ⊢
        clear ho hcm
        refine lv_if_ne (tgt := 197) hx hb dX2_readMoves_182 (by decide) (fun cc1 => ?_) (fun cc1 => ?_)
        · replace hf := m_ifPF hf cc1
          exact w_X2_readMoves_197 (x0 := x0) (x1 := v3) (x2 := x2) X hret hself34 hf hCT hM (lv_sub hl [1, 0, 2] rfl)
        · replace hf := m_ifPT hf cc1
          refine lv_iconst (v := (0 : Int32)) hx hb dX2_readMoves_185 (by decide) ?_
          obtain ⟨cd, hf⟩ := m_chkPE hf
          exact hret _ _ _ _ H locs _ ls hf hM (m_nb cd) dX2_readMoves_186
noncomputable def g_X2_readMoves_80 (Pw : Int32 → ZS → Prop) (self34 : Nat → Int32 → Int32 → ZS → Nat → Nat → Prop) (x0 : Nat) (x1 : Int32) (x2 : Int32) (x3 : Int32) (S : ZS) (C T : Nat) : Prop :=
  m_ifQ (x3 = 0) (
  g_X2_readMoves_128 Pw self34 x0 x1 x2 x3 S (C) (T)
  ) (
  m_chkQ (zK S x0 = 2) (
  m_calP (zP S 2 x0) (fun b1 =>
  m_chkQ (zK S x0 = 2) (
  m_chkQ (zK S b1 = 6) (
  m_calP (f_X6_at b1 (zI S 4 x0) S) (fun o2 =>
  m_ifQ (o2.1 = (40 : Int32)) (
  m_ifQ (x1 < (6 : Int32)) (
  m_bndP (x1 + (1 : Int32)) (fun v3 =>
  m_chkQ (zK o2.2 x0 = 2) (
  m_calP (f_X2_openLine x0 v3 o2.2) (fun o4 =>
  g_X2_readMoves_197 Pw self34 x0 v3 x2 o4.2 (C) (T))))
  ) (
  m_chkQ (zK o2.2 x0 = 2) (
  m_chkQ (zK o2.2 x0 = 2) (
  m_calP (f_X2_refuse x0 (8 : Int32) (zI o2.2 4 x0) o2.2) (fun o5 =>
  m_chkQ (vp_nar .boolean o5.1 = o5.1) (Pw o5.1 o5.2))))
  )
  ) (
  g_X2_readMoves_128 Pw self34 x0 x1 x2 x3 o2.2 (C) (T)
  ))))))
  )

set_option maxRecDepth 100000 in
set_option maxHeartbeats 4000000 in
theorem w_X2_readMoves_80 {p : Program} {l : Launch} {e : Env} {s : State} {m : MethodId} {args : Array Value} {below : List Frame} {meth : Method} {c : Code} {Q : State → Prop} {D : va_G} {y : Nat → ClassId} {A0 : Nat → Prop} {kc kt : Nat} {Pw : Int32 → ZS → Prop} (X : CallFix p m c cX2_readMoves 4 s args wsX2_readMoves RX2) (hret : zQi p l e ({ frames := 9, cells := kc, slots := kt, locals := 203 } : Room) s m args below meth c Q cX2_readMoves D y A0 .boolean Pw) {self34 : Nat → Int32 → Int32 → ZS → Nat → Nat → Prop} (hself34 : ∀ (x0 : Nat) (x1 : Int32) (x2 : Int32) (S : ZS) (C T : Nat) (H : Heap) (locs : List Loc) (ls : Array Slot), self34 x0 x1 x2 S C T → C ≤ kc ∧ T ≤ kt → zH D y A0 s H locs S → lv_has ls 4 [(0, .ref (zh y x0)), (1, .int x1), (2, .int x2)] → W p l e ({ frames := 9, cells := kc, slots := kt, locals := 203 } : Room) s m args below meth c H locs (kc - C) (kt - T) Q (F0 m 34 ls [])) {x0 : Nat} {x1 : Int32} {x2 : Int32} {x3 : Int32} {S : ZS} {C T : Nat} {H : Heap} {locs : List Loc} {ls : Array Slot} (hf : g_X2_readMoves_80 Pw self34 x0 x1 x2 x3 S C T) (hCT : C ≤ kc ∧ T ≤ kt) (hM : zH D y A0 s H locs S) (hl : lv_has ls 4 [(0, .ref (zh y x0)), (1, .int x1), (2, .int x2), (3, .int x3)]) : W p l e ({ frames := 9, cells := kc, slots := kt, locals := 203 } : Room) s m args below meth c H locs (kc - C) (kt - T) Q (F0 m 80 ls []) := by
  obtain ⟨hx, hb, hml, hown, hts⟩ := id X
  unfold g_X2_readMoves_80 at hf
  refine lv_iload_n hx hb dX2_readMoves_80 rfl (lv_at hl 3 rfl) ?_
  refine lv_if_eq (tgt := 128) hx hb dX2_readMoves_81 (by decide) (fun cc1 => ?_) (fun cc1 => ?_)
  · replace hf := m_ifPT hf cc1
    exact w_X2_readMoves_128 (x0 := x0) (x1 := x1) (x2 := x2) (x3 := x3) X hret hself34 hf hCT hM (lv_sub hl [0, 1, 2, 3] rfl)
  · replace hf := m_ifPF hf cc1
    refine lv_aload_n hx hb dX2_readMoves_84 rfl (lv_at hl 0 rfl) ?_
    obtain ⟨ca, hf⟩ := m_chkPE hf
    replace ca := z_in hM (by decide) ca
    refine z_get (k := 2) (j := 2) (C := RX2) (T := TX2) (N := 12) (fl := zf_2) (v := va_rf ((zP S 2 x0).map (zh y))) X hw_X2_readMoves_2 hM rfl zc_2 ca (by decide) fl_X2_readMoves_2_2 rfl dX2_readMoves_85 ?_
    clear ca
    obtain ⟨b1, hb9, hf⟩ := m_calPE hf
    refine z_topr hb9 ?_
    clear hb9
    refine lv_aload_n hx hb dX2_readMoves_88 rfl (lv_at hl 0 rfl) ?_
    obtain ⟨ca, hf⟩ := m_chkPE hf
    replace ca := z_in hM (by decide) ca
    refine z_get (k := 2) (j := 4) (C := RX2) (T := TX2) (N := 12) (fl := zf_2) (v := .int (zI S 4 x0)) X hw_X2_readMoves_2 hM rfl zc_2 ca (by decide) fl_X2_readMoves_2_4 rfl dX2_readMoves_89 ?_
    clear ca
    obtain ⟨ca, hf⟩ := m_chkPE hf
    replace ca := z_in hM (by decide) ca
    obtain ⟨o2, ho, hf⟩ := m_calPE hf
    refine z_gcallVi (k := 6) (C := RX6) (T := TX6) (N := 2) (fl := zf_6) X hM rfl zc_6 ca (c_X6_at ho) gX2_readMoves_X6_at rfl ⟨rfl, rfl⟩ hd_X6_at ⟨Nat.le_of_ble_eq_true rfl, Nat.le_of_ble_eq_true rfl⟩ rfl hl.1 rfl ⟨Nat.sub_le _ _, Nat.sub_le _ _⟩ (Nat.le_of_ble_eq_true rfl) dX2_readMoves_92 (fun H locs hM => ?_)
    clear ho
    refine lv_bipush (v := (40 : Int32)) hx hb dX2_readMoves_95 (by decide) ?_
    refine lv_icmp_ne (tgt := 128) hx hb dX2_readMoves_97 (by decide) (fun cc1 => ?_) (fun cc1 => ?_)
    · replace hf := m_ifPF hf cc1
      exact w_X2_readMoves_128 (x0 := x0) (x1 := x1) (x2 := x2) (x3 := x3) X hret hself34 hf hCT hM (lv_sub hl [0, 1, 2, 3] rfl)
    · replace hf := m_ifPT hf cc1
      refine lv_iload_n hx hb dX2_readMoves_100 rfl (lv_at hl 1 rfl) ?_
      refine lv_bipush (v := (6 : Int32)) hx hb dX2_readMoves_101 (by decide) ?_
      refine lv_icmp_lt (tgt := 117) hx hb dX2_readMoves_103 (by decide) (fun cc1 => ?_) (fun cc1 => ?_)
      · replace hf := m_ifPT hf cc1
        obtain ⟨v3, ev, hf⟩ := m_bndPE hf
        refine lv_iinc (v := v3) (lv' := [(1, .int v3), (0, .ref (zh y x0)), (2, .int x2), (3, .int x3)]) hx hb dX2_readMoves_117 hl (k := 1) rfl (by rw [ev]; rfl) (by decide) rfl (fun ls hl => ?_)
        clear ev
        refine lv_aload_n hx hb dX2_readMoves_120 rfl (lv_at hl 1 rfl) ?_
        refine lv_iload_n hx hb dX2_readMoves_121 rfl (lv_at hl 0 rfl) ?_
        obtain ⟨ca, hf⟩ := m_chkPE hf
        replace ca := z_in hM (by decide) ca
        obtain ⟨o4, ho, hf⟩ := m_calPE hf
        refine z_gcallVv (k := 2) (C := RX2) (T := TX2) (N := 12) (fl := zf_2) X hM rfl zc_2 ca (c_X2_openLine ho) gX2_readMoves_X2_openLine rfl ⟨rfl, rfl⟩ hd_X2_openLine ⟨Nat.le_of_ble_eq_true rfl, Nat.le_of_ble_eq_true rfl⟩ rfl hl.1 rfl ⟨Nat.sub_le _ _, Nat.sub_le _ _⟩ (Nat.le_of_ble_eq_true rfl) dX2_readMoves_122 (fun H locs hM => ?_)
        clear ho
        refine lv_goto (tgt := 197) hx hb dX2_readMoves_125 (by decide) ?_
        exact w_X2_readMoves_197 (x0 := x0) (x1 := v3) (x2 := x2) X hret hself34 hf hCT hM (lv_sub hl [1, 0, 2] rfl)
      · replace hf := m_ifPF hf cc1
        refine lv_aload_n hx hb dX2_readMoves_106 rfl (lv_at hl 0 rfl) ?_
        refine lv_bipush (v := (8 : Int32)) hx hb dX2_readMoves_107 (by decide) ?_
        refine lv_aload_n hx hb dX2_readMoves_109 rfl (lv_at hl 0 rfl) ?_
        obtain ⟨ca, hf⟩ := m_chkPE hf
        replace ca := z_in hM (by decide) ca
        refine z_get (k := 2) (j := 4) (C := RX2) (T := TX2) (N := 12) (fl := zf_2) (v := .int (zI o2.2 4 x0)) X hw_X2_readMoves_2 hM rfl zc_2 ca (by decide) fl_X2_readMoves_2_4 rfl dX2_readMoves_110 ?_
        clear ca
        obtain ⟨ca, hf⟩ := m_chkPE hf
        replace ca := z_in hM (by decide) ca
        obtain ⟨o5, ho, hf⟩ := m_calPE hf
        refine z_gcallVi (k := 2) (C := RX2) (T := TX2) (N := 12) (fl := zf_2) X hM rfl zc_2 ca (c_X2_refuse ho) gX2_readMoves_X2_refuse rfl ⟨rfl, rfl⟩ hd_X2_refuse ⟨Nat.le_of_ble_eq_true rfl, Nat.le_of_ble_eq_true rfl⟩ rfl hl.1 rfl ⟨Nat.sub_le _ _, Nat.sub_le _ _⟩ (Nat.le_of_ble_eq_true rfl) dX2_readMoves_113 (fun H locs hM => ?_)
        clear ho
        obtain ⟨cd, hf⟩ := m_chkPE hf
        exact hret _ _ _ _ H locs _ ls hf hM (m_nb cd) dX2_readMoves_116
noncomputable def g_X2_readMoves_65 (Pw : Int32 → ZS → Prop) (self34 : Nat → Int32 → Int32 → ZS → Nat → Nat → Prop) (x0 : Nat) (x1 : Int32) (x2 : Int32) (t0 : Int32) (S : ZS) (C T : Nat) : Prop :=
  m_ifQ (x1 = 0) (
  m_chkQ (zK S x0 = 2) (
  m_calP (f_X2_resultHere x0 S) (fun o1 =>
  m_ifQ (o1.1 = (-1 : Int32)) (
  g_X2_readMoves_80 Pw self34 x0 x1 x2 t0 o1.2 (C) (T)
  ) (
  m_chkQ (vp_nar .boolean (1 : Int32) = (1 : Int32)) (Pw (1 : Int32) o1.2)
  )))
  ) (
  g_X2_readMoves_80 Pw self34 x0 x1 x2 t0 S (C) (T)
  )

set_option maxRecDepth 100000 in
set_option maxHeartbeats 4000000 in
theorem w_X2_readMoves_65 {p : Program} {l : Launch} {e : Env} {s : State} {m : MethodId} {args : Array Value} {below : List Frame} {meth : Method} {c : Code} {Q : State → Prop} {D : va_G} {y : Nat → ClassId} {A0 : Nat → Prop} {kc kt : Nat} {Pw : Int32 → ZS → Prop} (X : CallFix p m c cX2_readMoves 4 s args wsX2_readMoves RX2) (hret : zQi p l e ({ frames := 9, cells := kc, slots := kt, locals := 203 } : Room) s m args below meth c Q cX2_readMoves D y A0 .boolean Pw) {self34 : Nat → Int32 → Int32 → ZS → Nat → Nat → Prop} (hself34 : ∀ (x0 : Nat) (x1 : Int32) (x2 : Int32) (S : ZS) (C T : Nat) (H : Heap) (locs : List Loc) (ls : Array Slot), self34 x0 x1 x2 S C T → C ≤ kc ∧ T ≤ kt → zH D y A0 s H locs S → lv_has ls 4 [(0, .ref (zh y x0)), (1, .int x1), (2, .int x2)] → W p l e ({ frames := 9, cells := kc, slots := kt, locals := 203 } : Room) s m args below meth c H locs (kc - C) (kt - T) Q (F0 m 34 ls [])) {x0 : Nat} {x1 : Int32} {x2 : Int32} {t0 : Int32} {S : ZS} {C T : Nat} {H : Heap} {locs : List Loc} {ls : Array Slot} (hf : g_X2_readMoves_65 Pw self34 x0 x1 x2 t0 S C T) (hCT : C ≤ kc ∧ T ≤ kt) (hM : zH D y A0 s H locs S) (hl : lv_has ls 4 [(0, .ref (zh y x0)), (1, .int x1), (2, .int x2)]) : W p l e ({ frames := 9, cells := kc, slots := kt, locals := 203 } : Room) s m args below meth c H locs (kc - C) (kt - T) Q (F0 m 65 ls [.int t0]) := by
  obtain ⟨hx, hb, hml, hown, hts⟩ := id X
  unfold g_X2_readMoves_65 at hf
  refine lv_istore_n (lv' := [(3, .int t0), (0, .ref (zh y x0)), (1, .int x1), (2, .int x2)]) hx hb dX2_readMoves_65 rfl hl (by decide) rfl (fun ls hl => ?_)
  refine lv_iload_n hx hb dX2_readMoves_66 rfl (lv_at hl 2 rfl) ?_
  refine lv_if_ne (tgt := 80) hx hb dX2_readMoves_67 (by decide) (fun cc1 => ?_) (fun cc1 => ?_)
  · replace hf := m_ifPF hf cc1
    exact w_X2_readMoves_80 (x0 := x0) (x1 := x1) (x2 := x2) (x3 := t0) X hret hself34 hf hCT hM (lv_sub hl [1, 2, 3, 0] rfl)
  · replace hf := m_ifPT hf cc1
    refine lv_aload_n hx hb dX2_readMoves_70 rfl (lv_at hl 1 rfl) ?_
    obtain ⟨ca, hf⟩ := m_chkPE hf
    replace ca := z_in hM (by decide) ca
    obtain ⟨o1, ho, hf⟩ := m_calPE hf
    refine z_gcallVi (k := 2) (C := RX2) (T := TX2) (N := 12) (fl := zf_2) X hM rfl zc_2 ca (c_X2_resultHere ho) gX2_readMoves_X2_resultHere rfl ⟨rfl, rfl⟩ hd_X2_resultHere ⟨Nat.le_of_ble_eq_true rfl, Nat.le_of_ble_eq_true rfl⟩ rfl hl.1 rfl ⟨Nat.sub_le _ _, Nat.sub_le _ _⟩ (Nat.le_of_ble_eq_true rfl) dX2_readMoves_71 (fun H locs hM => ?_)
    clear ho
    refine lv_iconst (v := (-1 : Int32)) hx hb dX2_readMoves_74 (by decide) ?_
    refine lv_icmp_eq (tgt := 80) hx hb dX2_readMoves_75 (by decide) (fun cc1 => ?_) (fun cc1 => ?_)
    · replace hf := m_ifPT hf cc1
      exact w_X2_readMoves_80 (x0 := x0) (x1 := x1) (x2 := x2) (x3 := t0) X hret hself34 hf hCT hM (lv_sub hl [1, 2, 3, 0] rfl)
    · replace hf := m_ifPF hf cc1
      refine lv_iconst (v := (1 : Int32)) hx hb dX2_readMoves_78 (by decide) ?_
      obtain ⟨cd, hf⟩ := m_chkPE hf
      exact hret _ _ _ _ H locs _ ls hf hM (m_nb cd) dX2_readMoves_79
noncomputable def g_X2_readMoves_34s (Pw : Int32 → ZS → Prop) (self34 : Nat → Int32 → Int32 → ZS → Nat → Nat → Prop) (x0 : Nat) (x1 : Int32) (x2 : Int32) (S : ZS) (C T : Nat) : Prop :=
  m_ifQ ((2000 : Int32) < x2) (
  m_chkQ (zK S x0 = 2) (
  m_chkQ (zK S x0 = 2) (
  m_calP (f_X2_refuse x0 (1 : Int32) (zI S 4 x0) S) (fun o1 =>
  m_chkQ (vp_nar .boolean o1.1 = o1.1) (Pw o1.1 o1.2))))
  ) (
  m_chkQ (zK S x0 = 2) (
  m_calP (f_X2_skipBlanks x0 S) (fun o2 =>
  m_chkQ (zK o2.2 x0 = 2) (
  m_calP (zP o2.2 9 x0) (fun b3 =>
  m_chkQ (zK o2.2 b3 = 14) (
  m_chkQ (¬ (x1 < 0 ∨ zN o2.2 b3 ≤ (x1).toNatClampNeg)) (
  m_bndP (zA o2.2 b3 (x1).toNatClampNeg) (fun v4 =>
  m_chkQ (zK o2.2 x0 = 2) (
  m_calP (zP o2.2 8 x0) (fun b5 =>
  m_chkQ (zK o2.2 b5 = 14) (
  m_chkQ (¬ (x1 < 0 ∨ zN o2.2 b5 ≤ (x1).toNatClampNeg)) (
  m_bndP (zA o2.2 b5 (x1).toNatClampNeg) (fun v6 =>
  m_ifQ (v4 = v6) (
  g_X2_readMoves_65 Pw self34 x0 x1 x2 (0 : Int32) o2.2 (C) (T)
  ) (
  g_X2_readMoves_65 Pw self34 x0 x1 x2 (1 : Int32) o2.2 (C) (T)
  )))))))))))))
  )

set_option maxRecDepth 100000 in
set_option maxHeartbeats 4000000 in
theorem ws_X2_readMoves_34 {p : Program} {l : Launch} {e : Env} {s : State} {m : MethodId} {args : Array Value} {below : List Frame} {meth : Method} {c : Code} {Q : State → Prop} {D : va_G} {y : Nat → ClassId} {A0 : Nat → Prop} {kc kt : Nat} {Pw : Int32 → ZS → Prop} (X : CallFix p m c cX2_readMoves 4 s args wsX2_readMoves RX2) (hret : zQi p l e ({ frames := 9, cells := kc, slots := kt, locals := 203 } : Room) s m args below meth c Q cX2_readMoves D y A0 .boolean Pw) {self34 : Nat → Int32 → Int32 → ZS → Nat → Nat → Prop} (hself34 : ∀ (x0 : Nat) (x1 : Int32) (x2 : Int32) (S : ZS) (C T : Nat) (H : Heap) (locs : List Loc) (ls : Array Slot), self34 x0 x1 x2 S C T → C ≤ kc ∧ T ≤ kt → zH D y A0 s H locs S → lv_has ls 4 [(0, .ref (zh y x0)), (1, .int x1), (2, .int x2)] → W p l e ({ frames := 9, cells := kc, slots := kt, locals := 203 } : Room) s m args below meth c H locs (kc - C) (kt - T) Q (F0 m 34 ls [])) {x0 : Nat} {x1 : Int32} {x2 : Int32} {S : ZS} {C T : Nat} {H : Heap} {locs : List Loc} {ls : Array Slot} (hf : g_X2_readMoves_34s Pw self34 x0 x1 x2 S C T) (hCT : C ≤ kc ∧ T ≤ kt) (hM : zH D y A0 s H locs S) (hl : lv_has ls 4 [(0, .ref (zh y x0)), (1, .int x1), (2, .int x2)]) : W p l e ({ frames := 9, cells := kc, slots := kt, locals := 203 } : Room) s m args below meth c H locs (kc - C) (kt - T) Q (F0 m 34 ls []) := by
  obtain ⟨hx, hb, hml, hown, hts⟩ := id X
  unfold g_X2_readMoves_34s at hf
  refine lv_iload_n hx hb dX2_readMoves_34 rfl (lv_at hl 2 rfl) ?_
  refine lv_sipush (v := (2000 : Int32)) hx hb dX2_readMoves_35 (by decide) ?_
  refine lv_icmp_gt (tgt := 203) hx hb dX2_readMoves_38 (by decide) (fun cc1 => ?_) (fun cc1 => ?_)
  · replace hf := m_ifPT hf cc1
    refine lv_aload_n hx hb dX2_readMoves_203 rfl (lv_at hl 0 rfl) ?_
    refine lv_iconst (v := (1 : Int32)) hx hb dX2_readMoves_204 (by decide) ?_
    refine lv_aload_n hx hb dX2_readMoves_205 rfl (lv_at hl 0 rfl) ?_
    obtain ⟨ca, hf⟩ := m_chkPE hf
    replace ca := z_in hM (by decide) ca
    refine z_get (k := 2) (j := 4) (C := RX2) (T := TX2) (N := 12) (fl := zf_2) (v := .int (zI S 4 x0)) X hw_X2_readMoves_2 hM rfl zc_2 ca (by decide) fl_X2_readMoves_2_4 rfl dX2_readMoves_206 ?_
    clear ca
    obtain ⟨ca, hf⟩ := m_chkPE hf
    replace ca := z_in hM (by decide) ca
    obtain ⟨o1, ho, hf⟩ := m_calPE hf
    refine z_gcallVi (k := 2) (C := RX2) (T := TX2) (N := 12) (fl := zf_2) X hM rfl zc_2 ca (c_X2_refuse ho) gX2_readMoves_X2_refuse rfl ⟨rfl, rfl⟩ hd_X2_refuse ⟨Nat.le_of_ble_eq_true rfl, Nat.le_of_ble_eq_true rfl⟩ rfl hl.1 rfl ⟨Nat.sub_le _ _, Nat.sub_le _ _⟩ (Nat.le_of_ble_eq_true rfl) dX2_readMoves_209 (fun H locs hM => ?_)
    clear ho
    obtain ⟨cd, hf⟩ := m_chkPE hf
    exact hret _ _ _ _ H locs _ ls hf hM (m_nb cd) dX2_readMoves_212
  · replace hf := m_ifPF hf cc1
    refine lv_aload_n hx hb dX2_readMoves_41 rfl (lv_at hl 0 rfl) ?_
    obtain ⟨ca, hf⟩ := m_chkPE hf
    replace ca := z_in hM (by decide) ca
    obtain ⟨o2, ho, hf⟩ := m_calPE hf
    refine z_gcallVv (k := 2) (C := RX2) (T := TX2) (N := 12) (fl := zf_2) X hM rfl zc_2 ca (c_X2_skipBlanks ho) gX2_readMoves_X2_skipBlanks rfl ⟨rfl, rfl⟩ hd_X2_skipBlanks ⟨Nat.le_of_ble_eq_true rfl, Nat.le_of_ble_eq_true rfl⟩ rfl hl.1 rfl ⟨Nat.sub_le _ _, Nat.sub_le _ _⟩ (Nat.le_of_ble_eq_true rfl) dX2_readMoves_42 (fun H locs hM => ?_)
    clear ho
    refine lv_aload_n hx hb dX2_readMoves_45 rfl (lv_at hl 0 rfl) ?_
    obtain ⟨ca, hf⟩ := m_chkPE hf
    replace ca := z_in hM (by decide) ca
    refine z_get (k := 2) (j := 9) (C := RX2) (T := TX2) (N := 12) (fl := zf_2) (v := va_rf ((zP o2.2 9 x0).map (zh y))) X hw_X2_readMoves_2 hM rfl zc_2 ca (by decide) fl_X2_readMoves_2_9 rfl dX2_readMoves_46 ?_
    clear ca
    obtain ⟨b3, hb9, hf⟩ := m_calPE hf
    refine z_topr hb9 ?_
    clear hb9
    refine lv_iload_n hx hb dX2_readMoves_49 rfl (lv_at hl 1 rfl) ?_
    obtain ⟨ca, hf⟩ := m_chkPE hf
    replace ca := z_in hM (by decide) ca
    obtain ⟨cd, hf⟩ := m_chkPE hf
    refine z_iald X hM ca cd dX2_readMoves_50 ?_
    clear ca cd
    obtain ⟨v4, ev, hf⟩ := m_bndPE hf
    refine m_top ev ?_
    clear ev
    refine lv_aload_n hx hb dX2_readMoves_51 rfl (lv_at hl 0 rfl) ?_
    obtain ⟨ca, hf⟩ := m_chkPE hf
    replace ca := z_in hM (by decide) ca
    refine z_get (k := 2) (j := 8) (C := RX2) (T := TX2) (N := 12) (fl := zf_2) (v := va_rf ((zP o2.2 8 x0).map (zh y))) X hw_X2_readMoves_2 hM rfl zc_2 ca (by decide) fl_X2_readMoves_2_8 rfl dX2_readMoves_52 ?_
    clear ca
    obtain ⟨b5, hb9, hf⟩ := m_calPE hf
    refine z_topr hb9 ?_
    clear hb9
    refine lv_iload_n hx hb dX2_readMoves_55 rfl (lv_at hl 1 rfl) ?_
    obtain ⟨ca, hf⟩ := m_chkPE hf
    replace ca := z_in hM (by decide) ca
    obtain ⟨cd, hf⟩ := m_chkPE hf
    refine z_iald X hM ca cd dX2_readMoves_56 ?_
    clear ca cd
    obtain ⟨v6, ev, hf⟩ := m_bndPE hf
    refine m_top ev ?_
    clear ev
    refine lv_icmp_eq (tgt := 64) hx hb dX2_readMoves_57 (by decide) (fun cc1 => ?_) (fun cc1 => ?_)
    · replace hf := m_ifPT hf cc1
      refine lv_iconst (v := (0 : Int32)) hx hb dX2_readMoves_64 (by decide) ?_
      exact w_X2_readMoves_65 (x0 := x0) (x1 := x1) (x2 := x2) (t0 := (0 : Int32)) X hret hself34 hf hCT hM (lv_sub hl [0, 1, 2] rfl)
    · replace hf := m_ifPF hf cc1
      refine lv_iconst (v := (1 : Int32)) hx hb dX2_readMoves_60 (by decide) ?_
      refine lv_goto (tgt := 65) hx hb dX2_readMoves_61 (by decide) ?_
      exact w_X2_readMoves_65 (x0 := x0) (x1 := x1) (x2 := x2) (t0 := (1 : Int32)) X hret hself34 hf hCT hM (lv_sub hl [0, 1, 2] rfl)
noncomputable def g_X2_readMoves_34 (Pw : Int32 → ZS → Prop) : Nat → Nat → Int32 → Int32 → ZS → Nat → Nat → Prop
  | 0 => fun _ _ _ _ _ _ => False
  | n + 1 => g_X2_readMoves_34s Pw (g_X2_readMoves_34 Pw n)
theorem w_X2_readMoves_34 {p : Program} {l : Launch} {e : Env} {s : State} {m : MethodId} {args : Array Value} {below : List Frame} {meth : Method} {c : Code} {Q : State → Prop} {D : va_G} {y : Nat → ClassId} {A0 : Nat → Prop} {kc kt : Nat} {Pw : Int32 → ZS → Prop} (X : CallFix p m c cX2_readMoves 4 s args wsX2_readMoves RX2) (hret : zQi p l e ({ frames := 9, cells := kc, slots := kt, locals := 203 } : Room) s m args below meth c Q cX2_readMoves D y A0 .boolean Pw) (n : Nat) : ∀ (x0 : Nat) (x1 : Int32) (x2 : Int32) (S : ZS) (C T : Nat) (H : Heap) (locs : List Loc) (ls : Array Slot), g_X2_readMoves_34 Pw n x0 x1 x2 S C T → C ≤ kc ∧ T ≤ kt → zH D y A0 s H locs S → lv_has ls 4 [(0, .ref (zh y x0)), (1, .int x1), (2, .int x2)] → W p l e ({ frames := 9, cells := kc, slots := kt, locals := 203 } : Room) s m args below meth c H locs (kc - C) (kt - T) Q (F0 m 34 ls []) := by
  induction n with
  | zero => intro x0 x1 x2 S C T H locs ls hf; exact absurd hf id
  | succ n ih => intro x0 x1 x2 S C T H locs ls hf hCT hM hl; exact ws_X2_readMoves_34 X hret (self34 := g_X2_readMoves_34 Pw n) ih hf hCT hM hl
noncomputable def g_X2_readMoves_0 (Pw : Int32 → ZS → Prop) (x0 : Nat) (S : ZS) (C T : Nat) : Prop :=
  m_chkQ (zK S x0 = 2) (
  m_calP (zP S 8 x0) (fun b1 =>
  m_chkQ (zK S b1 = 14) (
  m_chkQ (¬ ((0 : Int32) < 0 ∨ zN S b1 ≤ ((0 : Int32)).toNatClampNeg)) (
  m_bndP (zsA S b1 ((0 : Int32)).toNatClampNeg (0 : Int32)) (fun S2 =>
  m_chkQ (zK S2 x0 = 2) (
  m_calP (zP S2 9 x0) (fun b3 =>
  m_chkQ (zK S2 b3 = 14) (
  m_chkQ (¬ ((0 : Int32) < 0 ∨ zN S2 b3 ≤ ((0 : Int32)).toNatClampNeg)) (
  m_bndP (zsA S2 b3 ((0 : Int32)).toNatClampNeg (0 : Int32)) (fun S4 =>
  m_chkQ (zK S4 x0 = 2) (
  m_calP (zP S4 11 x0) (fun b5 =>
  m_chkQ (zK S4 b5 = 15) (
  m_chkQ (¬ ((0 : Int32) < 0 ∨ zN S4 b5 ≤ ((0 : Int32)).toNatClampNeg)) (
  m_calP (zB S4 b5 ((0 : Int32)).toNatClampNeg) (fun b6 =>
  m_chkQ (zK S4 x0 = 2) (
  m_calP (zP S4 3 x0) (fun b7 =>
  m_chkQ (zK S4 b7 = 1) (
  m_calP (zP S4 0 b7) (fun b8 =>
  m_chkQ (zK S4 b6 = 0) (
  m_calP (f_X0_copyFrom b6 b8 S4) (fun o9 =>
  g_X2_readMoves_34 Pw mFuel x0 (0 : Int32) (0 : Int32) o9.2 (C) (T))))))))))))))))))))))

set_option maxRecDepth 100000 in
set_option maxHeartbeats 4000000 in
theorem w_X2_readMoves_0 {p : Program} {l : Launch} {e : Env} {s : State} {m : MethodId} {args : Array Value} {below : List Frame} {meth : Method} {c : Code} {Q : State → Prop} {D : va_G} {y : Nat → ClassId} {A0 : Nat → Prop} {kc kt : Nat} {Pw : Int32 → ZS → Prop} (X : CallFix p m c cX2_readMoves 4 s args wsX2_readMoves RX2) (hret : zQi p l e ({ frames := 9, cells := kc, slots := kt, locals := 203 } : Room) s m args below meth c Q cX2_readMoves D y A0 .boolean Pw) {x0 : Nat} {S : ZS} {C T : Nat} {H : Heap} {locs : List Loc} {ls : Array Slot} (hf : g_X2_readMoves_0 Pw x0 S C T) (hCT : C ≤ kc ∧ T ≤ kt) (hM : zH D y A0 s H locs S) (hl : lv_has ls 4 [(0, .ref (zh y x0))]) : W p l e ({ frames := 9, cells := kc, slots := kt, locals := 203 } : Room) s m args below meth c H locs (kc - C) (kt - T) Q (F0 m 0 ls []) := by
  obtain ⟨hx, hb, hml, hown, hts⟩ := id X
  unfold g_X2_readMoves_0 at hf
  refine lv_iconst (v := (0 : Int32)) hx hb dX2_readMoves_0 (by decide) ?_
  refine lv_istore_n (lv' := [(1, .int (0 : Int32)), (0, .ref (zh y x0))]) hx hb dX2_readMoves_1 rfl hl (by decide) rfl (fun ls hl => ?_)
  refine lv_aload_n hx hb dX2_readMoves_2 rfl (lv_at hl 1 rfl) ?_
  obtain ⟨ca, hf⟩ := m_chkPE hf
  replace ca := z_in hM (by decide) ca
  refine z_get (k := 2) (j := 8) (C := RX2) (T := TX2) (N := 12) (fl := zf_2) (v := va_rf ((zP S 8 x0).map (zh y))) X hw_X2_readMoves_2 hM rfl zc_2 ca (by decide) fl_X2_readMoves_2_8 rfl dX2_readMoves_3 ?_
  clear ca
  obtain ⟨b1, hb9, hf⟩ := m_calPE hf
  refine z_topr hb9 ?_
  clear hb9
  refine lv_iconst (v := (0 : Int32)) hx hb dX2_readMoves_6 (by decide) ?_
  refine lv_iconst (v := (0 : Int32)) hx hb dX2_readMoves_7 (by decide) ?_
  obtain ⟨ca, hf⟩ := m_chkPE hf
  replace ca := z_in hM (by decide) ca
  obtain ⟨cd, hf⟩ := m_chkPE hf
  refine z_iast X hM ca cd dX2_readMoves_8 (fun H locs hM => ?_)
  clear ca cd
  obtain ⟨S2, ev, hf⟩ := m_bndPE hf
  replace hM := z_hS hM ev
  clear ev
  refine lv_aload_n hx hb dX2_readMoves_9 rfl (lv_at hl 1 rfl) ?_
  obtain ⟨ca, hf⟩ := m_chkPE hf
  replace ca := z_in hM (by decide) ca
  refine z_get (k := 2) (j := 9) (C := RX2) (T := TX2) (N := 12) (fl := zf_2) (v := va_rf ((zP S2 9 x0).map (zh y))) X hw_X2_readMoves_2 hM rfl zc_2 ca (by decide) fl_X2_readMoves_2_9 rfl dX2_readMoves_10 ?_
  clear ca
  obtain ⟨b3, hb9, hf⟩ := m_calPE hf
  refine z_topr hb9 ?_
  clear hb9
  refine lv_iconst (v := (0 : Int32)) hx hb dX2_readMoves_13 (by decide) ?_
  refine lv_iconst (v := (0 : Int32)) hx hb dX2_readMoves_14 (by decide) ?_
  obtain ⟨ca, hf⟩ := m_chkPE hf
  replace ca := z_in hM (by decide) ca
  obtain ⟨cd, hf⟩ := m_chkPE hf
  refine z_iast X hM ca cd dX2_readMoves_15 (fun H locs hM => ?_)
  clear ca cd
  obtain ⟨S4, ev, hf⟩ := m_bndPE hf
  replace hM := z_hS hM ev
  clear ev
  refine lv_aload_n hx hb dX2_readMoves_16 rfl (lv_at hl 1 rfl) ?_
  obtain ⟨ca, hf⟩ := m_chkPE hf
  replace ca := z_in hM (by decide) ca
  refine z_get (k := 2) (j := 11) (C := RX2) (T := TX2) (N := 12) (fl := zf_2) (v := va_rf ((zP S4 11 x0).map (zh y))) X hw_X2_readMoves_2 hM rfl zc_2 ca (by decide) fl_X2_readMoves_2_11 rfl dX2_readMoves_17 ?_
  clear ca
  obtain ⟨b5, hb9, hf⟩ := m_calPE hf
  refine z_topr hb9 ?_
  clear hb9
  refine lv_iconst (v := (0 : Int32)) hx hb dX2_readMoves_20 (by decide) ?_
  obtain ⟨ca, hf⟩ := m_chkPE hf
  replace ca := z_in hM (by decide) ca
  obtain ⟨cd, hf⟩ := m_chkPE hf
  refine z_aald (k := 15) (t0 := 2) (C := "MoveTexts$Board") X hM (fun _ _ _ _ _ => rfl) rfl ca cd dX2_readMoves_21 ?_
  clear ca cd
  obtain ⟨b6, hb9, hf⟩ := m_calPE hf
  refine z_topr hb9 ?_
  clear hb9
  refine lv_aload_n hx hb dX2_readMoves_22 rfl (lv_at hl 1 rfl) ?_
  obtain ⟨ca, hf⟩ := m_chkPE hf
  replace ca := z_in hM (by decide) ca
  refine z_get (k := 2) (j := 3) (C := RX2) (T := TX2) (N := 12) (fl := zf_2) (v := va_rf ((zP S4 3 x0).map (zh y))) X hw_X2_readMoves_2 hM rfl zc_2 ca (by decide) fl_X2_readMoves_2_3 rfl dX2_readMoves_23 ?_
  clear ca
  obtain ⟨b7, hb9, hf⟩ := m_calPE hf
  refine z_topr hb9 ?_
  clear hb9
  obtain ⟨ca, hf⟩ := m_chkPE hf
  replace ca := z_in hM (by decide) ca
  refine z_get (k := 1) (j := 0) (C := RX1) (T := TX1) (N := 8) (fl := zf_1) (v := va_rf ((zP S4 0 b7).map (zh y))) X hw_X2_readMoves_1 hM rfl zc_1 ca (by decide) fl_X2_readMoves_1_0 rfl dX2_readMoves_26 ?_
  clear ca
  obtain ⟨b8, hb9, hf⟩ := m_calPE hf
  refine z_topr hb9 ?_
  clear hb9
  obtain ⟨ca, hf⟩ := m_chkPE hf
  replace ca := z_in hM (by decide) ca
  obtain ⟨o9, ho, hf⟩ := m_calPE hf
  refine z_gcallVv (k := 0) (C := RX0) (T := TX0) (N := 7) (fl := zf_0) X hM rfl zc_0 ca (c_X0_copyFrom ho) gX2_readMoves_X0_copyFrom rfl ⟨rfl, rfl⟩ hd_X0_copyFrom ⟨Nat.le_of_ble_eq_true rfl, Nat.le_of_ble_eq_true rfl⟩ rfl hl.1 rfl ⟨Nat.sub_le _ _, Nat.sub_le _ _⟩ (Nat.le_of_ble_eq_true rfl) dX2_readMoves_29 (fun H locs hM => ?_)
  clear ho
  refine lv_iconst (v := (0 : Int32)) hx hb dX2_readMoves_32 (by decide) ?_
  refine lv_istore_n (lv' := [(2, .int (0 : Int32)), (1, .int (0 : Int32)), (0, .ref (zh y x0))]) hx hb dX2_readMoves_33 rfl hl (by decide) rfl (fun ls hl => ?_)
  exact w_X2_readMoves_34 X hret _ x0 (0 : Int32) (0 : Int32) _ _ _ _ _ _ hf hCT hM (lv_sub hl [2, 1, 0] rfl)
noncomputable def g_X2_readMoves (x0 : Nat) (S : ZS) (mc ms : Nat) (Pw : Int32 → ZS → Prop) : Prop := g_X2_readMoves_0 Pw x0 S mc ms
theorem c_X2_readMoves {l : Launch} {D : va_G} {y : Nat → ClassId} {x0 : Nat} {S : ZS} {kc kt : Nat} {Pw : Int32 → ZS → Prop} (hf : g_X2_readMoves x0 S kc kt Pw) : zWi l yX2_readMoves wsX2_readMoves ({ frames := 9, cells := kc, slots := kt, locals := 203 } : Room) [.ref (zh y x0)] D y S kc kt Pw :=
  z_wentI (own := RX2) (cc := cX2_readMoves) (maxL := 4) (by decide) rfl rfl (Nat.le_of_ble_eq_true rfl) ⟨rfl, rfl⟩ (fun p e s m args below meth c A0 Q H locs ls X hret hM hl => w_X2_readMoves_0 X hret hf ⟨Nat.le_refl _, Nat.le_refl _⟩ hM (lv_sub hl [0] rfl))
theorem hd_X2_readEnd : yX2_readEnd.cls = RX2 ∧ yX2_readEnd.cls ≠ "java/lang/invoke/MethodHandle" ∧ yX2_readEnd.cls ≠ "java/lang/invoke/VarHandle" ∧ (parseMethodDescriptor yX2_readEnd.desc).map (fun d => d.parameters.length) = some 0 := by decide +kernel
theorem fl_X2_readEnd_1_6 : Cond.fieldLink RX2 235 "MoveTexts$Game" "result" "I" ∈ wsX2_readEnd := by decide +kernel
theorem fl_X2_readEnd_2_2 : Cond.fieldLink RX2 28 "MoveTexts$GameReader" "text" "LMoveTexts$Row;" ∈ wsX2_readEnd := by decide +kernel
theorem fl_X2_readEnd_2_3 : Cond.fieldLink RX2 35 "MoveTexts$GameReader" "game" "LMoveTexts$Game;" ∈ wsX2_readEnd := by decide +kernel
theorem fl_X2_readEnd_2_4 : Cond.fieldLink RX2 39 "MoveTexts$GameReader" "at" "I" ∈ wsX2_readEnd := by decide +kernel
theorem hw_X2_readEnd_1 : ∀ w ∈ wsX10, w ∈ wsX2_readEnd := by decide +kernel
theorem hw_X2_readEnd_2 : ∀ w ∈ wsX20, w ∈ wsX2_readEnd := by decide +kernel
theorem nn_X2_readEnd_224 : ((RX2, 224, yX11_resultSign, "MoveTexts") ∈ zNW ∧ Cond.initialized yX11_resultSign.cls ∈ wsX2_readEnd) ∧ Cond.static yX11_resultSign ∈ wsX2_readEnd := by decide +kernel
noncomputable def g_X2_readEnd_86 (Pw : Int32 → ZS → Prop) (t0 : Int32) (S : ZS) (C T : Nat) : Prop :=
  m_chkQ (vp_nar .boolean t0 = t0) (Pw t0 S)

set_option maxRecDepth 100000 in
set_option maxHeartbeats 4000000 in
theorem w_X2_readEnd_86 {p : Program} {l : Launch} {e : Env} {s : State} {m : MethodId} {args : Array Value} {below : List Frame} {meth : Method} {c : Code} {Q : State → Prop} {D : va_G} {y : Nat → ClassId} {A0 : Nat → Prop} {kc kt : Nat} {Pw : Int32 → ZS → Prop} (X : CallFix p m c cX2_readEnd 2 s args wsX2_readEnd RX2) (hret : zQi p l e ({ frames := 7, cells := kc, slots := kt, locals := 151 } : Room) s m args below meth c Q cX2_readEnd D y A0 .boolean Pw) {t0 : Int32} {S : ZS} {C T : Nat} {H : Heap} {locs : List Loc} {ls : Array Slot} (hf : g_X2_readEnd_86 Pw t0 S C T) (hCT : C ≤ kc ∧ T ≤ kt) (hM : zH D y A0 s H locs S) (hl : lv_has ls 2 []) : W p l e ({ frames := 7, cells := kc, slots := kt, locals := 151 } : Room) s m args below meth c H locs (kc - C) (kt - T) Q (F0 m 86 ls [.int t0]) := by
  obtain ⟨hx, hb, hml, hown, hts⟩ := id X
  unfold g_X2_readEnd_86 at hf
  obtain ⟨cd, hf⟩ := m_chkPE hf
  exact hret _ _ _ _ H locs _ ls hf hM (m_nb cd) dX2_readEnd_86
noncomputable def g_X2_readEnd_81 (Pw : Int32 → ZS → Prop) (S : ZS) (C T : Nat) : Prop :=
  g_X2_readEnd_86 Pw (1 : Int32) S (C) (T)

set_option maxRecDepth 100000 in
set_option maxHeartbeats 4000000 in
theorem w_X2_readEnd_81 {p : Program} {l : Launch} {e : Env} {s : State} {m : MethodId} {args : Array Value} {below : List Frame} {meth : Method} {c : Code} {Q : State → Prop} {D : va_G} {y : Nat → ClassId} {A0 : Nat → Prop} {kc kt : Nat} {Pw : Int32 → ZS → Prop} (X : CallFix p m c cX2_readEnd 2 s args wsX2_readEnd RX2) (hret : zQi p l e ({ frames := 7, cells := kc, slots := kt, locals := 151 } : Room) s m args below meth c Q cX2_readEnd D y A0 .boolean Pw) {S : ZS} {C T : Nat} {H : Heap} {locs : List Loc} {ls : Array Slot} (hf : g_X2_readEnd_81 Pw  S C T) (hCT : C ≤ kc ∧ T ≤ kt) (hM : zH D y A0 s H locs S) (hl : lv_has ls 2 []) : W p l e ({ frames := 7, cells := kc, slots := kt, locals := 151 } : Room) s m args below meth c H locs (kc - C) (kt - T) Q (F0 m 81 ls []) := by
  obtain ⟨hx, hb, hml, hown, hts⟩ := id X
  unfold g_X2_readEnd_81 at hf
  refine lv_iconst (v := (1 : Int32)) hx hb dX2_readEnd_81 (by decide) ?_
  refine lv_goto (tgt := 86) hx hb dX2_readEnd_82 (by decide) ?_
  exact w_X2_readEnd_86 (t0 := (1 : Int32)) X hret hf hCT hM (lv_sub hl [] rfl)
noncomputable def g_X2_readEnd_0 (Pw : Int32 → ZS → Prop) (x0 : Nat) (S : ZS) (C T : Nat) : Prop :=
  m_chkQ (zK S x0 = 2) (
  m_calP (f_X2_resultHere x0 S) (fun o1 =>
  m_chkQ (zK o1.2 x0 = 2) (
  m_calP (zP o1.2 3 x0) (fun b2 =>
  m_chkQ (zK o1.2 b2 = 1) (
  m_gal (C) (T) (fun mc ms Pw => g_X1_agreesWith b2 o1.1 o1.2 mc ms Pw) (fun r4 S5 C6 T7 =>
  m_ifQ (r4 = 0) (
  m_chkQ (zK S5 x0 = 2) (
  m_chkQ (zK S5 x0 = 2) (
  m_calP (f_X2_refuse x0 (9 : Int32) (zI S5 4 x0) S5) (fun o18 =>
  m_chkQ (vp_nar .boolean o18.1 = o18.1) (Pw o18.1 o18.2))))
  ) (
  m_chkQ (zK S5 x0 = 2) (
  m_calP (zP S5 3 x0) (fun b8 =>
  m_chkQ (zK S5 b8 = 1) (
  m_bndP (zsI S5 6 b8 o1.1) (fun S9 =>
  m_chkQ (zK S9 x0 = 2) (
  m_calP (f_X11_resultSign o1.1 S9) (fun o10 =>
  m_chkQ (o10.1 < zSn) (
  m_calP (f_J0_length_8abf5 o10.1 o10.2) (fun o11 =>
  m_bndP ((zI S9 4 x0) + o11.1) (fun v12 =>
  m_chkQ (zK o11.2 x0 = 2) (
  m_bndP (zsI o11.2 4 x0 v12) (fun S13 =>
  m_chkQ (zK S13 x0 = 2) (
  m_calP (f_X2_skipBlanks x0 S13) (fun o14 =>
  m_chkQ (zK o14.2 x0 = 2) (
  m_chkQ (zK o14.2 x0 = 2) (
  m_calP (zP o14.2 2 x0) (fun b15 =>
  m_chkQ (zK o14.2 b15 = 6) (
  m_calP (f_X6_size b15 o14.2) (fun o16 =>
  m_ifQ ((zI o14.2 4 x0) = o16.1) (
  g_X2_readEnd_81 Pw  o16.2 (C6) (T7)
  ) (
  m_chkQ (zK o16.2 x0 = 2) (
  m_chkQ (zK o16.2 x0 = 2) (
  m_calP (f_X2_refuse x0 (1 : Int32) (zI o16.2 4 x0) o16.2) (fun o17 =>
  m_ifQ (o17.1 = 0) (
  g_X2_readEnd_86 Pw (0 : Int32) o17.2 (C6) (T7)
  ) (
  g_X2_readEnd_81 Pw  o17.2 (C6) (T7)
  ))))
  )))))))))))))))))))
  )))))))

set_option maxRecDepth 100000 in
set_option maxHeartbeats 4000000 in
theorem w_X2_readEnd_0 {p : Program} {l : Launch} {e : Env} {s : State} {m : MethodId} {args : Array Value} {below : List Frame} {meth : Method} {c : Code} {Q : State → Prop} {D : va_G} {y : Nat → ClassId} {A0 : Nat → Prop} {kc kt : Nat} {Pw : Int32 → ZS → Prop} (X : CallFix p m c cX2_readEnd 2 s args wsX2_readEnd RX2) (hret : zQi p l e ({ frames := 7, cells := kc, slots := kt, locals := 151 } : Room) s m args below meth c Q cX2_readEnd D y A0 .boolean Pw) {x0 : Nat} {S : ZS} {C T : Nat} {H : Heap} {locs : List Loc} {ls : Array Slot} (hf : g_X2_readEnd_0 Pw x0 S C T) (hCT : C ≤ kc ∧ T ≤ kt) (hM : zH D y A0 s H locs S) (hl : lv_has ls 2 [(0, .ref (zh y x0))]) : W p l e ({ frames := 7, cells := kc, slots := kt, locals := 151 } : Room) s m args below meth c H locs (kc - C) (kt - T) Q (F0 m 0 ls []) := by
  obtain ⟨hx, hb, hml, hown, hts⟩ := id X
  unfold g_X2_readEnd_0 at hf
  refine lv_aload_n hx hb dX2_readEnd_0 rfl (lv_at hl 0 rfl) ?_
  obtain ⟨ca, hf⟩ := m_chkPE hf
  replace ca := z_in hM (by decide) ca
  obtain ⟨o1, ho, hf⟩ := m_calPE hf
  refine z_gcallVi (k := 2) (C := RX2) (T := TX2) (N := 12) (fl := zf_2) X hM rfl zc_2 ca (c_X2_resultHere ho) gX2_readEnd_X2_resultHere rfl ⟨rfl, rfl⟩ hd_X2_resultHere ⟨Nat.le_of_ble_eq_true rfl, Nat.le_of_ble_eq_true rfl⟩ rfl hl.1 rfl ⟨Nat.sub_le _ _, Nat.sub_le _ _⟩ (Nat.le_of_ble_eq_true rfl) dX2_readEnd_1 (fun H locs hM => ?_)
  clear ho
  refine lv_istore_n (lv' := [(1, .int o1.1), (0, .ref (zh y x0))]) hx hb dX2_readEnd_4 rfl hl (by decide) rfl (fun ls hl => ?_)
  refine lv_aload_n hx hb dX2_readEnd_5 rfl (lv_at hl 1 rfl) ?_
  obtain ⟨ca, hf⟩ := m_chkPE hf
  replace ca := z_in hM (by decide) ca
  refine z_get (k := 2) (j := 3) (C := RX2) (T := TX2) (N := 12) (fl := zf_2) (v := va_rf ((zP o1.2 3 x0).map (zh y))) X hw_X2_readEnd_2 hM rfl zc_2 ca (by decide) fl_X2_readEnd_2_3 rfl dX2_readEnd_6 ?_
  clear ca
  obtain ⟨b2, hb9, hf⟩ := m_calPE hf
  refine z_topr hb9 ?_
  clear hb9
  refine lv_iload_n hx hb dX2_readEnd_9 rfl (lv_at hl 0 rfl) ?_
  obtain ⟨ca, hf⟩ := m_chkPE hf
  replace ca := z_in hM (by decide) ca
  obtain ⟨mc, ms, hcm, ho⟩ := m_galE hf
  refine z_wcallVi (k := 1) (C := RX1) (T := TX1) (N := 8) (fl := zf_1) X hM rfl zc_1 ca (c_X1_agreesWith ho) gX2_readEnd_X1_agreesWith rfl ⟨rfl, rfl⟩ ⟨by show kc - (C) + mc ≤ kc; omega, by show kt - (T) + ms ≤ kt; omega⟩ hd_X1_agreesWith ⟨Nat.le_of_ble_eq_true rfl, Nat.le_of_ble_eq_true rfl⟩ rfl hl.1 rfl (Nat.le_of_ble_eq_true rfl) dX2_readEnd_10 (fun r4 S5 H locs hf hM => ?_)
  refine z_eqCS (c2 := kc - (C - mc)) (t2 := kt - (T - ms)) (by omega) (by omega) ?_
  replace hCT : C - mc ≤ kc ∧ T - ms ≤ kt := by omega
  generalize C - mc = C6 at hf hCT ⊢
  generalize T - ms = T7 at hf hCT ⊢
  clear ho hcm
  refine lv_if_ne (tgt := 27) hx hb dX2_readEnd_13 (by decide) (fun cc1 => ?_) (fun cc1 => ?_)
  · replace hf := m_ifPF hf cc1
    refine lv_aload_n hx hb dX2_readEnd_27 rfl (lv_at hl 1 rfl) ?_
    obtain ⟨ca, hf⟩ := m_chkPE hf
    replace ca := z_in hM (by decide) ca
    refine z_get (k := 2) (j := 3) (C := RX2) (T := TX2) (N := 12) (fl := zf_2) (v := va_rf ((zP S5 3 x0).map (zh y))) X hw_X2_readEnd_2 hM rfl zc_2 ca (by decide) fl_X2_readEnd_2_3 rfl dX2_readEnd_28 ?_
    clear ca
    obtain ⟨b8, hb9, hf⟩ := m_calPE hf
    refine z_topr hb9 ?_
    clear hb9
    refine lv_iload_n hx hb dX2_readEnd_31 rfl (lv_at hl 0 rfl) ?_
    obtain ⟨ca, hf⟩ := m_chkPE hf
    replace ca := z_in hM (by decide) ca
    refine z_putI (k := 1) (j := 6) (C := RX1) (T := TX1) (N := 8) (fl := zf_1) (ty := .int) X hw_X2_readEnd_1 tyX1_ok nmX1 hM rfl zc_1 ca (by decide) fl_X2_readEnd_1_6 rfl (tyX1_ok 6 (by decide)) rfl rfl zi_1_6 (Nat.le_of_ble_eq_true rfl) dX2_readEnd_32 (fun H locs hM => ?_)
    clear ca
    obtain ⟨S9, ev, hf⟩ := m_bndPE hf
    replace hM := z_hS hM ev
    clear ev
    refine lv_aload_n hx hb dX2_readEnd_35 rfl (lv_at hl 1 rfl) ?_
    refine lv_dup hx hb dX2_readEnd_36 rfl ?_
    obtain ⟨ca, hf⟩ := m_chkPE hf
    replace ca := z_in hM (by decide) ca
    refine z_get (k := 2) (j := 4) (C := RX2) (T := TX2) (N := 12) (fl := zf_2) (v := .int (zI S9 4 x0)) X hw_X2_readEnd_2 hM rfl zc_2 ca (by decide) fl_X2_readEnd_2_4 rfl dX2_readEnd_37 ?_
    clear ca
    refine lv_iload_n hx hb dX2_readEnd_40 rfl (lv_at hl 0 rfl) ?_
    obtain ⟨o10, ho, hf⟩ := m_calPE hf
    refine z_gcallSNr X hM (c_X11_resultSign ho) gX2_readEnd_X11_resultSign_n224 nn_X2_readEnd_224.1.1 nn_X2_readEnd_224.1.2 nn_X2_readEnd_224.2 rfl ⟨rfl, rfl⟩ hd_X11_resultSign ⟨Nat.le_of_ble_eq_true rfl, Nat.le_of_ble_eq_true rfl⟩ rfl hl.1 rfl ⟨Nat.sub_le _ _, Nat.sub_le _ _⟩ (Nat.le_of_ble_eq_true rfl) dX2_readEnd_41 (fun H locs hM => ?_)
    clear ho
    obtain ⟨ca, hf⟩ := m_chkPE hf
    obtain ⟨o11, ho, hf⟩ := m_calPE hf
    refine z_gcallTi X hM ca (c_J0_length_8abf5 ho) gX2_readEnd_J0_length_8abf5 rfl ⟨rfl, rfl⟩ hd_J0_length_8abf5 ⟨Nat.le_of_ble_eq_true rfl, Nat.le_of_ble_eq_true rfl⟩ rfl hl.1 rfl ⟨Nat.sub_le _ _, Nat.sub_le _ _⟩ (Nat.le_of_ble_eq_true rfl) dX2_readEnd_44 (fun H locs hM => ?_)
    clear ho
    refine lv_iadd hx hb dX2_readEnd_47 ?_
    obtain ⟨v12, ev, hf⟩ := m_bndPE hf
    refine m_top ev ?_
    clear ev
    obtain ⟨ca, hf⟩ := m_chkPE hf
    replace ca := z_in hM (by decide) ca
    refine z_putI (k := 2) (j := 4) (C := RX2) (T := TX2) (N := 12) (fl := zf_2) (ty := .int) X hw_X2_readEnd_2 tyX2_ok nmX2 hM rfl zc_2 ca (by decide) fl_X2_readEnd_2_4 rfl (tyX2_ok 4 (by decide)) rfl rfl zi_2_4 (Nat.le_of_ble_eq_true rfl) dX2_readEnd_48 (fun H locs hM => ?_)
    clear ca
    obtain ⟨S13, ev, hf⟩ := m_bndPE hf
    replace hM := z_hS hM ev
    clear ev
    refine lv_aload_n hx hb dX2_readEnd_51 rfl (lv_at hl 1 rfl) ?_
    obtain ⟨ca, hf⟩ := m_chkPE hf
    replace ca := z_in hM (by decide) ca
    obtain ⟨o14, ho, hf⟩ := m_calPE hf
    refine z_gcallVv (k := 2) (C := RX2) (T := TX2) (N := 12) (fl := zf_2) X hM rfl zc_2 ca (c_X2_skipBlanks ho) gX2_readEnd_X2_skipBlanks rfl ⟨rfl, rfl⟩ hd_X2_skipBlanks ⟨Nat.le_of_ble_eq_true rfl, Nat.le_of_ble_eq_true rfl⟩ rfl hl.1 rfl ⟨Nat.sub_le _ _, Nat.sub_le _ _⟩ (Nat.le_of_ble_eq_true rfl) dX2_readEnd_52 (fun H locs hM => ?_)
    clear ho
    refine lv_aload_n hx hb dX2_readEnd_55 rfl (lv_at hl 1 rfl) ?_
    obtain ⟨ca, hf⟩ := m_chkPE hf
    replace ca := z_in hM (by decide) ca
    refine z_get (k := 2) (j := 4) (C := RX2) (T := TX2) (N := 12) (fl := zf_2) (v := .int (zI o14.2 4 x0)) X hw_X2_readEnd_2 hM rfl zc_2 ca (by decide) fl_X2_readEnd_2_4 rfl dX2_readEnd_56 ?_
    clear ca
    refine lv_aload_n hx hb dX2_readEnd_59 rfl (lv_at hl 1 rfl) ?_
    obtain ⟨ca, hf⟩ := m_chkPE hf
    replace ca := z_in hM (by decide) ca
    refine z_get (k := 2) (j := 2) (C := RX2) (T := TX2) (N := 12) (fl := zf_2) (v := va_rf ((zP o14.2 2 x0).map (zh y))) X hw_X2_readEnd_2 hM rfl zc_2 ca (by decide) fl_X2_readEnd_2_2 rfl dX2_readEnd_60 ?_
    clear ca
    obtain ⟨b15, hb9, hf⟩ := m_calPE hf
    refine z_topr hb9 ?_
    clear hb9
    obtain ⟨ca, hf⟩ := m_chkPE hf
    replace ca := z_in hM (by decide) ca
    obtain ⟨o16, ho, hf⟩ := m_calPE hf
    refine z_gcallVi (k := 6) (C := RX6) (T := TX6) (N := 2) (fl := zf_6) X hM rfl zc_6 ca (c_X6_size ho) gX2_readEnd_X6_size rfl ⟨rfl, rfl⟩ hd_X6_size ⟨Nat.le_of_ble_eq_true rfl, Nat.le_of_ble_eq_true rfl⟩ rfl hl.1 rfl ⟨Nat.sub_le _ _, Nat.sub_le _ _⟩ (Nat.le_of_ble_eq_true rfl) dX2_readEnd_63 (fun H locs hM => ?_)
    clear ho
    refine lv_icmp_eq (tgt := 81) hx hb dX2_readEnd_66 (by decide) (fun cc1 => ?_) (fun cc1 => ?_)
    · replace hf := m_ifPT hf cc1
      exact w_X2_readEnd_81 X hret hf hCT hM (lv_sub hl [] rfl)
    · replace hf := m_ifPF hf cc1
      refine lv_aload_n hx hb dX2_readEnd_69 rfl (lv_at hl 1 rfl) ?_
      refine lv_iconst (v := (1 : Int32)) hx hb dX2_readEnd_70 (by decide) ?_
      refine lv_aload_n hx hb dX2_readEnd_71 rfl (lv_at hl 1 rfl) ?_
      obtain ⟨ca, hf⟩ := m_chkPE hf
      replace ca := z_in hM (by decide) ca
      refine z_get (k := 2) (j := 4) (C := RX2) (T := TX2) (N := 12) (fl := zf_2) (v := .int (zI o16.2 4 x0)) X hw_X2_readEnd_2 hM rfl zc_2 ca (by decide) fl_X2_readEnd_2_4 rfl dX2_readEnd_72 ?_
      clear ca
      obtain ⟨ca, hf⟩ := m_chkPE hf
      replace ca := z_in hM (by decide) ca
      obtain ⟨o17, ho, hf⟩ := m_calPE hf
      refine z_gcallVi (k := 2) (C := RX2) (T := TX2) (N := 12) (fl := zf_2) X hM rfl zc_2 ca (c_X2_refuse ho) gX2_readEnd_X2_refuse rfl ⟨rfl, rfl⟩ hd_X2_refuse ⟨Nat.le_of_ble_eq_true rfl, Nat.le_of_ble_eq_true rfl⟩ rfl hl.1 rfl ⟨Nat.sub_le _ _, Nat.sub_le _ _⟩ (Nat.le_of_ble_eq_true rfl) dX2_readEnd_75 (fun H locs hM => ?_)
      clear ho
      refine lv_if_eq (tgt := 85) hx hb dX2_readEnd_78 (by decide) (fun cc1 => ?_) (fun cc1 => ?_)
      · replace hf := m_ifPT hf cc1
        refine lv_iconst (v := (0 : Int32)) hx hb dX2_readEnd_85 (by decide) ?_
        exact w_X2_readEnd_86 (t0 := (0 : Int32)) X hret hf hCT hM (lv_sub hl [] rfl)
      · replace hf := m_ifPF hf cc1
        exact w_X2_readEnd_81 X hret hf hCT hM (lv_sub hl [] rfl)
  · replace hf := m_ifPT hf cc1
    refine lv_aload_n hx hb dX2_readEnd_16 rfl (lv_at hl 1 rfl) ?_
    refine lv_bipush (v := (9 : Int32)) hx hb dX2_readEnd_17 (by decide) ?_
    refine lv_aload_n hx hb dX2_readEnd_19 rfl (lv_at hl 1 rfl) ?_
    obtain ⟨ca, hf⟩ := m_chkPE hf
    replace ca := z_in hM (by decide) ca
    refine z_get (k := 2) (j := 4) (C := RX2) (T := TX2) (N := 12) (fl := zf_2) (v := .int (zI S5 4 x0)) X hw_X2_readEnd_2 hM rfl zc_2 ca (by decide) fl_X2_readEnd_2_4 rfl dX2_readEnd_20 ?_
    clear ca
    obtain ⟨ca, hf⟩ := m_chkPE hf
    replace ca := z_in hM (by decide) ca
    obtain ⟨o18, ho, hf⟩ := m_calPE hf
    refine z_gcallVi (k := 2) (C := RX2) (T := TX2) (N := 12) (fl := zf_2) X hM rfl zc_2 ca (c_X2_refuse ho) gX2_readEnd_X2_refuse rfl ⟨rfl, rfl⟩ hd_X2_refuse ⟨Nat.le_of_ble_eq_true rfl, Nat.le_of_ble_eq_true rfl⟩ rfl hl.1 rfl ⟨Nat.sub_le _ _, Nat.sub_le _ _⟩ (Nat.le_of_ble_eq_true rfl) dX2_readEnd_23 (fun H locs hM => ?_)
    clear ho
    obtain ⟨cd, hf⟩ := m_chkPE hf
    exact hret _ _ _ _ H locs _ ls hf hM (m_nb cd) dX2_readEnd_26
noncomputable def g_X2_readEnd (x0 : Nat) (S : ZS) (mc ms : Nat) (Pw : Int32 → ZS → Prop) : Prop := g_X2_readEnd_0 Pw x0 S mc ms
theorem c_X2_readEnd {l : Launch} {D : va_G} {y : Nat → ClassId} {x0 : Nat} {S : ZS} {kc kt : Nat} {Pw : Int32 → ZS → Prop} (hf : g_X2_readEnd x0 S kc kt Pw) : zWi l yX2_readEnd wsX2_readEnd ({ frames := 7, cells := kc, slots := kt, locals := 151 } : Room) [.ref (zh y x0)] D y S kc kt Pw :=
  z_wentI (own := RX2) (cc := cX2_readEnd) (maxL := 2) (by decide) rfl rfl (Nat.le_of_ble_eq_true rfl) ⟨rfl, rfl⟩ (fun p e s m args below meth c A0 Q H locs ls X hret hM hl => w_X2_readEnd_0 X hret hf ⟨Nat.le_refl _, Nat.le_refl _⟩ hM (lv_sub hl [0] rfl))
end
