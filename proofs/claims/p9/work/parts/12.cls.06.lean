theorem hd_X11_kindOf : yX11_kindOf.cls ≠ "java/lang/invoke/MethodHandle" ∧ yX11_kindOf.cls ≠ "java/lang/invoke/VarHandle" ∧ (parseMethodDescriptor yX11_kindOf.desc).map (fun d => d.parameters.length) = some 1 := by decide +kernel
theorem sr_X11_kindOf_286 : (RX11, 286, "PNBRQK", 9) ∈ zSR := by decide +kernel
def f_X11_kindOf_0 (x0 : Int32) (S : ZS) : Option (Int32 × ZS) :=
  m_chk (9 < zSn) (
  m_cal (f_J0_indexOf_0f7a4 9 x0 S) (fun o1 =>
  m_bnd (o1.1 + (1 : Int32)) (fun v2 =>
  some (v2, o1.2))))

set_option maxRecDepth 100000 in
set_option maxHeartbeats 4000000 in
theorem w_X11_kindOf_0 {p : Program} {l : Launch} {e : Env} {s : State} {m : MethodId} {args : Array Value} {below : List Frame} {meth : Method} {c : Code} {Q : State → Prop} {D : va_G} {y : Nat → ClassId} {A0 : Nat → Prop} {o : Int32 × ZS} (X : CallFix p m c cX11_kindOf 1 s args wsX11_kindOf RX11) (hret : zRi p l e ({ frames := 4, cells := 0, slots := 0, locals := 91 } : Room) s m args below meth c Q cX11_kindOf D y A0 .int o) {x0 : Int32} {S : ZS} {H : Heap} {locs : List Loc} {ls : Array Slot} (hf : f_X11_kindOf_0 x0 S = some o) (hM : zH D y A0 s H locs S) (hl : lv_has ls 1 [(0, .int x0)]) : W p l e ({ frames := 4, cells := 0, slots := 0, locals := 91 } : Room) s m args below meth c H locs 0 0 Q (F0 m 0 ls []) := by
  obtain ⟨hx, hb, hml, hown, hts⟩ := id X
  unfold f_X11_kindOf_0 at hf
  refine z_ldcwS X hM sr_X11_kindOf_286 dX11_kindOf_0 ?_
  refine lv_iload_n hx hb dX11_kindOf_3 rfl (lv_at hl 0 rfl) ?_
  obtain ⟨ca, hf⟩ := m_chkE hf
  obtain ⟨o1, ho, hf⟩ := m_calE hf
  refine z_callTi X hM ca (c_J0_indexOf_0f7a4 ho) gX11_kindOf_J0_indexOf_0f7a4 rfl ⟨rfl, rfl⟩ hd_J0_indexOf_0f7a4 ⟨Nat.le_of_ble_eq_true rfl, Nat.le_of_ble_eq_true rfl⟩ rfl hl.1 rfl (Nat.le_of_ble_eq_true rfl) dX11_kindOf_4 (fun H locs hM => ?_)
  clear ho
  refine lv_iconst (v := (1 : Int32)) hx hb dX11_kindOf_7 (by decide) ?_
  refine lv_iadd hx hb dX11_kindOf_8 ?_
  obtain ⟨v2, ev, hf⟩ := m_bndE hf
  refine m_top ev ?_
  clear ev
  cases hf
  exact hret H locs _ ls hM rfl dX11_kindOf_9
def f_X11_kindOf (x0 : Int32) (S : ZS) : Option (Int32 × ZS) := f_X11_kindOf_0 x0 S
theorem c_X11_kindOf {l : Launch} {D : va_G} {y : Nat → ClassId} {x0 : Int32} {S : ZS} {o : Int32 × ZS} (hf : f_X11_kindOf x0 S = some o) : zMi l yX11_kindOf wsX11_kindOf ({ frames := 4, cells := 0, slots := 0, locals := 91 } : Room) [.int x0] D y S o :=
  z_entryI (own := RX11) (cc := cX11_kindOf) (maxL := 1) (by decide) rfl rfl (Nat.le_of_ble_eq_true rfl) (fun p e s m args below meth c A0 Q H locs ls X hret hM hl => w_X11_kindOf_0 X hret hf hM (lv_sub hl [0] rfl))
theorem hd_X8_parseApart : yX8_parseApart.cls = RX8 ∧ yX8_parseApart.cls ≠ "java/lang/invoke/MethodHandle" ∧ yX8_parseApart.cls ≠ "java/lang/invoke/VarHandle" ∧ (parseMethodDescriptor yX8_parseApart.desc).map (fun d => d.parameters.length) = some 2 := by decide +kernel
theorem fl_X8_parseApart_8_1 : Cond.fieldLink RX8 21 "MoveTexts$SignReader" "row" "LMoveTexts$Row;" ∈ wsX8_parseApart := by decide +kernel
theorem fl_X8_parseApart_8_3 : Cond.fieldLink RX8 93 "MoveTexts$SignReader" "kind" "I" ∈ wsX8_parseApart := by decide +kernel
theorem fl_X8_parseApart_8_4 : Cond.fieldLink RX8 107 "MoveTexts$SignReader" "file" "I" ∈ wsX8_parseApart := by decide +kernel
theorem fl_X8_parseApart_8_5 : Cond.fieldLink RX8 110 "MoveTexts$SignReader" "rank" "I" ∈ wsX8_parseApart := by decide +kernel
theorem hw_X8_parseApart_8 : ∀ w ∈ wsX80, w ∈ wsX8_parseApart := by decide +kernel
theorem nn_X8_parseApart_113 : ((RX8, 113, yX11_isFile, "MoveTexts") ∈ zNW ∧ Cond.initialized yX11_isFile.cls ∈ wsX8_parseApart) ∧ Cond.static yX11_isFile ∈ wsX8_parseApart := by decide +kernel
theorem nn_X8_parseApart_117 : ((RX8, 117, yX11_isRank, "MoveTexts") ∈ zNW ∧ Cond.initialized yX11_isRank.cls ∈ wsX8_parseApart) ∧ Cond.static yX11_isRank ∈ wsX8_parseApart := by decide +kernel
def f_X8_parseApart_104 (t0 : Int32) (S : ZS) : Option (Int32 × ZS) :=
  m_chk (vp_nar .boolean t0 = t0) (some (t0, S))

set_option maxRecDepth 100000 in
set_option maxHeartbeats 4000000 in
theorem w_X8_parseApart_104 {p : Program} {l : Launch} {e : Env} {s : State} {m : MethodId} {args : Array Value} {below : List Frame} {meth : Method} {c : Code} {Q : State → Prop} {D : va_G} {y : Nat → ClassId} {A0 : Nat → Prop} {o : Int32 × ZS} (X : CallFix p m c cX8_parseApart 4 s args wsX8_parseApart RX8) (hret : zRi p l e ({ frames := 1, cells := 0, slots := 0, locals := 21 } : Room) s m args below meth c Q cX8_parseApart D y A0 .boolean o) {t0 : Int32} {S : ZS} {H : Heap} {locs : List Loc} {ls : Array Slot} (hf : f_X8_parseApart_104 t0 S = some o) (hM : zH D y A0 s H locs S) (hl : lv_has ls 4 []) : W p l e ({ frames := 1, cells := 0, slots := 0, locals := 21 } : Room) s m args below meth c H locs 0 0 Q (F0 m 104 ls [.int t0]) := by
  obtain ⟨hx, hb, hml, hown, hts⟩ := id X
  unfold f_X8_parseApart_104 at hf
  obtain ⟨cd, hf⟩ := m_chkE hf
  cases hf
  exact hret H locs _ ls hM (m_nb cd) dX8_parseApart_104
def f_X8_parseApart_94 (x2 : Int32) (x3 : Int32) (S : ZS) : Option (Int32 × ZS) :=
  m_if (x3 = x2) (
  f_X8_parseApart_104 (1 : Int32) S
  ) (
  f_X8_parseApart_104 (0 : Int32) S
  )

set_option maxRecDepth 100000 in
set_option maxHeartbeats 4000000 in
theorem w_X8_parseApart_94 {p : Program} {l : Launch} {e : Env} {s : State} {m : MethodId} {args : Array Value} {below : List Frame} {meth : Method} {c : Code} {Q : State → Prop} {D : va_G} {y : Nat → ClassId} {A0 : Nat → Prop} {o : Int32 × ZS} (X : CallFix p m c cX8_parseApart 4 s args wsX8_parseApart RX8) (hret : zRi p l e ({ frames := 1, cells := 0, slots := 0, locals := 21 } : Room) s m args below meth c Q cX8_parseApart D y A0 .boolean o) {x2 : Int32} {x3 : Int32} {S : ZS} {H : Heap} {locs : List Loc} {ls : Array Slot} (hf : f_X8_parseApart_94 x2 x3 S = some o) (hM : zH D y A0 s H locs S) (hl : lv_has ls 4 [(2, .int x2), (3, .int x3)]) : W p l e ({ frames := 1, cells := 0, slots := 0, locals := 21 } : Room) s m args below meth c H locs 0 0 Q (F0 m 94 ls []) := by
  obtain ⟨hx, hb, hml, hown, hts⟩ := id X
  unfold f_X8_parseApart_94 at hf
  refine lv_iload_n hx hb dX8_parseApart_94 rfl (lv_at hl 1 rfl) ?_
  refine lv_iload_n hx hb dX8_parseApart_95 rfl (lv_at hl 0 rfl) ?_
  refine lv_icmp_ne (tgt := 103) hx hb dX8_parseApart_96 (by decide) (fun cc1 => ?_) (fun cc1 => ?_)
  · replace hf := m_ifF hf cc1
    refine lv_iconst (v := (0 : Int32)) hx hb dX8_parseApart_103 (by decide) ?_
    exact w_X8_parseApart_104 (t0 := (0 : Int32)) X hret hf hM (lv_sub hl [] rfl)
  · replace hf := m_ifT hf cc1
    refine lv_iconst (v := (1 : Int32)) hx hb dX8_parseApart_99 (by decide) ?_
    refine lv_goto (tgt := 104) hx hb dX8_parseApart_100 (by decide) ?_
    exact w_X8_parseApart_104 (t0 := (1 : Int32)) X hret hf hM (lv_sub hl [] rfl)
def f_X8_parseApart_49 (x0 : Nat) (x2 : Int32) (x3 : Int32) (S : ZS) : Option (Int32 × ZS) :=
  m_if (x2 ≤ x3) (
  f_X8_parseApart_94 x2 x3 S
  ) (
  m_chk (zK S x0 = 8) (
  m_if ((zI S 3 x0) = (1 : Int32)) (
  f_X8_parseApart_94 x2 x3 S
  ) (
  m_chk (zK S x0 = 8) (
  m_cal (zP S 1 x0) (fun b1 =>
  m_chk (zK S b1 = 6) (
  m_cal (f_X6_at b1 x3 S) (fun o2 =>
  m_cal (f_X11_isRank o2.1 o2.2) (fun o3 =>
  m_if (o3.1 = 0) (
  f_X8_parseApart_94 x2 x3 o3.2
  ) (
  m_chk (zK o3.2 x0 = 8) (
  m_cal (zP o3.2 1 x0) (fun b4 =>
  m_chk (zK o3.2 b4 = 6) (
  m_cal (f_X6_at b4 x3 o3.2) (fun o5 =>
  m_bnd (o5.1 - (49 : Int32)) (fun v6 =>
  m_chk (zK o5.2 x0 = 8) (
  m_bnd (zsI o5.2 5 x0 v6) (fun S7 =>
  m_bnd (x3 + (1 : Int32)) (fun v8 =>
  f_X8_parseApart_94 x2 v8 S7))))))))
  ))))))
  ))
  )

set_option maxRecDepth 100000 in
set_option maxHeartbeats 4000000 in
theorem w_X8_parseApart_49 {p : Program} {l : Launch} {e : Env} {s : State} {m : MethodId} {args : Array Value} {below : List Frame} {meth : Method} {c : Code} {Q : State → Prop} {D : va_G} {y : Nat → ClassId} {A0 : Nat → Prop} {o : Int32 × ZS} (X : CallFix p m c cX8_parseApart 4 s args wsX8_parseApart RX8) (hret : zRi p l e ({ frames := 1, cells := 0, slots := 0, locals := 21 } : Room) s m args below meth c Q cX8_parseApart D y A0 .boolean o) {x0 : Nat} {x2 : Int32} {x3 : Int32} {S : ZS} {H : Heap} {locs : List Loc} {ls : Array Slot} (hf : f_X8_parseApart_49 x0 x2 x3 S = some o) (hM : zH D y A0 s H locs S) (hl : lv_has ls 4 [(0, .ref (zh y x0)), (2, .int x2), (3, .int x3)]) : W p l e ({ frames := 1, cells := 0, slots := 0, locals := 21 } : Room) s m args below meth c H locs 0 0 Q (F0 m 49 ls []) := by
  obtain ⟨hx, hb, hml, hown, hts⟩ := id X
  unfold f_X8_parseApart_49 at hf
  refine lv_iload_n hx hb dX8_parseApart_49 rfl (lv_at hl 2 rfl) ?_
  refine lv_iload_n hx hb dX8_parseApart_50 rfl (lv_at hl 1 rfl) ?_
  refine lv_icmp_ge (tgt := 94) hx hb dX8_parseApart_51 (by decide) (fun cc1 => ?_) (fun cc1 => ?_)
  · replace hf := m_ifT hf cc1
    exact w_X8_parseApart_94 (x2 := x2) (x3 := x3) X hret hf hM (lv_sub hl [1, 2] rfl)
  · replace hf := m_ifF hf cc1
    refine lv_aload_n hx hb dX8_parseApart_54 rfl (lv_at hl 0 rfl) ?_
    obtain ⟨ca, hf⟩ := m_chkE hf
    replace ca := z_in hM (by decide) ca
    refine z_get (k := 8) (j := 3) (C := RX8) (T := TX8) (N := 12) (fl := zf_8) (v := .int (zI S 3 x0)) X hw_X8_parseApart_8 hM rfl zc_8 ca (by decide) fl_X8_parseApart_8_3 rfl dX8_parseApart_55 ?_
    clear ca
    refine lv_iconst (v := (1 : Int32)) hx hb dX8_parseApart_58 (by decide) ?_
    refine lv_icmp_eq (tgt := 94) hx hb dX8_parseApart_59 (by decide) (fun cc1 => ?_) (fun cc1 => ?_)
    · replace hf := m_ifT hf cc1
      exact w_X8_parseApart_94 (x2 := x2) (x3 := x3) X hret hf hM (lv_sub hl [1, 2] rfl)
    · replace hf := m_ifF hf cc1
      refine lv_aload_n hx hb dX8_parseApart_62 rfl (lv_at hl 0 rfl) ?_
      obtain ⟨ca, hf⟩ := m_chkE hf
      replace ca := z_in hM (by decide) ca
      refine z_get (k := 8) (j := 1) (C := RX8) (T := TX8) (N := 12) (fl := zf_8) (v := va_rf ((zP S 1 x0).map (zh y))) X hw_X8_parseApart_8 hM rfl zc_8 ca (by decide) fl_X8_parseApart_8_1 rfl dX8_parseApart_63 ?_
      clear ca
      obtain ⟨b1, hb9, hf⟩ := m_calE hf
      refine z_topr hb9 ?_
      clear hb9
      refine lv_iload_n hx hb dX8_parseApart_66 rfl (lv_at hl 2 rfl) ?_
      obtain ⟨ca, hf⟩ := m_chkE hf
      replace ca := z_in hM (by decide) ca
      obtain ⟨o2, ho, hf⟩ := m_calE hf
      refine z_callVi (k := 6) (C := RX6) (T := TX6) (N := 2) (fl := zf_6) X hM rfl zc_6 ca (c_X6_at ho) gX8_parseApart_X6_at rfl ⟨rfl, rfl⟩ hd_X6_at ⟨Nat.le_of_ble_eq_true rfl, Nat.le_of_ble_eq_true rfl⟩ rfl hl.1 rfl (Nat.le_of_ble_eq_true rfl) dX8_parseApart_67 (fun H locs hM => ?_)
      clear ho
      obtain ⟨o3, ho, hf⟩ := m_calE hf
      refine z_callSNi X hM (c_X11_isRank ho) gX8_parseApart_X11_isRank_n117 nn_X8_parseApart_117.1.1 nn_X8_parseApart_117.1.2 nn_X8_parseApart_117.2 rfl ⟨rfl, rfl⟩ hd_X11_isRank ⟨Nat.le_of_ble_eq_true rfl, Nat.le_of_ble_eq_true rfl⟩ rfl hl.1 rfl (Nat.le_of_ble_eq_true rfl) dX8_parseApart_70 (fun H locs hM => ?_)
      clear ho
      refine lv_if_eq (tgt := 94) hx hb dX8_parseApart_73 (by decide) (fun cc1 => ?_) (fun cc1 => ?_)
      · replace hf := m_ifT hf cc1
        exact w_X8_parseApart_94 (x2 := x2) (x3 := x3) X hret hf hM (lv_sub hl [1, 2] rfl)
      · replace hf := m_ifF hf cc1
        refine lv_aload_n hx hb dX8_parseApart_76 rfl (lv_at hl 0 rfl) ?_
        refine lv_aload_n hx hb dX8_parseApart_77 rfl (lv_at hl 0 rfl) ?_
        obtain ⟨ca, hf⟩ := m_chkE hf
        replace ca := z_in hM (by decide) ca
        refine z_get (k := 8) (j := 1) (C := RX8) (T := TX8) (N := 12) (fl := zf_8) (v := va_rf ((zP o3.2 1 x0).map (zh y))) X hw_X8_parseApart_8 hM rfl zc_8 ca (by decide) fl_X8_parseApart_8_1 rfl dX8_parseApart_78 ?_
        clear ca
        obtain ⟨b4, hb9, hf⟩ := m_calE hf
        refine z_topr hb9 ?_
        clear hb9
        refine lv_iload_n hx hb dX8_parseApart_81 rfl (lv_at hl 2 rfl) ?_
        obtain ⟨ca, hf⟩ := m_chkE hf
        replace ca := z_in hM (by decide) ca
        obtain ⟨o5, ho, hf⟩ := m_calE hf
        refine z_callVi (k := 6) (C := RX6) (T := TX6) (N := 2) (fl := zf_6) X hM rfl zc_6 ca (c_X6_at ho) gX8_parseApart_X6_at rfl ⟨rfl, rfl⟩ hd_X6_at ⟨Nat.le_of_ble_eq_true rfl, Nat.le_of_ble_eq_true rfl⟩ rfl hl.1 rfl (Nat.le_of_ble_eq_true rfl) dX8_parseApart_82 (fun H locs hM => ?_)
        clear ho
        refine lv_bipush (v := (49 : Int32)) hx hb dX8_parseApart_85 (by decide) ?_
        refine lv_isub hx hb dX8_parseApart_87 ?_
        obtain ⟨v6, ev, hf⟩ := m_bndE hf
        refine m_top ev ?_
        clear ev
        obtain ⟨ca, hf⟩ := m_chkE hf
        replace ca := z_in hM (by decide) ca
        refine z_putI (k := 8) (j := 5) (C := RX8) (T := TX8) (N := 12) (fl := zf_8) (ty := .int) X hw_X8_parseApart_8 tyX8_ok nmX8 hM rfl zc_8 ca (by decide) fl_X8_parseApart_8_5 rfl (tyX8_ok 5 (by decide)) rfl rfl zi_8_5 (Nat.le_of_ble_eq_true rfl) dX8_parseApart_88 (fun H locs hM => ?_)
        clear ca
        obtain ⟨S7, ev, hf⟩ := m_bndE hf
        replace hM := z_hS hM ev
        clear ev
        obtain ⟨v8, ev, hf⟩ := m_bndE hf
        refine lv_iinc (v := v8) (lv' := [(3, .int v8), (0, .ref (zh y x0)), (2, .int x2)]) hx hb dX8_parseApart_91 hl (k := 2) rfl (by rw [ev]; rfl) (by decide) rfl (fun ls hl => ?_)
        clear ev
        exact w_X8_parseApart_94 (x2 := x2) (x3 := v8) X hret hf hM (lv_sub hl [2, 0] rfl)
def f_X8_parseApart_0 (x0 : Nat) (x1 : Int32) (x2 : Int32) (S : ZS) : Option (Int32 × ZS) :=
  m_chk (zK S x0 = 8) (
  m_bnd (zsI S 4 x0 (-1 : Int32)) (fun S1 =>
  m_chk (zK S1 x0 = 8) (
  m_bnd (zsI S1 5 x0 (-1 : Int32)) (fun S2 =>
  m_if (x2 ≤ x1) (
  f_X8_parseApart_49 x0 x2 x1 S2
  ) (
  m_chk (zK S2 x0 = 8) (
  m_cal (zP S2 1 x0) (fun b3 =>
  m_chk (zK S2 b3 = 6) (
  m_cal (f_X6_at b3 x1 S2) (fun o4 =>
  m_cal (f_X11_isFile o4.1 o4.2) (fun o5 =>
  m_if (o5.1 = 0) (
  f_X8_parseApart_49 x0 x2 x1 o5.2
  ) (
  m_chk (zK o5.2 x0 = 8) (
  m_cal (zP o5.2 1 x0) (fun b6 =>
  m_chk (zK o5.2 b6 = 6) (
  m_cal (f_X6_at b6 x1 o5.2) (fun o7 =>
  m_bnd (o7.1 - (97 : Int32)) (fun v8 =>
  m_chk (zK o7.2 x0 = 8) (
  m_bnd (zsI o7.2 4 x0 v8) (fun S9 =>
  m_bnd (x1 + (1 : Int32)) (fun v10 =>
  f_X8_parseApart_49 x0 x2 v10 S9))))))))
  ))))))
  )))))

set_option maxRecDepth 100000 in
set_option maxHeartbeats 4000000 in
theorem w_X8_parseApart_0 {p : Program} {l : Launch} {e : Env} {s : State} {m : MethodId} {args : Array Value} {below : List Frame} {meth : Method} {c : Code} {Q : State → Prop} {D : va_G} {y : Nat → ClassId} {A0 : Nat → Prop} {o : Int32 × ZS} (X : CallFix p m c cX8_parseApart 4 s args wsX8_parseApart RX8) (hret : zRi p l e ({ frames := 1, cells := 0, slots := 0, locals := 21 } : Room) s m args below meth c Q cX8_parseApart D y A0 .boolean o) {x0 : Nat} {x1 : Int32} {x2 : Int32} {S : ZS} {H : Heap} {locs : List Loc} {ls : Array Slot} (hf : f_X8_parseApart_0 x0 x1 x2 S = some o) (hM : zH D y A0 s H locs S) (hl : lv_has ls 4 [(0, .ref (zh y x0)), (1, .int x1), (2, .int x2)]) : W p l e ({ frames := 1, cells := 0, slots := 0, locals := 21 } : Room) s m args below meth c H locs 0 0 Q (F0 m 0 ls []) := by
  obtain ⟨hx, hb, hml, hown, hts⟩ := id X
  unfold f_X8_parseApart_0 at hf
  refine lv_iload_n hx hb dX8_parseApart_0 rfl (lv_at hl 1 rfl) ?_
  refine lv_istore_n (lv' := [(3, .int x1), (0, .ref (zh y x0)), (1, .int x1), (2, .int x2)]) hx hb dX8_parseApart_1 rfl hl (by decide) rfl (fun ls hl => ?_)
  refine lv_aload_n hx hb dX8_parseApart_2 rfl (lv_at hl 1 rfl) ?_
  refine lv_iconst (v := (-1 : Int32)) hx hb dX8_parseApart_3 (by decide) ?_
  obtain ⟨ca, hf⟩ := m_chkE hf
  replace ca := z_in hM (by decide) ca
  refine z_putI (k := 8) (j := 4) (C := RX8) (T := TX8) (N := 12) (fl := zf_8) (ty := .int) X hw_X8_parseApart_8 tyX8_ok nmX8 hM rfl zc_8 ca (by decide) fl_X8_parseApart_8_4 rfl (tyX8_ok 4 (by decide)) rfl rfl zi_8_4 (Nat.le_of_ble_eq_true rfl) dX8_parseApart_4 (fun H locs hM => ?_)
  clear ca
  obtain ⟨S1, ev, hf⟩ := m_bndE hf
  replace hM := z_hS hM ev
  clear ev
  refine lv_aload_n hx hb dX8_parseApart_7 rfl (lv_at hl 1 rfl) ?_
  refine lv_iconst (v := (-1 : Int32)) hx hb dX8_parseApart_8 (by decide) ?_
  obtain ⟨ca, hf⟩ := m_chkE hf
  replace ca := z_in hM (by decide) ca
  refine z_putI (k := 8) (j := 5) (C := RX8) (T := TX8) (N := 12) (fl := zf_8) (ty := .int) X hw_X8_parseApart_8 tyX8_ok nmX8 hM rfl zc_8 ca (by decide) fl_X8_parseApart_8_5 rfl (tyX8_ok 5 (by decide)) rfl rfl zi_8_5 (Nat.le_of_ble_eq_true rfl) dX8_parseApart_9 (fun H locs hM => ?_)
  clear ca
  obtain ⟨S2, ev, hf⟩ := m_bndE hf
  replace hM := z_hS hM ev
  clear ev
  refine lv_iload_n hx hb dX8_parseApart_12 rfl (lv_at hl 0 rfl) ?_
  refine lv_iload_n hx hb dX8_parseApart_13 rfl (lv_at hl 3 rfl) ?_
  refine lv_icmp_ge (tgt := 49) hx hb dX8_parseApart_14 (by decide) (fun cc1 => ?_) (fun cc1 => ?_)
  · replace hf := m_ifT hf cc1
    exact w_X8_parseApart_49 (x0 := x0) (x2 := x2) (x3 := x1) X hret hf hM (lv_sub hl [1, 3, 0] rfl)
  · replace hf := m_ifF hf cc1
    refine lv_aload_n hx hb dX8_parseApart_17 rfl (lv_at hl 1 rfl) ?_
    obtain ⟨ca, hf⟩ := m_chkE hf
    replace ca := z_in hM (by decide) ca
    refine z_get (k := 8) (j := 1) (C := RX8) (T := TX8) (N := 12) (fl := zf_8) (v := va_rf ((zP S2 1 x0).map (zh y))) X hw_X8_parseApart_8 hM rfl zc_8 ca (by decide) fl_X8_parseApart_8_1 rfl dX8_parseApart_18 ?_
    clear ca
    obtain ⟨b3, hb9, hf⟩ := m_calE hf
    refine z_topr hb9 ?_
    clear hb9
    refine lv_iload_n hx hb dX8_parseApart_21 rfl (lv_at hl 0 rfl) ?_
    obtain ⟨ca, hf⟩ := m_chkE hf
    replace ca := z_in hM (by decide) ca
    obtain ⟨o4, ho, hf⟩ := m_calE hf
    refine z_callVi (k := 6) (C := RX6) (T := TX6) (N := 2) (fl := zf_6) X hM rfl zc_6 ca (c_X6_at ho) gX8_parseApart_X6_at rfl ⟨rfl, rfl⟩ hd_X6_at ⟨Nat.le_of_ble_eq_true rfl, Nat.le_of_ble_eq_true rfl⟩ rfl hl.1 rfl (Nat.le_of_ble_eq_true rfl) dX8_parseApart_22 (fun H locs hM => ?_)
    clear ho
    obtain ⟨o5, ho, hf⟩ := m_calE hf
    refine z_callSNi X hM (c_X11_isFile ho) gX8_parseApart_X11_isFile_n113 nn_X8_parseApart_113.1.1 nn_X8_parseApart_113.1.2 nn_X8_parseApart_113.2 rfl ⟨rfl, rfl⟩ hd_X11_isFile ⟨Nat.le_of_ble_eq_true rfl, Nat.le_of_ble_eq_true rfl⟩ rfl hl.1 rfl (Nat.le_of_ble_eq_true rfl) dX8_parseApart_25 (fun H locs hM => ?_)
    clear ho
    refine lv_if_eq (tgt := 49) hx hb dX8_parseApart_28 (by decide) (fun cc1 => ?_) (fun cc1 => ?_)
    · replace hf := m_ifT hf cc1
      exact w_X8_parseApart_49 (x0 := x0) (x2 := x2) (x3 := x1) X hret hf hM (lv_sub hl [1, 3, 0] rfl)
    · replace hf := m_ifF hf cc1
      refine lv_aload_n hx hb dX8_parseApart_31 rfl (lv_at hl 1 rfl) ?_
      refine lv_aload_n hx hb dX8_parseApart_32 rfl (lv_at hl 1 rfl) ?_
      obtain ⟨ca, hf⟩ := m_chkE hf
      replace ca := z_in hM (by decide) ca
      refine z_get (k := 8) (j := 1) (C := RX8) (T := TX8) (N := 12) (fl := zf_8) (v := va_rf ((zP o5.2 1 x0).map (zh y))) X hw_X8_parseApart_8 hM rfl zc_8 ca (by decide) fl_X8_parseApart_8_1 rfl dX8_parseApart_33 ?_
      clear ca
      obtain ⟨b6, hb9, hf⟩ := m_calE hf
      refine z_topr hb9 ?_
      clear hb9
      refine lv_iload_n hx hb dX8_parseApart_36 rfl (lv_at hl 0 rfl) ?_
      obtain ⟨ca, hf⟩ := m_chkE hf
      replace ca := z_in hM (by decide) ca
      obtain ⟨o7, ho, hf⟩ := m_calE hf
      refine z_callVi (k := 6) (C := RX6) (T := TX6) (N := 2) (fl := zf_6) X hM rfl zc_6 ca (c_X6_at ho) gX8_parseApart_X6_at rfl ⟨rfl, rfl⟩ hd_X6_at ⟨Nat.le_of_ble_eq_true rfl, Nat.le_of_ble_eq_true rfl⟩ rfl hl.1 rfl (Nat.le_of_ble_eq_true rfl) dX8_parseApart_37 (fun H locs hM => ?_)
      clear ho
      refine lv_bipush (v := (97 : Int32)) hx hb dX8_parseApart_40 (by decide) ?_
      refine lv_isub hx hb dX8_parseApart_42 ?_
      obtain ⟨v8, ev, hf⟩ := m_bndE hf
      refine m_top ev ?_
      clear ev
      obtain ⟨ca, hf⟩ := m_chkE hf
      replace ca := z_in hM (by decide) ca
      refine z_putI (k := 8) (j := 4) (C := RX8) (T := TX8) (N := 12) (fl := zf_8) (ty := .int) X hw_X8_parseApart_8 tyX8_ok nmX8 hM rfl zc_8 ca (by decide) fl_X8_parseApart_8_4 rfl (tyX8_ok 4 (by decide)) rfl rfl zi_8_4 (Nat.le_of_ble_eq_true rfl) dX8_parseApart_43 (fun H locs hM => ?_)
      clear ca
      obtain ⟨S9, ev, hf⟩ := m_bndE hf
      replace hM := z_hS hM ev
      clear ev
      obtain ⟨v10, ev, hf⟩ := m_bndE hf
      refine lv_iinc (v := v10) (lv' := [(3, .int v10), (0, .ref (zh y x0)), (1, .int x1), (2, .int x2)]) hx hb dX8_parseApart_46 hl (k := 0) rfl (by rw [ev]; rfl) (by decide) rfl (fun ls hl => ?_)
      clear ev
      exact w_X8_parseApart_49 (x0 := x0) (x2 := x2) (x3 := v10) X hret hf hM (lv_sub hl [1, 3, 0] rfl)
def f_X8_parseApart (x0 : Nat) (x1 : Int32) (x2 : Int32) (S : ZS) : Option (Int32 × ZS) := f_X8_parseApart_0 x0 x1 x2 S
theorem c_X8_parseApart {l : Launch} {D : va_G} {y : Nat → ClassId} {x0 : Nat} {x1 : Int32} {x2 : Int32} {S : ZS} {o : Int32 × ZS} (hf : f_X8_parseApart x0 x1 x2 S = some o) : zMi l yX8_parseApart wsX8_parseApart ({ frames := 1, cells := 0, slots := 0, locals := 21 } : Room) [.ref (zh y x0), .int x1, .int x2] D y S o :=
  z_entryI (own := RX8) (cc := cX8_parseApart) (maxL := 4) (by decide) rfl rfl (Nat.le_of_ble_eq_true rfl) (fun p e s m args below meth c A0 Q H locs ls X hret hM hl => w_X8_parseApart_0 X hret hf hM (lv_sub hl [0, 1, 2] rfl))
theorem hd_X8_parse : yX8_parse.cls = RX8 ∧ yX8_parse.cls ≠ "java/lang/invoke/MethodHandle" ∧ yX8_parse.cls ≠ "java/lang/invoke/VarHandle" ∧ (parseMethodDescriptor yX8_parse.desc).map (fun d => d.parameters.length) = some 0 := by decide +kernel
theorem fl_X8_parse_8_1 : Cond.fieldLink RX8 21 "MoveTexts$SignReader" "row" "LMoveTexts$Row;" ∈ wsX8_parse := by decide +kernel
theorem fl_X8_parse_8_2 : Cond.fieldLink RX8 86 "MoveTexts$SignReader" "castling" "I" ∈ wsX8_parse := by decide +kernel
theorem fl_X8_parse_8_3 : Cond.fieldLink RX8 93 "MoveTexts$SignReader" "kind" "I" ∈ wsX8_parse := by decide +kernel
theorem fl_X8_parse_8_6 : Cond.fieldLink RX8 100 "MoveTexts$SignReader" "to" "I" ∈ wsX8_parse := by decide +kernel
theorem fl_X8_parse_8_7 : Cond.fieldLink RX8 75 "MoveTexts$SignReader" "becomes" "I" ∈ wsX8_parse := by decide +kernel
theorem fl_X8_parse_8_8 : Cond.fieldLink RX8 56 "MoveTexts$SignReader" "taking" "I" ∈ wsX8_parse := by decide +kernel
theorem hw_X8_parse_8 : ∀ w ∈ wsX80, w ∈ wsX8_parse := by decide +kernel
theorem nn_X8_parse_89 : ((RX8, 89, yX11_kindOf, "MoveTexts") ∈ zNW ∧ Cond.initialized yX11_kindOf.cls ∈ wsX8_parse) ∧ Cond.static yX11_kindOf ∈ wsX8_parse := by decide +kernel
theorem nn_X8_parse_96 : ((RX8, 96, yX11_squareOf, "MoveTexts") ∈ zNW ∧ Cond.initialized yX11_squareOf.cls ∈ wsX8_parse) ∧ Cond.static yX11_squareOf ∈ wsX8_parse := by decide +kernel
theorem sr_X8_parse_78 : (RX8, 78, "O-O", 7) ∈ zSR := by decide +kernel
theorem sr_X8_parse_84 : (RX8, 84, "O-O-O", 8) ∈ zSR := by decide +kernel
def f_X8_parse_232 (x0 : Nat) (x1 : Int32) (x2 : Int32) (t0 : Int32) (t1 : Nat) (S : ZS) : Option (Int32 × ZS) :=
  m_chk (zK S t1 = 8) (
  m_bnd (zsI S 8 t1 t0) (fun S1 =>
  m_chk (zK S1 x0 = 8) (
  m_bnd (x2 - (zI S1 8 x0)) (fun v2 =>
  m_chk (zK S1 x0 = 8) (
  m_cal (f_X8_parseApart x0 x1 v2 S1) (fun o3 =>
  m_chk (vp_nar .boolean o3.1 = o3.1) (some (o3.1, o3.2))))))))

set_option maxRecDepth 100000 in
set_option maxHeartbeats 4000000 in
theorem w_X8_parse_232 {p : Program} {l : Launch} {e : Env} {s : State} {m : MethodId} {args : Array Value} {below : List Frame} {meth : Method} {c : Code} {Q : State → Prop} {D : va_G} {y : Nat → ClassId} {A0 : Nat → Prop} {o : Int32 × ZS} (X : CallFix p m c cX8_parse 3 s args wsX8_parse RX8) (hret : zRi p l e ({ frames := 6, cells := 0, slots := 0, locals := 129 } : Room) s m args below meth c Q cX8_parse D y A0 .boolean o) {x0 : Nat} {x1 : Int32} {x2 : Int32} {t0 : Int32} {t1 : Nat} {S : ZS} {H : Heap} {locs : List Loc} {ls : Array Slot} (hf : f_X8_parse_232 x0 x1 x2 t0 t1 S = some o) (hM : zH D y A0 s H locs S) (hl : lv_has ls 3 [(0, .ref (zh y x0)), (1, .int x1), (2, .int x2)]) : W p l e ({ frames := 6, cells := 0, slots := 0, locals := 129 } : Room) s m args below meth c H locs 0 0 Q (F0 m 232 ls [.int t0, .ref (zh y t1)]) := by
  obtain ⟨hx, hb, hml, hown, hts⟩ := id X
  unfold f_X8_parse_232 at hf
  obtain ⟨ca, hf⟩ := m_chkE hf
  replace ca := z_in hM (by decide) ca
  refine z_putI (k := 8) (j := 8) (C := RX8) (T := TX8) (N := 12) (fl := zf_8) (ty := .int) X hw_X8_parse_8 tyX8_ok nmX8 hM rfl zc_8 ca (by decide) fl_X8_parse_8_8 rfl (tyX8_ok 8 (by decide)) rfl rfl zi_8_8 (Nat.le_of_ble_eq_true rfl) dX8_parse_232 (fun H locs hM => ?_)
  clear ca
  obtain ⟨S1, ev, hf⟩ := m_bndE hf
  replace hM := z_hS hM ev
  clear ev
  refine lv_aload_n hx hb dX8_parse_235 rfl (lv_at hl 0 rfl) ?_
  refine lv_iload_n hx hb dX8_parse_236 rfl (lv_at hl 1 rfl) ?_
  refine lv_iload_n hx hb dX8_parse_237 rfl (lv_at hl 2 rfl) ?_
  refine lv_aload_n hx hb dX8_parse_238 rfl (lv_at hl 0 rfl) ?_
  obtain ⟨ca, hf⟩ := m_chkE hf
  replace ca := z_in hM (by decide) ca
  refine z_get (k := 8) (j := 8) (C := RX8) (T := TX8) (N := 12) (fl := zf_8) (v := .int (zI S1 8 x0)) X hw_X8_parse_8 hM rfl zc_8 ca (by decide) fl_X8_parse_8_8 rfl dX8_parse_239 ?_
  clear ca
  refine lv_isub hx hb dX8_parse_242 ?_
  obtain ⟨v2, ev, hf⟩ := m_bndE hf
  refine m_top ev ?_
  clear ev
  obtain ⟨ca, hf⟩ := m_chkE hf
  replace ca := z_in hM (by decide) ca
  obtain ⟨o3, ho, hf⟩ := m_calE hf
  refine z_callVi (k := 8) (C := RX8) (T := TX8) (N := 12) (fl := zf_8) X hM rfl zc_8 ca (c_X8_parseApart ho) gX8_parse_X8_parseApart rfl ⟨rfl, rfl⟩ hd_X8_parseApart ⟨Nat.le_of_ble_eq_true rfl, Nat.le_of_ble_eq_true rfl⟩ rfl hl.1 rfl (Nat.le_of_ble_eq_true rfl) dX8_parse_243 (fun H locs hM => ?_)
  clear ho
  obtain ⟨cd, hf⟩ := m_chkE hf
  cases hf
  exact hret H locs _ ls hM (m_nb cd) dX8_parse_246
def f_X8_parse_231 (x0 : Nat) (x1 : Int32) (x2 : Int32) (t0 : Nat) (S : ZS) : Option (Int32 × ZS) :=
  f_X8_parse_232 x0 x1 x2 (0 : Int32) t0 S

set_option maxRecDepth 100000 in
set_option maxHeartbeats 4000000 in
theorem w_X8_parse_231 {p : Program} {l : Launch} {e : Env} {s : State} {m : MethodId} {args : Array Value} {below : List Frame} {meth : Method} {c : Code} {Q : State → Prop} {D : va_G} {y : Nat → ClassId} {A0 : Nat → Prop} {o : Int32 × ZS} (X : CallFix p m c cX8_parse 3 s args wsX8_parse RX8) (hret : zRi p l e ({ frames := 6, cells := 0, slots := 0, locals := 129 } : Room) s m args below meth c Q cX8_parse D y A0 .boolean o) {x0 : Nat} {x1 : Int32} {x2 : Int32} {t0 : Nat} {S : ZS} {H : Heap} {locs : List Loc} {ls : Array Slot} (hf : f_X8_parse_231 x0 x1 x2 t0 S = some o) (hM : zH D y A0 s H locs S) (hl : lv_has ls 3 [(0, .ref (zh y x0)), (1, .int x1), (2, .int x2)]) : W p l e ({ frames := 6, cells := 0, slots := 0, locals := 129 } : Room) s m args below meth c H locs 0 0 Q (F0 m 231 ls [.ref (zh y t0)]) := by
  obtain ⟨hx, hb, hml, hown, hts⟩ := id X
  unfold f_X8_parse_231 at hf
  refine lv_iconst (v := (0 : Int32)) hx hb dX8_parse_231 (by decide) ?_
  exact w_X8_parse_232 (x0 := x0) (x1 := x1) (x2 := x2) (t0 := (0 : Int32)) (t1 := t0) X hret hf hM (lv_sub hl [0, 1, 2] rfl)
def f_X8_parse_166 (x0 : Nat) (x1 : Int32) (x2 : Int32) (S : ZS) : Option (Int32 × ZS) :=
  m_chk (zK S x0 = 8) (
  m_cal (zP S 1 x0) (fun b1 =>
  m_bnd (x2 - (2 : Int32)) (fun v2 =>
  m_chk (zK S b1 = 6) (
  m_cal (f_X6_at b1 v2 S) (fun o3 =>
  m_chk (zK o3.2 x0 = 8) (
  m_cal (zP o3.2 1 x0) (fun b4 =>
  m_bnd (x2 - (1 : Int32)) (fun v5 =>
  m_chk (zK o3.2 b4 = 6) (
  m_cal (f_X6_at b4 v5 o3.2) (fun o6 =>
  m_cal (f_X11_squareOf o3.1 o6.1 o6.2) (fun o7 =>
  m_chk (zK o7.2 x0 = 8) (
  m_bnd (zsI o7.2 6 x0 o7.1) (fun S8 =>
  m_bnd (x2 + (-2 : Int32)) (fun v9 =>
  m_chk (zK S8 x0 = 8) (
  m_if ((zI S8 6 x0) = (-1 : Int32)) (
  m_chk (vp_nar .boolean (0 : Int32) = (0 : Int32)) (some ((0 : Int32), S8))
  ) (
  m_if (v9 ≤ x1) (
  f_X8_parse_231 x0 x1 v9 x0 S8
  ) (
  m_chk (zK S8 x0 = 8) (
  m_cal (zP S8 1 x0) (fun b10 =>
  m_bnd (v9 - (1 : Int32)) (fun v11 =>
  m_chk (zK S8 b10 = 6) (
  m_cal (f_X6_at b10 v11 S8) (fun o12 =>
  m_if (o12.1 = (120 : Int32)) (
  f_X8_parse_232 x0 x1 v9 (1 : Int32) x0 o12.2
  ) (
  f_X8_parse_231 x0 x1 v9 x0 o12.2
  ))))))
  )
  ))))))))))))))))

set_option maxRecDepth 100000 in
set_option maxHeartbeats 4000000 in
theorem w_X8_parse_166 {p : Program} {l : Launch} {e : Env} {s : State} {m : MethodId} {args : Array Value} {below : List Frame} {meth : Method} {c : Code} {Q : State → Prop} {D : va_G} {y : Nat → ClassId} {A0 : Nat → Prop} {o : Int32 × ZS} (X : CallFix p m c cX8_parse 3 s args wsX8_parse RX8) (hret : zRi p l e ({ frames := 6, cells := 0, slots := 0, locals := 129 } : Room) s m args below meth c Q cX8_parse D y A0 .boolean o) {x0 : Nat} {x1 : Int32} {x2 : Int32} {S : ZS} {H : Heap} {locs : List Loc} {ls : Array Slot} (hf : f_X8_parse_166 x0 x1 x2 S = some o) (hM : zH D y A0 s H locs S) (hl : lv_has ls 3 [(0, .ref (zh y x0)), (1, .int x1), (2, .int x2)]) : W p l e ({ frames := 6, cells := 0, slots := 0, locals := 129 } : Room) s m args below meth c H locs 0 0 Q (F0 m 166 ls []) := by
  obtain ⟨hx, hb, hml, hown, hts⟩ := id X
  unfold f_X8_parse_166 at hf
  refine lv_aload_n hx hb dX8_parse_166 rfl (lv_at hl 0 rfl) ?_
  refine lv_aload_n hx hb dX8_parse_167 rfl (lv_at hl 0 rfl) ?_
  obtain ⟨ca, hf⟩ := m_chkE hf
  replace ca := z_in hM (by decide) ca
  refine z_get (k := 8) (j := 1) (C := RX8) (T := TX8) (N := 12) (fl := zf_8) (v := va_rf ((zP S 1 x0).map (zh y))) X hw_X8_parse_8 hM rfl zc_8 ca (by decide) fl_X8_parse_8_1 rfl dX8_parse_168 ?_
  clear ca
  obtain ⟨b1, hb9, hf⟩ := m_calE hf
  refine z_topr hb9 ?_
  clear hb9
  refine lv_iload_n hx hb dX8_parse_171 rfl (lv_at hl 2 rfl) ?_
  refine lv_iconst (v := (2 : Int32)) hx hb dX8_parse_172 (by decide) ?_
  refine lv_isub hx hb dX8_parse_173 ?_
  obtain ⟨v2, ev, hf⟩ := m_bndE hf
  refine m_top ev ?_
  clear ev
  obtain ⟨ca, hf⟩ := m_chkE hf
  replace ca := z_in hM (by decide) ca
  obtain ⟨o3, ho, hf⟩ := m_calE hf
  refine z_callVi (k := 6) (C := RX6) (T := TX6) (N := 2) (fl := zf_6) X hM rfl zc_6 ca (c_X6_at ho) gX8_parse_X6_at rfl ⟨rfl, rfl⟩ hd_X6_at ⟨Nat.le_of_ble_eq_true rfl, Nat.le_of_ble_eq_true rfl⟩ rfl hl.1 rfl (Nat.le_of_ble_eq_true rfl) dX8_parse_174 (fun H locs hM => ?_)
  clear ho
  refine lv_aload_n hx hb dX8_parse_177 rfl (lv_at hl 0 rfl) ?_
  obtain ⟨ca, hf⟩ := m_chkE hf
  replace ca := z_in hM (by decide) ca
  refine z_get (k := 8) (j := 1) (C := RX8) (T := TX8) (N := 12) (fl := zf_8) (v := va_rf ((zP o3.2 1 x0).map (zh y))) X hw_X8_parse_8 hM rfl zc_8 ca (by decide) fl_X8_parse_8_1 rfl dX8_parse_178 ?_
  clear ca
  obtain ⟨b4, hb9, hf⟩ := m_calE hf
  refine z_topr hb9 ?_
  clear hb9
  refine lv_iload_n hx hb dX8_parse_181 rfl (lv_at hl 2 rfl) ?_
  refine lv_iconst (v := (1 : Int32)) hx hb dX8_parse_182 (by decide) ?_
  refine lv_isub hx hb dX8_parse_183 ?_
  obtain ⟨v5, ev, hf⟩ := m_bndE hf
  refine m_top ev ?_
  clear ev
  obtain ⟨ca, hf⟩ := m_chkE hf
  replace ca := z_in hM (by decide) ca
  obtain ⟨o6, ho, hf⟩ := m_calE hf
  refine z_callVi (k := 6) (C := RX6) (T := TX6) (N := 2) (fl := zf_6) X hM rfl zc_6 ca (c_X6_at ho) gX8_parse_X6_at rfl ⟨rfl, rfl⟩ hd_X6_at ⟨Nat.le_of_ble_eq_true rfl, Nat.le_of_ble_eq_true rfl⟩ rfl hl.1 rfl (Nat.le_of_ble_eq_true rfl) dX8_parse_184 (fun H locs hM => ?_)
  clear ho
  obtain ⟨o7, ho, hf⟩ := m_calE hf
  refine z_callSNi X hM (c_X11_squareOf ho) gX8_parse_X11_squareOf_n96 nn_X8_parse_96.1.1 nn_X8_parse_96.1.2 nn_X8_parse_96.2 rfl ⟨rfl, rfl⟩ hd_X11_squareOf ⟨Nat.le_of_ble_eq_true rfl, Nat.le_of_ble_eq_true rfl⟩ rfl hl.1 rfl (Nat.le_of_ble_eq_true rfl) dX8_parse_187 (fun H locs hM => ?_)
  clear ho
  obtain ⟨ca, hf⟩ := m_chkE hf
  replace ca := z_in hM (by decide) ca
  refine z_putI (k := 8) (j := 6) (C := RX8) (T := TX8) (N := 12) (fl := zf_8) (ty := .int) X hw_X8_parse_8 tyX8_ok nmX8 hM rfl zc_8 ca (by decide) fl_X8_parse_8_6 rfl (tyX8_ok 6 (by decide)) rfl rfl zi_8_6 (Nat.le_of_ble_eq_true rfl) dX8_parse_190 (fun H locs hM => ?_)
  clear ca
  obtain ⟨S8, ev, hf⟩ := m_bndE hf
  replace hM := z_hS hM ev
  clear ev
  obtain ⟨v9, ev, hf⟩ := m_bndE hf
  refine lv_iinc (v := v9) (lv' := [(2, .int v9), (0, .ref (zh y x0)), (1, .int x1)]) hx hb dX8_parse_193 hl (k := 2) rfl (by rw [ev]; rfl) (by decide) rfl (fun ls hl => ?_)
  clear ev
  refine lv_aload_n hx hb dX8_parse_196 rfl (lv_at hl 1 rfl) ?_
  obtain ⟨ca, hf⟩ := m_chkE hf
  replace ca := z_in hM (by decide) ca
  refine z_get (k := 8) (j := 6) (C := RX8) (T := TX8) (N := 12) (fl := zf_8) (v := .int (zI S8 6 x0)) X hw_X8_parse_8 hM rfl zc_8 ca (by decide) fl_X8_parse_8_6 rfl dX8_parse_197 ?_
  clear ca
  refine lv_iconst (v := (-1 : Int32)) hx hb dX8_parse_200 (by decide) ?_
  refine lv_icmp_ne (tgt := 206) hx hb dX8_parse_201 (by decide) (fun cc1 => ?_) (fun cc1 => ?_)
  · replace hf := m_ifF hf cc1
    refine lv_aload_n hx hb dX8_parse_206 rfl (lv_at hl 1 rfl) ?_
    refine lv_iload_n hx hb dX8_parse_207 rfl (lv_at hl 0 rfl) ?_
    refine lv_iload_n hx hb dX8_parse_208 rfl (lv_at hl 2 rfl) ?_
    refine lv_icmp_le (tgt := 231) hx hb dX8_parse_209 (by decide) (fun cc1 => ?_) (fun cc1 => ?_)
    · replace hf := m_ifT hf cc1
      exact w_X8_parse_231 (x0 := x0) (x1 := x1) (x2 := v9) (t0 := x0) X hret hf hM (lv_sub hl [1, 2, 0] rfl)
    · replace hf := m_ifF hf cc1
      refine lv_aload_n hx hb dX8_parse_212 rfl (lv_at hl 1 rfl) ?_
      obtain ⟨ca, hf⟩ := m_chkE hf
      replace ca := z_in hM (by decide) ca
      refine z_get (k := 8) (j := 1) (C := RX8) (T := TX8) (N := 12) (fl := zf_8) (v := va_rf ((zP S8 1 x0).map (zh y))) X hw_X8_parse_8 hM rfl zc_8 ca (by decide) fl_X8_parse_8_1 rfl dX8_parse_213 ?_
      clear ca
      obtain ⟨b10, hb9, hf⟩ := m_calE hf
      refine z_topr hb9 ?_
      clear hb9
      refine lv_iload_n hx hb dX8_parse_216 rfl (lv_at hl 0 rfl) ?_
      refine lv_iconst (v := (1 : Int32)) hx hb dX8_parse_217 (by decide) ?_
      refine lv_isub hx hb dX8_parse_218 ?_
      obtain ⟨v11, ev, hf⟩ := m_bndE hf
      refine m_top ev ?_
      clear ev
      obtain ⟨ca, hf⟩ := m_chkE hf
      replace ca := z_in hM (by decide) ca
      obtain ⟨o12, ho, hf⟩ := m_calE hf
      refine z_callVi (k := 6) (C := RX6) (T := TX6) (N := 2) (fl := zf_6) X hM rfl zc_6 ca (c_X6_at ho) gX8_parse_X6_at rfl ⟨rfl, rfl⟩ hd_X6_at ⟨Nat.le_of_ble_eq_true rfl, Nat.le_of_ble_eq_true rfl⟩ rfl hl.1 rfl (Nat.le_of_ble_eq_true rfl) dX8_parse_219 (fun H locs hM => ?_)
      clear ho
      refine lv_bipush (v := (120 : Int32)) hx hb dX8_parse_222 (by decide) ?_
      refine lv_icmp_ne (tgt := 231) hx hb dX8_parse_224 (by decide) (fun cc1 => ?_) (fun cc1 => ?_)
      · replace hf := m_ifF hf cc1
        exact w_X8_parse_231 (x0 := x0) (x1 := x1) (x2 := v9) (t0 := x0) X hret hf hM (lv_sub hl [1, 2, 0] rfl)
      · replace hf := m_ifT hf cc1
        refine lv_iconst (v := (1 : Int32)) hx hb dX8_parse_227 (by decide) ?_
        refine lv_goto (tgt := 232) hx hb dX8_parse_228 (by decide) ?_
        exact w_X8_parse_232 (x0 := x0) (x1 := x1) (x2 := v9) (t0 := (1 : Int32)) (t1 := x0) X hret hf hM (lv_sub hl [1, 2, 0] rfl)
  · replace hf := m_ifT hf cc1
    refine lv_iconst (v := (0 : Int32)) hx hb dX8_parse_204 (by decide) ?_
    obtain ⟨cd, hf⟩ := m_chkE hf
    cases hf
    exact hret H locs _ ls hM (m_nb cd) dX8_parse_205
def f_X8_parse_161 (S : ZS) : Option (Int32 × ZS) :=
  m_chk (vp_nar .boolean (0 : Int32) = (0 : Int32)) (some ((0 : Int32), S))

set_option maxRecDepth 100000 in
set_option maxHeartbeats 4000000 in
theorem w_X8_parse_161 {p : Program} {l : Launch} {e : Env} {s : State} {m : MethodId} {args : Array Value} {below : List Frame} {meth : Method} {c : Code} {Q : State → Prop} {D : va_G} {y : Nat → ClassId} {A0 : Nat → Prop} {o : Int32 × ZS} (X : CallFix p m c cX8_parse 3 s args wsX8_parse RX8) (hret : zRi p l e ({ frames := 6, cells := 0, slots := 0, locals := 129 } : Room) s m args below meth c Q cX8_parse D y A0 .boolean o) {S : ZS} {H : Heap} {locs : List Loc} {ls : Array Slot} (hf : f_X8_parse_161  S = some o) (hM : zH D y A0 s H locs S) (hl : lv_has ls 3 []) : W p l e ({ frames := 6, cells := 0, slots := 0, locals := 129 } : Room) s m args below meth c H locs 0 0 Q (F0 m 161 ls []) := by
  obtain ⟨hx, hb, hml, hown, hts⟩ := id X
  unfold f_X8_parse_161 at hf
  refine lv_iconst (v := (0 : Int32)) hx hb dX8_parse_161 (by decide) ?_
  obtain ⟨cd, hf⟩ := m_chkE hf
  cases hf
  exact hret H locs _ ls hM (m_nb cd) dX8_parse_162
def f_X8_parse_102 (x0 : Nat) (x1 : Int32) (x2 : Int32) (t0 : Int32) (t1 : Nat) (S : ZS) : Option (Int32 × ZS) :=
  m_chk (zK S t1 = 8) (
  m_bnd (zsI S 3 t1 t0) (fun S1 =>
  m_chk (zK S1 x0 = 8) (
  m_if ((zI S1 3 x0) = (1 : Int32)) (
  m_chk (zK S1 x0 = 8) (
  m_cal (zP S1 1 x0) (fun b2 =>
  m_bnd (x2 - (2 : Int32)) (fun v3 =>
  m_chk (zK S1 b2 = 6) (
  m_cal (f_X6_at b2 v3 S1) (fun o4 =>
  m_if (o4.1 = (61 : Int32)) (
  m_chk (zK o4.2 x0 = 8) (
  m_cal (zP o4.2 1 x0) (fun b5 =>
  m_bnd (x2 - (1 : Int32)) (fun v6 =>
  m_chk (zK o4.2 b5 = 6) (
  m_cal (f_X6_at b5 v6 o4.2) (fun o7 =>
  m_cal (f_X11_kindOf o7.1 o7.2) (fun o8 =>
  m_chk (zK o8.2 x0 = 8) (
  m_bnd (zsI o8.2 7 x0 o8.1) (fun S9 =>
  m_chk (zK S9 x0 = 8) (
  m_if ((zI S9 7 x0) < (2 : Int32)) (
  f_X8_parse_161  S9
  ) (
  m_chk (zK S9 x0 = 8) (
  m_if ((zI S9 7 x0) ≤ (5 : Int32)) (
  m_bnd (x2 + (-2 : Int32)) (fun v10 =>
  f_X8_parse_166 x0 x1 v10 S9)
  ) (
  f_X8_parse_161  S9
  ))
  ))))))))))
  ) (
  f_X8_parse_166 x0 x1 x2 o4.2
  ))))))
  ) (
  f_X8_parse_166 x0 x1 x2 S1
  ))))

set_option maxRecDepth 100000 in
set_option maxHeartbeats 4000000 in
theorem w_X8_parse_102 {p : Program} {l : Launch} {e : Env} {s : State} {m : MethodId} {args : Array Value} {below : List Frame} {meth : Method} {c : Code} {Q : State → Prop} {D : va_G} {y : Nat → ClassId} {A0 : Nat → Prop} {o : Int32 × ZS} (X : CallFix p m c cX8_parse 3 s args wsX8_parse RX8) (hret : zRi p l e ({ frames := 6, cells := 0, slots := 0, locals := 129 } : Room) s m args below meth c Q cX8_parse D y A0 .boolean o) {x0 : Nat} {x1 : Int32} {x2 : Int32} {t0 : Int32} {t1 : Nat} {S : ZS} {H : Heap} {locs : List Loc} {ls : Array Slot} (hf : f_X8_parse_102 x0 x1 x2 t0 t1 S = some o) (hM : zH D y A0 s H locs S) (hl : lv_has ls 3 [(0, .ref (zh y x0)), (1, .int x1), (2, .int x2)]) : W p l e ({ frames := 6, cells := 0, slots := 0, locals := 129 } : Room) s m args below meth c H locs 0 0 Q (F0 m 102 ls [.int t0, .ref (zh y t1)]) := by
  obtain ⟨hx, hb, hml, hown, hts⟩ := id X
  unfold f_X8_parse_102 at hf
  obtain ⟨ca, hf⟩ := m_chkE hf
  replace ca := z_in hM (by decide) ca
  refine z_putI (k := 8) (j := 3) (C := RX8) (T := TX8) (N := 12) (fl := zf_8) (ty := .int) X hw_X8_parse_8 tyX8_ok nmX8 hM rfl zc_8 ca (by decide) fl_X8_parse_8_3 rfl (tyX8_ok 3 (by decide)) rfl rfl zi_8_3 (Nat.le_of_ble_eq_true rfl) dX8_parse_102 (fun H locs hM => ?_)
  clear ca
  obtain ⟨S1, ev, hf⟩ := m_bndE hf
  replace hM := z_hS hM ev
  clear ev
  refine lv_aload_n hx hb dX8_parse_105 rfl (lv_at hl 0 rfl) ?_
  obtain ⟨ca, hf⟩ := m_chkE hf
  replace ca := z_in hM (by decide) ca
  refine z_get (k := 8) (j := 3) (C := RX8) (T := TX8) (N := 12) (fl := zf_8) (v := .int (zI S1 3 x0)) X hw_X8_parse_8 hM rfl zc_8 ca (by decide) fl_X8_parse_8_3 rfl dX8_parse_106 ?_
  clear ca
  refine lv_iconst (v := (1 : Int32)) hx hb dX8_parse_109 (by decide) ?_
  refine lv_icmp_ne (tgt := 166) hx hb dX8_parse_110 (by decide) (fun cc1 => ?_) (fun cc1 => ?_)
  · replace hf := m_ifF hf cc1
    exact w_X8_parse_166 (x0 := x0) (x1 := x1) (x2 := x2) X hret hf hM (lv_sub hl [0, 1, 2] rfl)
  · replace hf := m_ifT hf cc1
    refine lv_aload_n hx hb dX8_parse_113 rfl (lv_at hl 0 rfl) ?_
    obtain ⟨ca, hf⟩ := m_chkE hf
    replace ca := z_in hM (by decide) ca
    refine z_get (k := 8) (j := 1) (C := RX8) (T := TX8) (N := 12) (fl := zf_8) (v := va_rf ((zP S1 1 x0).map (zh y))) X hw_X8_parse_8 hM rfl zc_8 ca (by decide) fl_X8_parse_8_1 rfl dX8_parse_114 ?_
    clear ca
    obtain ⟨b2, hb9, hf⟩ := m_calE hf
    refine z_topr hb9 ?_
    clear hb9
    refine lv_iload_n hx hb dX8_parse_117 rfl (lv_at hl 2 rfl) ?_
    refine lv_iconst (v := (2 : Int32)) hx hb dX8_parse_118 (by decide) ?_
    refine lv_isub hx hb dX8_parse_119 ?_
    obtain ⟨v3, ev, hf⟩ := m_bndE hf
    refine m_top ev ?_
    clear ev
    obtain ⟨ca, hf⟩ := m_chkE hf
    replace ca := z_in hM (by decide) ca
    obtain ⟨o4, ho, hf⟩ := m_calE hf
    refine z_callVi (k := 6) (C := RX6) (T := TX6) (N := 2) (fl := zf_6) X hM rfl zc_6 ca (c_X6_at ho) gX8_parse_X6_at rfl ⟨rfl, rfl⟩ hd_X6_at ⟨Nat.le_of_ble_eq_true rfl, Nat.le_of_ble_eq_true rfl⟩ rfl hl.1 rfl (Nat.le_of_ble_eq_true rfl) dX8_parse_120 (fun H locs hM => ?_)
    clear ho
    refine lv_bipush (v := (61 : Int32)) hx hb dX8_parse_123 (by decide) ?_
    refine lv_icmp_ne (tgt := 166) hx hb dX8_parse_125 (by decide) (fun cc1 => ?_) (fun cc1 => ?_)
    · replace hf := m_ifF hf cc1
      exact w_X8_parse_166 (x0 := x0) (x1 := x1) (x2 := x2) X hret hf hM (lv_sub hl [0, 1, 2] rfl)
    · replace hf := m_ifT hf cc1
      refine lv_aload_n hx hb dX8_parse_128 rfl (lv_at hl 0 rfl) ?_
      refine lv_aload_n hx hb dX8_parse_129 rfl (lv_at hl 0 rfl) ?_
      obtain ⟨ca, hf⟩ := m_chkE hf
      replace ca := z_in hM (by decide) ca
      refine z_get (k := 8) (j := 1) (C := RX8) (T := TX8) (N := 12) (fl := zf_8) (v := va_rf ((zP o4.2 1 x0).map (zh y))) X hw_X8_parse_8 hM rfl zc_8 ca (by decide) fl_X8_parse_8_1 rfl dX8_parse_130 ?_
      clear ca
      obtain ⟨b5, hb9, hf⟩ := m_calE hf
      refine z_topr hb9 ?_
      clear hb9
      refine lv_iload_n hx hb dX8_parse_133 rfl (lv_at hl 2 rfl) ?_
      refine lv_iconst (v := (1 : Int32)) hx hb dX8_parse_134 (by decide) ?_
      refine lv_isub hx hb dX8_parse_135 ?_
      obtain ⟨v6, ev, hf⟩ := m_bndE hf
      refine m_top ev ?_
      clear ev
      obtain ⟨ca, hf⟩ := m_chkE hf
      replace ca := z_in hM (by decide) ca
      obtain ⟨o7, ho, hf⟩ := m_calE hf
      refine z_callVi (k := 6) (C := RX6) (T := TX6) (N := 2) (fl := zf_6) X hM rfl zc_6 ca (c_X6_at ho) gX8_parse_X6_at rfl ⟨rfl, rfl⟩ hd_X6_at ⟨Nat.le_of_ble_eq_true rfl, Nat.le_of_ble_eq_true rfl⟩ rfl hl.1 rfl (Nat.le_of_ble_eq_true rfl) dX8_parse_136 (fun H locs hM => ?_)
      clear ho
      obtain ⟨o8, ho, hf⟩ := m_calE hf
      refine z_callSNi X hM (c_X11_kindOf ho) gX8_parse_X11_kindOf_n89 nn_X8_parse_89.1.1 nn_X8_parse_89.1.2 nn_X8_parse_89.2 rfl ⟨rfl, rfl⟩ hd_X11_kindOf ⟨Nat.le_of_ble_eq_true rfl, Nat.le_of_ble_eq_true rfl⟩ rfl hl.1 rfl (Nat.le_of_ble_eq_true rfl) dX8_parse_139 (fun H locs hM => ?_)
      clear ho
      obtain ⟨ca, hf⟩ := m_chkE hf
      replace ca := z_in hM (by decide) ca
      refine z_putI (k := 8) (j := 7) (C := RX8) (T := TX8) (N := 12) (fl := zf_8) (ty := .int) X hw_X8_parse_8 tyX8_ok nmX8 hM rfl zc_8 ca (by decide) fl_X8_parse_8_7 rfl (tyX8_ok 7 (by decide)) rfl rfl zi_8_7 (Nat.le_of_ble_eq_true rfl) dX8_parse_142 (fun H locs hM => ?_)
      clear ca
      obtain ⟨S9, ev, hf⟩ := m_bndE hf
      replace hM := z_hS hM ev
      clear ev
      refine lv_aload_n hx hb dX8_parse_145 rfl (lv_at hl 0 rfl) ?_
      obtain ⟨ca, hf⟩ := m_chkE hf
      replace ca := z_in hM (by decide) ca
      refine z_get (k := 8) (j := 7) (C := RX8) (T := TX8) (N := 12) (fl := zf_8) (v := .int (zI S9 7 x0)) X hw_X8_parse_8 hM rfl zc_8 ca (by decide) fl_X8_parse_8_7 rfl dX8_parse_146 ?_
      clear ca
      refine lv_iconst (v := (2 : Int32)) hx hb dX8_parse_149 (by decide) ?_
      refine lv_icmp_lt (tgt := 161) hx hb dX8_parse_150 (by decide) (fun cc1 => ?_) (fun cc1 => ?_)
      · replace hf := m_ifT hf cc1
        exact w_X8_parse_161 X hret hf hM (lv_sub hl [] rfl)
      · replace hf := m_ifF hf cc1
        refine lv_aload_n hx hb dX8_parse_153 rfl (lv_at hl 0 rfl) ?_
        obtain ⟨ca, hf⟩ := m_chkE hf
        replace ca := z_in hM (by decide) ca
        refine z_get (k := 8) (j := 7) (C := RX8) (T := TX8) (N := 12) (fl := zf_8) (v := .int (zI S9 7 x0)) X hw_X8_parse_8 hM rfl zc_8 ca (by decide) fl_X8_parse_8_7 rfl dX8_parse_154 ?_
        clear ca
        refine lv_iconst (v := (5 : Int32)) hx hb dX8_parse_157 (by decide) ?_
        refine lv_icmp_le (tgt := 163) hx hb dX8_parse_158 (by decide) (fun cc1 => ?_) (fun cc1 => ?_)
        · replace hf := m_ifT hf cc1
          obtain ⟨v10, ev, hf⟩ := m_bndE hf
          refine lv_iinc (v := v10) (lv' := [(2, .int v10), (0, .ref (zh y x0)), (1, .int x1)]) hx hb dX8_parse_163 hl (k := 2) rfl (by rw [ev]; rfl) (by decide) rfl (fun ls hl => ?_)
          clear ev
          exact w_X8_parse_166 (x0 := x0) (x1 := x1) (x2 := v10) X hret hf hM (lv_sub hl [1, 2, 0] rfl)
        · replace hf := m_ifF hf cc1
          exact w_X8_parse_161 X hret hf hM (lv_sub hl [] rfl)
def f_X8_parse_72 (x0 : Nat) (t0 : Int32) (S : ZS) : Option (Int32 × ZS) :=
  m_chk (zK S x0 = 8) (
  m_cal (zP S 1 x0) (fun b1 =>
  m_chk (zK S b1 = 6) (
  m_cal (f_X6_size b1 S) (fun o2 =>
  m_if (t0 = (1 : Int32)) (
  m_chk (zK o2.2 x0 = 8) (
  m_cal (zP o2.2 1 x0) (fun b3 =>
  m_chk (zK o2.2 b3 = 6) (
  m_cal (f_X6_at b3 (0 : Int32) o2.2) (fun o4 =>
  m_cal (f_X11_kindOf o4.1 o4.2) (fun o5 =>
  f_X8_parse_102 x0 t0 o2.1 o5.1 x0 o5.2)))))
  ) (
  f_X8_parse_102 x0 t0 o2.1 (1 : Int32) x0 o2.2
  )))))

set_option maxRecDepth 100000 in
set_option maxHeartbeats 4000000 in
theorem w_X8_parse_72 {p : Program} {l : Launch} {e : Env} {s : State} {m : MethodId} {args : Array Value} {below : List Frame} {meth : Method} {c : Code} {Q : State → Prop} {D : va_G} {y : Nat → ClassId} {A0 : Nat → Prop} {o : Int32 × ZS} (X : CallFix p m c cX8_parse 3 s args wsX8_parse RX8) (hret : zRi p l e ({ frames := 6, cells := 0, slots := 0, locals := 129 } : Room) s m args below meth c Q cX8_parse D y A0 .boolean o) {x0 : Nat} {t0 : Int32} {S : ZS} {H : Heap} {locs : List Loc} {ls : Array Slot} (hf : f_X8_parse_72 x0 t0 S = some o) (hM : zH D y A0 s H locs S) (hl : lv_has ls 3 [(0, .ref (zh y x0))]) : W p l e ({ frames := 6, cells := 0, slots := 0, locals := 129 } : Room) s m args below meth c H locs 0 0 Q (F0 m 72 ls [.int t0]) := by
  obtain ⟨hx, hb, hml, hown, hts⟩ := id X
  unfold f_X8_parse_72 at hf
  refine lv_istore_n (lv' := [(1, .int t0), (0, .ref (zh y x0))]) hx hb dX8_parse_72 rfl hl (by decide) rfl (fun ls hl => ?_)
  refine lv_aload_n hx hb dX8_parse_73 rfl (lv_at hl 1 rfl) ?_
  obtain ⟨ca, hf⟩ := m_chkE hf
  replace ca := z_in hM (by decide) ca
  refine z_get (k := 8) (j := 1) (C := RX8) (T := TX8) (N := 12) (fl := zf_8) (v := va_rf ((zP S 1 x0).map (zh y))) X hw_X8_parse_8 hM rfl zc_8 ca (by decide) fl_X8_parse_8_1 rfl dX8_parse_74 ?_
  clear ca
  obtain ⟨b1, hb9, hf⟩ := m_calE hf
  refine z_topr hb9 ?_
  clear hb9
  obtain ⟨ca, hf⟩ := m_chkE hf
  replace ca := z_in hM (by decide) ca
  obtain ⟨o2, ho, hf⟩ := m_calE hf
  refine z_callVi (k := 6) (C := RX6) (T := TX6) (N := 2) (fl := zf_6) X hM rfl zc_6 ca (c_X6_size ho) gX8_parse_X6_size rfl ⟨rfl, rfl⟩ hd_X6_size ⟨Nat.le_of_ble_eq_true rfl, Nat.le_of_ble_eq_true rfl⟩ rfl hl.1 rfl (Nat.le_of_ble_eq_true rfl) dX8_parse_77 (fun H locs hM => ?_)
  clear ho
  refine lv_istore_n (lv' := [(2, .int o2.1), (1, .int t0), (0, .ref (zh y x0))]) hx hb dX8_parse_80 rfl hl (by decide) rfl (fun ls hl => ?_)
  refine lv_aload_n hx hb dX8_parse_81 rfl (lv_at hl 2 rfl) ?_
  refine lv_iload_n hx hb dX8_parse_82 rfl (lv_at hl 1 rfl) ?_
  refine lv_iconst (v := (1 : Int32)) hx hb dX8_parse_83 (by decide) ?_
  refine lv_icmp_ne (tgt := 101) hx hb dX8_parse_84 (by decide) (fun cc1 => ?_) (fun cc1 => ?_)
  · replace hf := m_ifF hf cc1
    refine lv_iconst (v := (1 : Int32)) hx hb dX8_parse_101 (by decide) ?_
    exact w_X8_parse_102 (x0 := x0) (x1 := t0) (x2 := o2.1) (t0 := (1 : Int32)) (t1 := x0) X hret hf hM (lv_sub hl [2, 1, 0] rfl)
  · replace hf := m_ifT hf cc1
    refine lv_aload_n hx hb dX8_parse_87 rfl (lv_at hl 2 rfl) ?_
    obtain ⟨ca, hf⟩ := m_chkE hf
    replace ca := z_in hM (by decide) ca
    refine z_get (k := 8) (j := 1) (C := RX8) (T := TX8) (N := 12) (fl := zf_8) (v := va_rf ((zP o2.2 1 x0).map (zh y))) X hw_X8_parse_8 hM rfl zc_8 ca (by decide) fl_X8_parse_8_1 rfl dX8_parse_88 ?_
    clear ca
    obtain ⟨b3, hb9, hf⟩ := m_calE hf
    refine z_topr hb9 ?_
    clear hb9
    refine lv_iconst (v := (0 : Int32)) hx hb dX8_parse_91 (by decide) ?_
    obtain ⟨ca, hf⟩ := m_chkE hf
    replace ca := z_in hM (by decide) ca
    obtain ⟨o4, ho, hf⟩ := m_calE hf
    refine z_callVi (k := 6) (C := RX6) (T := TX6) (N := 2) (fl := zf_6) X hM rfl zc_6 ca (c_X6_at ho) gX8_parse_X6_at rfl ⟨rfl, rfl⟩ hd_X6_at ⟨Nat.le_of_ble_eq_true rfl, Nat.le_of_ble_eq_true rfl⟩ rfl hl.1 rfl (Nat.le_of_ble_eq_true rfl) dX8_parse_92 (fun H locs hM => ?_)
    clear ho
    obtain ⟨o5, ho, hf⟩ := m_calE hf
    refine z_callSNi X hM (c_X11_kindOf ho) gX8_parse_X11_kindOf_n89 nn_X8_parse_89.1.1 nn_X8_parse_89.1.2 nn_X8_parse_89.2 rfl ⟨rfl, rfl⟩ hd_X11_kindOf ⟨Nat.le_of_ble_eq_true rfl, Nat.le_of_ble_eq_true rfl⟩ rfl hl.1 rfl (Nat.le_of_ble_eq_true rfl) dX8_parse_95 (fun H locs hM => ?_)
    clear ho
    refine lv_goto (tgt := 102) hx hb dX8_parse_98 (by decide) ?_
    exact w_X8_parse_102 (x0 := x0) (x1 := t0) (x2 := o2.1) (t0 := o5.1) (t1 := x0) X hret hf hM (lv_sub hl [2, 1, 0] rfl)
def f_X8_parse_40 (x0 : Nat) (t0 : Int32) (t1 : Nat) (S : ZS) : Option (Int32 × ZS) :=
  m_chk (zK S t1 = 8) (
  m_bnd (zsI S 2 t1 t0) (fun S1 =>
  m_chk (zK S1 x0 = 8) (
  m_if ((zI S1 2 x0) = 0) (
  m_chk (zK S1 x0 = 8) (
  m_cal (zP S1 1 x0) (fun b2 =>
  m_chk (zK S1 b2 = 6) (
  m_cal (f_X6_at b2 (0 : Int32) S1) (fun o3 =>
  m_cal (f_X11_kindOf o3.1 o3.2) (fun o4 =>
  m_if (o4.1 < (2 : Int32)) (
  f_X8_parse_72 x0 (0 : Int32) o4.2
  ) (
  f_X8_parse_72 x0 (1 : Int32) o4.2
  ))))))
  ) (
  m_chk (vp_nar .boolean (1 : Int32) = (1 : Int32)) (some ((1 : Int32), S1))
  ))))

set_option maxRecDepth 100000 in
set_option maxHeartbeats 4000000 in
theorem w_X8_parse_40 {p : Program} {l : Launch} {e : Env} {s : State} {m : MethodId} {args : Array Value} {below : List Frame} {meth : Method} {c : Code} {Q : State → Prop} {D : va_G} {y : Nat → ClassId} {A0 : Nat → Prop} {o : Int32 × ZS} (X : CallFix p m c cX8_parse 3 s args wsX8_parse RX8) (hret : zRi p l e ({ frames := 6, cells := 0, slots := 0, locals := 129 } : Room) s m args below meth c Q cX8_parse D y A0 .boolean o) {x0 : Nat} {t0 : Int32} {t1 : Nat} {S : ZS} {H : Heap} {locs : List Loc} {ls : Array Slot} (hf : f_X8_parse_40 x0 t0 t1 S = some o) (hM : zH D y A0 s H locs S) (hl : lv_has ls 3 [(0, .ref (zh y x0))]) : W p l e ({ frames := 6, cells := 0, slots := 0, locals := 129 } : Room) s m args below meth c H locs 0 0 Q (F0 m 40 ls [.int t0, .ref (zh y t1)]) := by
  obtain ⟨hx, hb, hml, hown, hts⟩ := id X
  unfold f_X8_parse_40 at hf
  obtain ⟨ca, hf⟩ := m_chkE hf
  replace ca := z_in hM (by decide) ca
  refine z_putI (k := 8) (j := 2) (C := RX8) (T := TX8) (N := 12) (fl := zf_8) (ty := .int) X hw_X8_parse_8 tyX8_ok nmX8 hM rfl zc_8 ca (by decide) fl_X8_parse_8_2 rfl (tyX8_ok 2 (by decide)) rfl rfl zi_8_2 (Nat.le_of_ble_eq_true rfl) dX8_parse_40 (fun H locs hM => ?_)
  clear ca
  obtain ⟨S1, ev, hf⟩ := m_bndE hf
  replace hM := z_hS hM ev
  clear ev
  refine lv_aload_n hx hb dX8_parse_43 rfl (lv_at hl 0 rfl) ?_
  obtain ⟨ca, hf⟩ := m_chkE hf
  replace ca := z_in hM (by decide) ca
  refine z_get (k := 8) (j := 2) (C := RX8) (T := TX8) (N := 12) (fl := zf_8) (v := .int (zI S1 2 x0)) X hw_X8_parse_8 hM rfl zc_8 ca (by decide) fl_X8_parse_8_2 rfl dX8_parse_44 ?_
  clear ca
  refine lv_if_eq (tgt := 52) hx hb dX8_parse_47 (by decide) (fun cc1 => ?_) (fun cc1 => ?_)
  · replace hf := m_ifT hf cc1
    refine lv_aload_n hx hb dX8_parse_52 rfl (lv_at hl 0 rfl) ?_
    obtain ⟨ca, hf⟩ := m_chkE hf
    replace ca := z_in hM (by decide) ca
    refine z_get (k := 8) (j := 1) (C := RX8) (T := TX8) (N := 12) (fl := zf_8) (v := va_rf ((zP S1 1 x0).map (zh y))) X hw_X8_parse_8 hM rfl zc_8 ca (by decide) fl_X8_parse_8_1 rfl dX8_parse_53 ?_
    clear ca
    obtain ⟨b2, hb9, hf⟩ := m_calE hf
    refine z_topr hb9 ?_
    clear hb9
    refine lv_iconst (v := (0 : Int32)) hx hb dX8_parse_56 (by decide) ?_
    obtain ⟨ca, hf⟩ := m_chkE hf
    replace ca := z_in hM (by decide) ca
    obtain ⟨o3, ho, hf⟩ := m_calE hf
    refine z_callVi (k := 6) (C := RX6) (T := TX6) (N := 2) (fl := zf_6) X hM rfl zc_6 ca (c_X6_at ho) gX8_parse_X6_at rfl ⟨rfl, rfl⟩ hd_X6_at ⟨Nat.le_of_ble_eq_true rfl, Nat.le_of_ble_eq_true rfl⟩ rfl hl.1 rfl (Nat.le_of_ble_eq_true rfl) dX8_parse_57 (fun H locs hM => ?_)
    clear ho
    obtain ⟨o4, ho, hf⟩ := m_calE hf
    refine z_callSNi X hM (c_X11_kindOf ho) gX8_parse_X11_kindOf_n89 nn_X8_parse_89.1.1 nn_X8_parse_89.1.2 nn_X8_parse_89.2 rfl ⟨rfl, rfl⟩ hd_X11_kindOf ⟨Nat.le_of_ble_eq_true rfl, Nat.le_of_ble_eq_true rfl⟩ rfl hl.1 rfl (Nat.le_of_ble_eq_true rfl) dX8_parse_60 (fun H locs hM => ?_)
    clear ho
    refine lv_iconst (v := (2 : Int32)) hx hb dX8_parse_63 (by decide) ?_
    refine lv_icmp_lt (tgt := 71) hx hb dX8_parse_64 (by decide) (fun cc1 => ?_) (fun cc1 => ?_)
    · replace hf := m_ifT hf cc1
      refine lv_iconst (v := (0 : Int32)) hx hb dX8_parse_71 (by decide) ?_
      exact w_X8_parse_72 (x0 := x0) (t0 := (0 : Int32)) X hret hf hM (lv_sub hl [0] rfl)
    · replace hf := m_ifF hf cc1
      refine lv_iconst (v := (1 : Int32)) hx hb dX8_parse_67 (by decide) ?_
      refine lv_goto (tgt := 72) hx hb dX8_parse_68 (by decide) ?_
      exact w_X8_parse_72 (x0 := x0) (t0 := (1 : Int32)) X hret hf hM (lv_sub hl [0] rfl)
  · replace hf := m_ifF hf cc1
    refine lv_iconst (v := (1 : Int32)) hx hb dX8_parse_50 (by decide) ?_
    obtain ⟨cd, hf⟩ := m_chkE hf
    cases hf
    exact hret H locs _ ls hM (m_nb cd) dX8_parse_51
def f_X8_parse_0 (x0 : Nat) (S : ZS) : Option (Int32 × ZS) :=
  m_chk (zK S x0 = 8) (
  m_bnd (zsI S 7 x0 (0 : Int32)) (fun S1 =>
  m_chk (zK S1 x0 = 8) (
  m_cal (zP S1 1 x0) (fun b2 =>
  m_chk (zK S1 b2 = 6) (
  m_cal (f_X6_is b2 7 S1) (fun o3 =>
  m_if (o3.1 = 0) (
  m_chk (zK o3.2 x0 = 8) (
  m_cal (zP o3.2 1 x0) (fun b4 =>
  m_chk (zK o3.2 b4 = 6) (
  m_cal (f_X6_is b4 8 o3.2) (fun o5 =>
  m_if (o5.1 = 0) (
  f_X8_parse_40 x0 (0 : Int32) x0 o5.2
  ) (
  f_X8_parse_40 x0 (-2 : Int32) x0 o5.2
  )))))
  ) (
  f_X8_parse_40 x0 (2 : Int32) x0 o3.2
  )))))))

set_option maxRecDepth 100000 in
set_option maxHeartbeats 4000000 in
theorem w_X8_parse_0 {p : Program} {l : Launch} {e : Env} {s : State} {m : MethodId} {args : Array Value} {below : List Frame} {meth : Method} {c : Code} {Q : State → Prop} {D : va_G} {y : Nat → ClassId} {A0 : Nat → Prop} {o : Int32 × ZS} (X : CallFix p m c cX8_parse 3 s args wsX8_parse RX8) (hret : zRi p l e ({ frames := 6, cells := 0, slots := 0, locals := 129 } : Room) s m args below meth c Q cX8_parse D y A0 .boolean o) {x0 : Nat} {S : ZS} {H : Heap} {locs : List Loc} {ls : Array Slot} (hf : f_X8_parse_0 x0 S = some o) (hM : zH D y A0 s H locs S) (hl : lv_has ls 3 [(0, .ref (zh y x0))]) : W p l e ({ frames := 6, cells := 0, slots := 0, locals := 129 } : Room) s m args below meth c H locs 0 0 Q (F0 m 0 ls []) := by
  obtain ⟨hx, hb, hml, hown, hts⟩ := id X
  unfold f_X8_parse_0 at hf
  refine lv_aload_n hx hb dX8_parse_0 rfl (lv_at hl 0 rfl) ?_
  refine lv_iconst (v := (0 : Int32)) hx hb dX8_parse_1 (by decide) ?_
  obtain ⟨ca, hf⟩ := m_chkE hf
  replace ca := z_in hM (by decide) ca
  refine z_putI (k := 8) (j := 7) (C := RX8) (T := TX8) (N := 12) (fl := zf_8) (ty := .int) X hw_X8_parse_8 tyX8_ok nmX8 hM rfl zc_8 ca (by decide) fl_X8_parse_8_7 rfl (tyX8_ok 7 (by decide)) rfl rfl zi_8_7 (Nat.le_of_ble_eq_true rfl) dX8_parse_2 (fun H locs hM => ?_)
  clear ca
  obtain ⟨S1, ev, hf⟩ := m_bndE hf
  replace hM := z_hS hM ev
  clear ev
  refine lv_aload_n hx hb dX8_parse_5 rfl (lv_at hl 0 rfl) ?_
  refine lv_aload_n hx hb dX8_parse_6 rfl (lv_at hl 0 rfl) ?_
  obtain ⟨ca, hf⟩ := m_chkE hf
  replace ca := z_in hM (by decide) ca
  refine z_get (k := 8) (j := 1) (C := RX8) (T := TX8) (N := 12) (fl := zf_8) (v := va_rf ((zP S1 1 x0).map (zh y))) X hw_X8_parse_8 hM rfl zc_8 ca (by decide) fl_X8_parse_8_1 rfl dX8_parse_7 ?_
  clear ca
  obtain ⟨b2, hb9, hf⟩ := m_calE hf
  refine z_topr hb9 ?_
  clear hb9
  refine z_ldcS X hM sr_X8_parse_78 dX8_parse_10 ?_
  obtain ⟨ca, hf⟩ := m_chkE hf
  replace ca := z_in hM (by decide) ca
  obtain ⟨o3, ho, hf⟩ := m_calE hf
  refine z_callVi (k := 6) (C := RX6) (T := TX6) (N := 2) (fl := zf_6) X hM rfl zc_6 ca (c_X6_is ho) gX8_parse_X6_is rfl ⟨rfl, rfl⟩ hd_X6_is ⟨Nat.le_of_ble_eq_true rfl, Nat.le_of_ble_eq_true rfl⟩ rfl hl.1 rfl (Nat.le_of_ble_eq_true rfl) dX8_parse_12 (fun H locs hM => ?_)
  clear ho
  refine lv_if_eq (tgt := 22) hx hb dX8_parse_15 (by decide) (fun cc1 => ?_) (fun cc1 => ?_)
  · replace hf := m_ifT hf cc1
    refine lv_aload_n hx hb dX8_parse_22 rfl (lv_at hl 0 rfl) ?_
    obtain ⟨ca, hf⟩ := m_chkE hf
    replace ca := z_in hM (by decide) ca
    refine z_get (k := 8) (j := 1) (C := RX8) (T := TX8) (N := 12) (fl := zf_8) (v := va_rf ((zP o3.2 1 x0).map (zh y))) X hw_X8_parse_8 hM rfl zc_8 ca (by decide) fl_X8_parse_8_1 rfl dX8_parse_23 ?_
    clear ca
    obtain ⟨b4, hb9, hf⟩ := m_calE hf
    refine z_topr hb9 ?_
    clear hb9
    refine z_ldcS X hM sr_X8_parse_84 dX8_parse_26 ?_
    obtain ⟨ca, hf⟩ := m_chkE hf
    replace ca := z_in hM (by decide) ca
    obtain ⟨o5, ho, hf⟩ := m_calE hf
    refine z_callVi (k := 6) (C := RX6) (T := TX6) (N := 2) (fl := zf_6) X hM rfl zc_6 ca (c_X6_is ho) gX8_parse_X6_is rfl ⟨rfl, rfl⟩ hd_X6_is ⟨Nat.le_of_ble_eq_true rfl, Nat.le_of_ble_eq_true rfl⟩ rfl hl.1 rfl (Nat.le_of_ble_eq_true rfl) dX8_parse_28 (fun H locs hM => ?_)
    clear ho
    refine lv_if_eq (tgt := 39) hx hb dX8_parse_31 (by decide) (fun cc1 => ?_) (fun cc1 => ?_)
    · replace hf := m_ifT hf cc1
      refine lv_iconst (v := (0 : Int32)) hx hb dX8_parse_39 (by decide) ?_
      exact w_X8_parse_40 (x0 := x0) (t0 := (0 : Int32)) (t1 := x0) X hret hf hM (lv_sub hl [0] rfl)
    · replace hf := m_ifF hf cc1
      refine lv_bipush (v := (-2 : Int32)) hx hb dX8_parse_34 (by decide) ?_
      refine lv_goto (tgt := 40) hx hb dX8_parse_36 (by decide) ?_
      exact w_X8_parse_40 (x0 := x0) (t0 := (-2 : Int32)) (t1 := x0) X hret hf hM (lv_sub hl [0] rfl)
  · replace hf := m_ifF hf cc1
    refine lv_iconst (v := (2 : Int32)) hx hb dX8_parse_18 (by decide) ?_
    refine lv_goto (tgt := 40) hx hb dX8_parse_19 (by decide) ?_
    exact w_X8_parse_40 (x0 := x0) (t0 := (2 : Int32)) (t1 := x0) X hret hf hM (lv_sub hl [0] rfl)
def f_X8_parse (x0 : Nat) (S : ZS) : Option (Int32 × ZS) := f_X8_parse_0 x0 S
theorem c_X8_parse {l : Launch} {D : va_G} {y : Nat → ClassId} {x0 : Nat} {S : ZS} {o : Int32 × ZS} (hf : f_X8_parse x0 S = some o) : zMi l yX8_parse wsX8_parse ({ frames := 6, cells := 0, slots := 0, locals := 129 } : Room) [.ref (zh y x0)] D y S o :=
  z_entryI (own := RX8) (cc := cX8_parse) (maxL := 3) (by decide) rfl rfl (Nat.le_of_ble_eq_true rfl) (fun p e s m args below meth c A0 Q H locs ls X hret hM hl => w_X8_parse_0 X hret hf hM (lv_sub hl [0] rfl))
theorem hd_X8_fitsFrom : yX8_fitsFrom.cls = RX8 ∧ yX8_fitsFrom.cls ≠ "java/lang/invoke/MethodHandle" ∧ yX8_fitsFrom.cls ≠ "java/lang/invoke/VarHandle" ∧ (parseMethodDescriptor yX8_fitsFrom.desc).map (fun d => d.parameters.length) = some 2 := by decide +kernel
theorem fl_X8_fitsFrom_0_0 : Cond.fieldLink RX8 138 "MoveTexts$Board" "men" "[I" ∈ wsX8_fitsFrom := by decide +kernel
theorem fl_X8_fitsFrom_0_3 : Cond.fieldLink RX8 120 "MoveTexts$Board" "side" "I" ∈ wsX8_fitsFrom := by decide +kernel
theorem fl_X8_fitsFrom_8_3 : Cond.fieldLink RX8 93 "MoveTexts$SignReader" "kind" "I" ∈ wsX8_fitsFrom := by decide +kernel
theorem fl_X8_fitsFrom_8_4 : Cond.fieldLink RX8 107 "MoveTexts$SignReader" "file" "I" ∈ wsX8_fitsFrom := by decide +kernel
theorem fl_X8_fitsFrom_8_5 : Cond.fieldLink RX8 110 "MoveTexts$SignReader" "rank" "I" ∈ wsX8_fitsFrom := by decide +kernel
theorem fl_X8_fitsFrom_8_6 : Cond.fieldLink RX8 100 "MoveTexts$SignReader" "to" "I" ∈ wsX8_fitsFrom := by decide +kernel
theorem fl_X8_fitsFrom_8_7 : Cond.fieldLink RX8 75 "MoveTexts$SignReader" "becomes" "I" ∈ wsX8_fitsFrom := by decide +kernel
theorem fl_X8_fitsFrom_8_8 : Cond.fieldLink RX8 56 "MoveTexts$SignReader" "taking" "I" ∈ wsX8_fitsFrom := by decide +kernel
theorem hw_X8_fitsFrom_0 : ∀ w ∈ wsX00, w ∈ wsX8_fitsFrom := by decide +kernel
theorem hw_X8_fitsFrom_8 : ∀ w ∈ wsX80, w ∈ wsX8_fitsFrom := by decide +kernel
def f_X8_fitsFrom_70 (S : ZS) : Option (Int32 × ZS) :=
  m_chk (vp_nar .boolean (0 : Int32) = (0 : Int32)) (some ((0 : Int32), S))

set_option maxRecDepth 100000 in
set_option maxHeartbeats 4000000 in
theorem w_X8_fitsFrom_70 {p : Program} {l : Launch} {e : Env} {s : State} {m : MethodId} {args : Array Value} {below : List Frame} {meth : Method} {c : Code} {Q : State → Prop} {D : va_G} {y : Nat → ClassId} {A0 : Nat → Prop} {o : Int32 × ZS} (X : CallFix p m c cX8_fitsFrom 4 s args wsX8_fitsFrom RX8) (hret : zRi p l e ({ frames := 2, cells := 0, slots := 0, locals := 43 } : Room) s m args below meth c Q cX8_fitsFrom D y A0 .boolean o) {S : ZS} {H : Heap} {locs : List Loc} {ls : Array Slot} (hf : f_X8_fitsFrom_70  S = some o) (hM : zH D y A0 s H locs S) (hl : lv_has ls 4 []) : W p l e ({ frames := 2, cells := 0, slots := 0, locals := 43 } : Room) s m args below meth c H locs 0 0 Q (F0 m 70 ls []) := by
  obtain ⟨hx, hb, hml, hown, hts⟩ := id X
  unfold f_X8_fitsFrom_70 at hf
  refine lv_iconst (v := (0 : Int32)) hx hb dX8_fitsFrom_70 (by decide) ?_
  obtain ⟨cd, hf⟩ := m_chkE hf
  cases hf
  exact hret H locs _ ls hM (m_nb cd) dX8_fitsFrom_71
def f_X8_fitsFrom_158 (t0 : Int32) (S : ZS) : Option (Int32 × ZS) :=
  m_chk (vp_nar .boolean t0 = t0) (some (t0, S))

set_option maxRecDepth 100000 in
set_option maxHeartbeats 4000000 in
theorem w_X8_fitsFrom_158 {p : Program} {l : Launch} {e : Env} {s : State} {m : MethodId} {args : Array Value} {below : List Frame} {meth : Method} {c : Code} {Q : State → Prop} {D : va_G} {y : Nat → ClassId} {A0 : Nat → Prop} {o : Int32 × ZS} (X : CallFix p m c cX8_fitsFrom 4 s args wsX8_fitsFrom RX8) (hret : zRi p l e ({ frames := 2, cells := 0, slots := 0, locals := 43 } : Room) s m args below meth c Q cX8_fitsFrom D y A0 .boolean o) {t0 : Int32} {S : ZS} {H : Heap} {locs : List Loc} {ls : Array Slot} (hf : f_X8_fitsFrom_158 t0 S = some o) (hM : zH D y A0 s H locs S) (hl : lv_has ls 4 []) : W p l e ({ frames := 2, cells := 0, slots := 0, locals := 43 } : Room) s m args below meth c H locs 0 0 Q (F0 m 158 ls [.int t0]) := by
  obtain ⟨hx, hb, hml, hown, hts⟩ := id X
  unfold f_X8_fitsFrom_158 at hf
  obtain ⟨cd, hf⟩ := m_chkE hf
  cases hf
  exact hret H locs _ ls hM (m_nb cd) dX8_fitsFrom_158
def f_X8_fitsFrom_157 (S : ZS) : Option (Int32 × ZS) :=
  f_X8_fitsFrom_158 (0 : Int32) S

set_option maxRecDepth 100000 in
set_option maxHeartbeats 4000000 in
theorem w_X8_fitsFrom_157 {p : Program} {l : Launch} {e : Env} {s : State} {m : MethodId} {args : Array Value} {below : List Frame} {meth : Method} {c : Code} {Q : State → Prop} {D : va_G} {y : Nat → ClassId} {A0 : Nat → Prop} {o : Int32 × ZS} (X : CallFix p m c cX8_fitsFrom 4 s args wsX8_fitsFrom RX8) (hret : zRi p l e ({ frames := 2, cells := 0, slots := 0, locals := 43 } : Room) s m args below meth c Q cX8_fitsFrom D y A0 .boolean o) {S : ZS} {H : Heap} {locs : List Loc} {ls : Array Slot} (hf : f_X8_fitsFrom_157  S = some o) (hM : zH D y A0 s H locs S) (hl : lv_has ls 4 []) : W p l e ({ frames := 2, cells := 0, slots := 0, locals := 43 } : Room) s m args below meth c H locs 0 0 Q (F0 m 157 ls []) := by
  obtain ⟨hx, hb, hml, hown, hts⟩ := id X
  unfold f_X8_fitsFrom_157 at hf
  refine lv_iconst (v := (0 : Int32)) hx hb dX8_fitsFrom_157 (by decide) ?_
  exact w_X8_fitsFrom_158 (t0 := (0 : Int32)) X hret hf hM (lv_sub hl [] rfl)
def f_X8_fitsFrom_150 (t0 : Int32) (t1 : Int32) (S : ZS) : Option (Int32 × ZS) :=
  m_if (t1 = t0) (
  f_X8_fitsFrom_158 (1 : Int32) S
  ) (
  f_X8_fitsFrom_157  S
  )

set_option maxRecDepth 100000 in
set_option maxHeartbeats 4000000 in
theorem w_X8_fitsFrom_150 {p : Program} {l : Launch} {e : Env} {s : State} {m : MethodId} {args : Array Value} {below : List Frame} {meth : Method} {c : Code} {Q : State → Prop} {D : va_G} {y : Nat → ClassId} {A0 : Nat → Prop} {o : Int32 × ZS} (X : CallFix p m c cX8_fitsFrom 4 s args wsX8_fitsFrom RX8) (hret : zRi p l e ({ frames := 2, cells := 0, slots := 0, locals := 43 } : Room) s m args below meth c Q cX8_fitsFrom D y A0 .boolean o) {t0 : Int32} {t1 : Int32} {S : ZS} {H : Heap} {locs : List Loc} {ls : Array Slot} (hf : f_X8_fitsFrom_150 t0 t1 S = some o) (hM : zH D y A0 s H locs S) (hl : lv_has ls 4 []) : W p l e ({ frames := 2, cells := 0, slots := 0, locals := 43 } : Room) s m args below meth c H locs 0 0 Q (F0 m 150 ls [.int t0, .int t1]) := by
  obtain ⟨hx, hb, hml, hown, hts⟩ := id X
  unfold f_X8_fitsFrom_150 at hf
  refine lv_icmp_ne (tgt := 157) hx hb dX8_fitsFrom_150 (by decide) (fun cc1 => ?_) (fun cc1 => ?_)
  · replace hf := m_ifF hf cc1
    exact w_X8_fitsFrom_157 X hret hf hM (lv_sub hl [] rfl)
  · replace hf := m_ifT hf cc1
    refine lv_iconst (v := (1 : Int32)) hx hb dX8_fitsFrom_153 (by decide) ?_
    refine lv_goto (tgt := 158) hx hb dX8_fitsFrom_154 (by decide) ?_
    exact w_X8_fitsFrom_158 (t0 := (1 : Int32)) X hret hf hM (lv_sub hl [] rfl)
def f_X8_fitsFrom_129 (x0 : Nat) (x1 : Nat) (x2 : Int32) (S : ZS) : Option (Int32 × ZS) :=
  m_chk (zK S x0 = 8) (
  m_chk (zK S x1 = 0) (
  m_cal (f_X0_becomesAnother x1 x2 (zI S 6 x0) S) (fun o1 =>
  m_chk (zK o1.2 x0 = 8) (
  m_if ((zI o1.2 7 x0) = 0) (
  f_X8_fitsFrom_150 (0 : Int32) o1.1 o1.2
  ) (
  f_X8_fitsFrom_150 (1 : Int32) o1.1 o1.2
  )))))

set_option maxRecDepth 100000 in
set_option maxHeartbeats 4000000 in
theorem w_X8_fitsFrom_129 {p : Program} {l : Launch} {e : Env} {s : State} {m : MethodId} {args : Array Value} {below : List Frame} {meth : Method} {c : Code} {Q : State → Prop} {D : va_G} {y : Nat → ClassId} {A0 : Nat → Prop} {o : Int32 × ZS} (X : CallFix p m c cX8_fitsFrom 4 s args wsX8_fitsFrom RX8) (hret : zRi p l e ({ frames := 2, cells := 0, slots := 0, locals := 43 } : Room) s m args below meth c Q cX8_fitsFrom D y A0 .boolean o) {x0 : Nat} {x1 : Nat} {x2 : Int32} {S : ZS} {H : Heap} {locs : List Loc} {ls : Array Slot} (hf : f_X8_fitsFrom_129 x0 x1 x2 S = some o) (hM : zH D y A0 s H locs S) (hl : lv_has ls 4 [(0, .ref (zh y x0)), (1, .ref (zh y x1)), (2, .int x2)]) : W p l e ({ frames := 2, cells := 0, slots := 0, locals := 43 } : Room) s m args below meth c H locs 0 0 Q (F0 m 129 ls []) := by
  obtain ⟨hx, hb, hml, hown, hts⟩ := id X
  unfold f_X8_fitsFrom_129 at hf
  refine lv_aload_n hx hb dX8_fitsFrom_129 rfl (lv_at hl 1 rfl) ?_
  refine lv_iload_n hx hb dX8_fitsFrom_130 rfl (lv_at hl 2 rfl) ?_
  refine lv_aload_n hx hb dX8_fitsFrom_131 rfl (lv_at hl 0 rfl) ?_
  obtain ⟨ca, hf⟩ := m_chkE hf
  replace ca := z_in hM (by decide) ca
  refine z_get (k := 8) (j := 6) (C := RX8) (T := TX8) (N := 12) (fl := zf_8) (v := .int (zI S 6 x0)) X hw_X8_fitsFrom_8 hM rfl zc_8 ca (by decide) fl_X8_fitsFrom_8_6 rfl dX8_fitsFrom_132 ?_
  clear ca
  obtain ⟨ca, hf⟩ := m_chkE hf
  replace ca := z_in hM (by decide) ca
  obtain ⟨o1, ho, hf⟩ := m_calE hf
  refine z_callVi (k := 0) (C := RX0) (T := TX0) (N := 7) (fl := zf_0) X hM rfl zc_0 ca (c_X0_becomesAnother ho) gX8_fitsFrom_X0_becomesAnother rfl ⟨rfl, rfl⟩ hd_X0_becomesAnother ⟨Nat.le_of_ble_eq_true rfl, Nat.le_of_ble_eq_true rfl⟩ rfl hl.1 rfl (Nat.le_of_ble_eq_true rfl) dX8_fitsFrom_135 (fun H locs hM => ?_)
  clear ho
  refine lv_aload_n hx hb dX8_fitsFrom_138 rfl (lv_at hl 0 rfl) ?_
  obtain ⟨ca, hf⟩ := m_chkE hf
  replace ca := z_in hM (by decide) ca
  refine z_get (k := 8) (j := 7) (C := RX8) (T := TX8) (N := 12) (fl := zf_8) (v := .int (zI o1.2 7 x0)) X hw_X8_fitsFrom_8 hM rfl zc_8 ca (by decide) fl_X8_fitsFrom_8_7 rfl dX8_fitsFrom_139 ?_
  clear ca
  refine lv_if_eq (tgt := 149) hx hb dX8_fitsFrom_142 (by decide) (fun cc1 => ?_) (fun cc1 => ?_)
  · replace hf := m_ifT hf cc1
    refine lv_iconst (v := (0 : Int32)) hx hb dX8_fitsFrom_149 (by decide) ?_
    exact w_X8_fitsFrom_150 (t0 := (0 : Int32)) (t1 := o1.1) X hret hf hM (lv_sub hl [] rfl)
  · replace hf := m_ifF hf cc1
    refine lv_iconst (v := (1 : Int32)) hx hb dX8_fitsFrom_145 (by decide) ?_
    refine lv_goto (tgt := 150) hx hb dX8_fitsFrom_146 (by decide) ?_
    exact w_X8_fitsFrom_150 (t0 := (1 : Int32)) (t1 := o1.1) X hret hf hM (lv_sub hl [] rfl)
def f_X8_fitsFrom_126 (x0 : Nat) (x1 : Nat) (x2 : Int32) (t0 : Int32) (t1 : Int32) (S : ZS) : Option (Int32 × ZS) :=
  m_if (t1 = t0) (
  f_X8_fitsFrom_129 x0 x1 x2 S
  ) (
  f_X8_fitsFrom_157  S
  )

set_option maxRecDepth 100000 in
set_option maxHeartbeats 4000000 in
theorem w_X8_fitsFrom_126 {p : Program} {l : Launch} {e : Env} {s : State} {m : MethodId} {args : Array Value} {below : List Frame} {meth : Method} {c : Code} {Q : State → Prop} {D : va_G} {y : Nat → ClassId} {A0 : Nat → Prop} {o : Int32 × ZS} (X : CallFix p m c cX8_fitsFrom 4 s args wsX8_fitsFrom RX8) (hret : zRi p l e ({ frames := 2, cells := 0, slots := 0, locals := 43 } : Room) s m args below meth c Q cX8_fitsFrom D y A0 .boolean o) {x0 : Nat} {x1 : Nat} {x2 : Int32} {t0 : Int32} {t1 : Int32} {S : ZS} {H : Heap} {locs : List Loc} {ls : Array Slot} (hf : f_X8_fitsFrom_126 x0 x1 x2 t0 t1 S = some o) (hM : zH D y A0 s H locs S) (hl : lv_has ls 4 [(0, .ref (zh y x0)), (1, .ref (zh y x1)), (2, .int x2)]) : W p l e ({ frames := 2, cells := 0, slots := 0, locals := 43 } : Room) s m args below meth c H locs 0 0 Q (F0 m 126 ls [.int t0, .int t1]) := by
  obtain ⟨hx, hb, hml, hown, hts⟩ := id X
  unfold f_X8_fitsFrom_126 at hf
  refine lv_icmp_ne (tgt := 157) hx hb dX8_fitsFrom_126 (by decide) (fun cc1 => ?_) (fun cc1 => ?_)
  · replace hf := m_ifF hf cc1
    exact w_X8_fitsFrom_157 X hret hf hM (lv_sub hl [] rfl)
  · replace hf := m_ifT hf cc1
    exact w_X8_fitsFrom_129 (x0 := x0) (x1 := x1) (x2 := x2) X hret hf hM (lv_sub hl [0, 1, 2] rfl)
def f_X8_fitsFrom_104 (x0 : Nat) (x1 : Nat) (x2 : Int32) (x3 : Int32) (S : ZS) : Option (Int32 × ZS) :=
  m_chk (zK S x0 = 8) (
  m_if ((zI S 8 x0) = (-1 : Int32)) (
  f_X8_fitsFrom_129 x0 x1 x2 S
  ) (
  m_chk (zK S x0 = 8) (
  m_if ((zI S 8 x0) = (1 : Int32)) (
  f_X8_fitsFrom_126 x0 x1 x2 (1 : Int32) x3 S
  ) (
  f_X8_fitsFrom_126 x0 x1 x2 (0 : Int32) x3 S
  ))
  ))

set_option maxRecDepth 100000 in
set_option maxHeartbeats 4000000 in
theorem w_X8_fitsFrom_104 {p : Program} {l : Launch} {e : Env} {s : State} {m : MethodId} {args : Array Value} {below : List Frame} {meth : Method} {c : Code} {Q : State → Prop} {D : va_G} {y : Nat → ClassId} {A0 : Nat → Prop} {o : Int32 × ZS} (X : CallFix p m c cX8_fitsFrom 4 s args wsX8_fitsFrom RX8) (hret : zRi p l e ({ frames := 2, cells := 0, slots := 0, locals := 43 } : Room) s m args below meth c Q cX8_fitsFrom D y A0 .boolean o) {x0 : Nat} {x1 : Nat} {x2 : Int32} {x3 : Int32} {S : ZS} {H : Heap} {locs : List Loc} {ls : Array Slot} (hf : f_X8_fitsFrom_104 x0 x1 x2 x3 S = some o) (hM : zH D y A0 s H locs S) (hl : lv_has ls 4 [(0, .ref (zh y x0)), (1, .ref (zh y x1)), (2, .int x2), (3, .int x3)]) : W p l e ({ frames := 2, cells := 0, slots := 0, locals := 43 } : Room) s m args below meth c H locs 0 0 Q (F0 m 104 ls []) := by
  obtain ⟨hx, hb, hml, hown, hts⟩ := id X
  unfold f_X8_fitsFrom_104 at hf
  refine lv_aload_n hx hb dX8_fitsFrom_104 rfl (lv_at hl 0 rfl) ?_
  obtain ⟨ca, hf⟩ := m_chkE hf
  replace ca := z_in hM (by decide) ca
  refine z_get (k := 8) (j := 8) (C := RX8) (T := TX8) (N := 12) (fl := zf_8) (v := .int (zI S 8 x0)) X hw_X8_fitsFrom_8 hM rfl zc_8 ca (by decide) fl_X8_fitsFrom_8_8 rfl dX8_fitsFrom_105 ?_
  clear ca
  refine lv_iconst (v := (-1 : Int32)) hx hb dX8_fitsFrom_108 (by decide) ?_
  refine lv_icmp_eq (tgt := 129) hx hb dX8_fitsFrom_109 (by decide) (fun cc1 => ?_) (fun cc1 => ?_)
  · replace hf := m_ifT hf cc1
    exact w_X8_fitsFrom_129 (x0 := x0) (x1 := x1) (x2 := x2) X hret hf hM (lv_sub hl [0, 1, 2] rfl)
  · replace hf := m_ifF hf cc1
    refine lv_iload_n hx hb dX8_fitsFrom_112 rfl (lv_at hl 3 rfl) ?_
    refine lv_aload_n hx hb dX8_fitsFrom_113 rfl (lv_at hl 0 rfl) ?_
    obtain ⟨ca, hf⟩ := m_chkE hf
    replace ca := z_in hM (by decide) ca
    refine z_get (k := 8) (j := 8) (C := RX8) (T := TX8) (N := 12) (fl := zf_8) (v := .int (zI S 8 x0)) X hw_X8_fitsFrom_8 hM rfl zc_8 ca (by decide) fl_X8_fitsFrom_8_8 rfl dX8_fitsFrom_114 ?_
    clear ca
    refine lv_iconst (v := (1 : Int32)) hx hb dX8_fitsFrom_117 (by decide) ?_
    refine lv_icmp_ne (tgt := 125) hx hb dX8_fitsFrom_118 (by decide) (fun cc1 => ?_) (fun cc1 => ?_)
    · replace hf := m_ifF hf cc1
      refine lv_iconst (v := (0 : Int32)) hx hb dX8_fitsFrom_125 (by decide) ?_
      exact w_X8_fitsFrom_126 (x0 := x0) (x1 := x1) (x2 := x2) (t0 := (0 : Int32)) (t1 := x3) X hret hf hM (lv_sub hl [0, 1, 2] rfl)
    · replace hf := m_ifT hf cc1
      refine lv_iconst (v := (1 : Int32)) hx hb dX8_fitsFrom_121 (by decide) ?_
      refine lv_goto (tgt := 126) hx hb dX8_fitsFrom_122 (by decide) ?_
      exact w_X8_fitsFrom_126 (x0 := x0) (x1 := x1) (x2 := x2) (t0 := (1 : Int32)) (t1 := x3) X hret hf hM (lv_sub hl [0, 1, 2] rfl)
def f_X8_fitsFrom_72 (x0 : Nat) (x1 : Nat) (x2 : Int32) (S : ZS) : Option (Int32 × ZS) :=
  m_chk (zK S x0 = 8) (
  m_chk (zK S x1 = 0) (
  m_cal (f_X0_takes x1 x2 (zI S 6 x0) S) (fun o1 =>
  m_chk (zK o1.2 x0 = 8) (
  m_if ((zI o1.2 3 x0) = (1 : Int32)) (
  m_if (o1.1 = 0) (
  f_X8_fitsFrom_104 x0 x1 x2 o1.1 o1.2
  ) (
  m_chk (zK o1.2 x0 = 8) (
  m_if ((zI o1.2 4 x0) = (-1 : Int32)) (
  m_chk (vp_nar .boolean (0 : Int32) = (0 : Int32)) (some ((0 : Int32), o1.2))
  ) (
  f_X8_fitsFrom_104 x0 x1 x2 o1.1 o1.2
  ))
  )
  ) (
  f_X8_fitsFrom_104 x0 x1 x2 o1.1 o1.2
  )))))

set_option maxRecDepth 100000 in
set_option maxHeartbeats 4000000 in
theorem w_X8_fitsFrom_72 {p : Program} {l : Launch} {e : Env} {s : State} {m : MethodId} {args : Array Value} {below : List Frame} {meth : Method} {c : Code} {Q : State → Prop} {D : va_G} {y : Nat → ClassId} {A0 : Nat → Prop} {o : Int32 × ZS} (X : CallFix p m c cX8_fitsFrom 4 s args wsX8_fitsFrom RX8) (hret : zRi p l e ({ frames := 2, cells := 0, slots := 0, locals := 43 } : Room) s m args below meth c Q cX8_fitsFrom D y A0 .boolean o) {x0 : Nat} {x1 : Nat} {x2 : Int32} {S : ZS} {H : Heap} {locs : List Loc} {ls : Array Slot} (hf : f_X8_fitsFrom_72 x0 x1 x2 S = some o) (hM : zH D y A0 s H locs S) (hl : lv_has ls 4 [(0, .ref (zh y x0)), (1, .ref (zh y x1)), (2, .int x2)]) : W p l e ({ frames := 2, cells := 0, slots := 0, locals := 43 } : Room) s m args below meth c H locs 0 0 Q (F0 m 72 ls []) := by
  obtain ⟨hx, hb, hml, hown, hts⟩ := id X
  unfold f_X8_fitsFrom_72 at hf
  refine lv_aload_n hx hb dX8_fitsFrom_72 rfl (lv_at hl 1 rfl) ?_
  refine lv_iload_n hx hb dX8_fitsFrom_73 rfl (lv_at hl 2 rfl) ?_
  refine lv_aload_n hx hb dX8_fitsFrom_74 rfl (lv_at hl 0 rfl) ?_
  obtain ⟨ca, hf⟩ := m_chkE hf
  replace ca := z_in hM (by decide) ca
  refine z_get (k := 8) (j := 6) (C := RX8) (T := TX8) (N := 12) (fl := zf_8) (v := .int (zI S 6 x0)) X hw_X8_fitsFrom_8 hM rfl zc_8 ca (by decide) fl_X8_fitsFrom_8_6 rfl dX8_fitsFrom_75 ?_
  clear ca
  obtain ⟨ca, hf⟩ := m_chkE hf
  replace ca := z_in hM (by decide) ca
  obtain ⟨o1, ho, hf⟩ := m_calE hf
  refine z_callVi (k := 0) (C := RX0) (T := TX0) (N := 7) (fl := zf_0) X hM rfl zc_0 ca (c_X0_takes ho) gX8_fitsFrom_X0_takes rfl ⟨rfl, rfl⟩ hd_X0_takes ⟨Nat.le_of_ble_eq_true rfl, Nat.le_of_ble_eq_true rfl⟩ rfl hl.1 rfl (Nat.le_of_ble_eq_true rfl) dX8_fitsFrom_78 (fun H locs hM => ?_)
  clear ho
  refine lv_istore_n (lv' := [(3, .int o1.1), (0, .ref (zh y x0)), (1, .ref (zh y x1)), (2, .int x2)]) hx hb dX8_fitsFrom_81 rfl hl (by decide) rfl (fun ls hl => ?_)
  refine lv_aload_n hx hb dX8_fitsFrom_82 rfl (lv_at hl 1 rfl) ?_
  obtain ⟨ca, hf⟩ := m_chkE hf
  replace ca := z_in hM (by decide) ca
  refine z_get (k := 8) (j := 3) (C := RX8) (T := TX8) (N := 12) (fl := zf_8) (v := .int (zI o1.2 3 x0)) X hw_X8_fitsFrom_8 hM rfl zc_8 ca (by decide) fl_X8_fitsFrom_8_3 rfl dX8_fitsFrom_83 ?_
  clear ca
  refine lv_iconst (v := (1 : Int32)) hx hb dX8_fitsFrom_86 (by decide) ?_
  refine lv_icmp_ne (tgt := 104) hx hb dX8_fitsFrom_87 (by decide) (fun cc1 => ?_) (fun cc1 => ?_)
  · replace hf := m_ifF hf cc1
    exact w_X8_fitsFrom_104 (x0 := x0) (x1 := x1) (x2 := x2) (x3 := o1.1) X hret hf hM (lv_sub hl [1, 2, 3, 0] rfl)
  · replace hf := m_ifT hf cc1
    refine lv_iload_n hx hb dX8_fitsFrom_90 rfl (lv_at hl 0 rfl) ?_
    refine lv_if_eq (tgt := 104) hx hb dX8_fitsFrom_91 (by decide) (fun cc1 => ?_) (fun cc1 => ?_)
    · replace hf := m_ifT hf cc1
      exact w_X8_fitsFrom_104 (x0 := x0) (x1 := x1) (x2 := x2) (x3 := o1.1) X hret hf hM (lv_sub hl [1, 2, 3, 0] rfl)
    · replace hf := m_ifF hf cc1
      refine lv_aload_n hx hb dX8_fitsFrom_94 rfl (lv_at hl 1 rfl) ?_
      obtain ⟨ca, hf⟩ := m_chkE hf
      replace ca := z_in hM (by decide) ca
      refine z_get (k := 8) (j := 4) (C := RX8) (T := TX8) (N := 12) (fl := zf_8) (v := .int (zI o1.2 4 x0)) X hw_X8_fitsFrom_8 hM rfl zc_8 ca (by decide) fl_X8_fitsFrom_8_4 rfl dX8_fitsFrom_95 ?_
      clear ca
      refine lv_iconst (v := (-1 : Int32)) hx hb dX8_fitsFrom_98 (by decide) ?_
      refine lv_icmp_ne (tgt := 104) hx hb dX8_fitsFrom_99 (by decide) (fun cc1 => ?_) (fun cc1 => ?_)
      · replace hf := m_ifF hf cc1
        exact w_X8_fitsFrom_104 (x0 := x0) (x1 := x1) (x2 := x2) (x3 := o1.1) X hret hf hM (lv_sub hl [1, 2, 3, 0] rfl)
      · replace hf := m_ifT hf cc1
        refine lv_iconst (v := (0 : Int32)) hx hb dX8_fitsFrom_102 (by decide) ?_
        obtain ⟨cd, hf⟩ := m_chkE hf
        cases hf
        exact hret H locs _ ls hM (m_nb cd) dX8_fitsFrom_103
def f_X8_fitsFrom_52 (x0 : Nat) (x1 : Nat) (x2 : Int32) (S : ZS) : Option (Int32 × ZS) :=
  m_chk (zK S x0 = 8) (
  m_if ((zI S 5 x0) = (-1 : Int32)) (
  f_X8_fitsFrom_72 x0 x1 x2 S
  ) (
  m_chk (zK S x0 = 8) (
  m_bnd (x2 >>> ((3 : Int32) &&& 31)) (fun v1 =>
  m_if ((zI S 5 x0) = v1) (
  f_X8_fitsFrom_72 x0 x1 x2 S
  ) (
  f_X8_fitsFrom_70  S
  )))
  ))

set_option maxRecDepth 100000 in
set_option maxHeartbeats 4000000 in
theorem w_X8_fitsFrom_52 {p : Program} {l : Launch} {e : Env} {s : State} {m : MethodId} {args : Array Value} {below : List Frame} {meth : Method} {c : Code} {Q : State → Prop} {D : va_G} {y : Nat → ClassId} {A0 : Nat → Prop} {o : Int32 × ZS} (X : CallFix p m c cX8_fitsFrom 4 s args wsX8_fitsFrom RX8) (hret : zRi p l e ({ frames := 2, cells := 0, slots := 0, locals := 43 } : Room) s m args below meth c Q cX8_fitsFrom D y A0 .boolean o) {x0 : Nat} {x1 : Nat} {x2 : Int32} {S : ZS} {H : Heap} {locs : List Loc} {ls : Array Slot} (hf : f_X8_fitsFrom_52 x0 x1 x2 S = some o) (hM : zH D y A0 s H locs S) (hl : lv_has ls 4 [(0, .ref (zh y x0)), (1, .ref (zh y x1)), (2, .int x2)]) : W p l e ({ frames := 2, cells := 0, slots := 0, locals := 43 } : Room) s m args below meth c H locs 0 0 Q (F0 m 52 ls []) := by
  obtain ⟨hx, hb, hml, hown, hts⟩ := id X
  unfold f_X8_fitsFrom_52 at hf
  refine lv_aload_n hx hb dX8_fitsFrom_52 rfl (lv_at hl 0 rfl) ?_
  obtain ⟨ca, hf⟩ := m_chkE hf
  replace ca := z_in hM (by decide) ca
  refine z_get (k := 8) (j := 5) (C := RX8) (T := TX8) (N := 12) (fl := zf_8) (v := .int (zI S 5 x0)) X hw_X8_fitsFrom_8 hM rfl zc_8 ca (by decide) fl_X8_fitsFrom_8_5 rfl dX8_fitsFrom_53 ?_
  clear ca
  refine lv_iconst (v := (-1 : Int32)) hx hb dX8_fitsFrom_56 (by decide) ?_
  refine lv_icmp_eq (tgt := 72) hx hb dX8_fitsFrom_57 (by decide) (fun cc1 => ?_) (fun cc1 => ?_)
  · replace hf := m_ifT hf cc1
    exact w_X8_fitsFrom_72 (x0 := x0) (x1 := x1) (x2 := x2) X hret hf hM (lv_sub hl [0, 1, 2] rfl)
  · replace hf := m_ifF hf cc1
    refine lv_aload_n hx hb dX8_fitsFrom_60 rfl (lv_at hl 0 rfl) ?_
    obtain ⟨ca, hf⟩ := m_chkE hf
    replace ca := z_in hM (by decide) ca
    refine z_get (k := 8) (j := 5) (C := RX8) (T := TX8) (N := 12) (fl := zf_8) (v := .int (zI S 5 x0)) X hw_X8_fitsFrom_8 hM rfl zc_8 ca (by decide) fl_X8_fitsFrom_8_5 rfl dX8_fitsFrom_61 ?_
    clear ca
    refine lv_iload_n hx hb dX8_fitsFrom_64 rfl (lv_at hl 2 rfl) ?_
    refine lv_iconst (v := (3 : Int32)) hx hb dX8_fitsFrom_65 (by decide) ?_
    refine lv_ishr hx hb dX8_fitsFrom_66 ?_
    obtain ⟨v1, ev, hf⟩ := m_bndE hf
    refine m_top ev ?_
    clear ev
    refine lv_icmp_eq (tgt := 72) hx hb dX8_fitsFrom_67 (by decide) (fun cc1 => ?_) (fun cc1 => ?_)
    · replace hf := m_ifT hf cc1
      exact w_X8_fitsFrom_72 (x0 := x0) (x1 := x1) (x2 := x2) X hret hf hM (lv_sub hl [0, 1, 2] rfl)
    · replace hf := m_ifF hf cc1
      exact w_X8_fitsFrom_70 X hret hf hM (lv_sub hl [] rfl)
def f_X8_fitsFrom_0 (x0 : Nat) (x1 : Nat) (x2 : Int32) (S : ZS) : Option (Int32 × ZS) :=
  m_chk (zK S x1 = 0) (
  m_cal (zP S 0 x1) (fun b1 =>
  m_chk (zK S b1 = 14) (
  m_chk (¬ (x2 < 0 ∨ zN S b1 ≤ (x2).toNatClampNeg)) (
  m_bnd (zA S b1 (x2).toNatClampNeg) (fun v2 =>
  m_chk (zK S x0 = 8) (
  m_chk (zK S x1 = 0) (
  m_bnd ((8 : Int32) * (zI S 3 x1)) (fun v3 =>
  m_bnd ((zI S 3 x0) + v3) (fun v4 =>
  m_if (v2 = v4) (
  m_chk (zK S x0 = 8) (
  m_chk (zK S x1 = 0) (
  m_cal (f_X0_castles x1 x2 (zI S 6 x0) S) (fun o5 =>
  m_if (o5.1 = 0) (
  m_chk (zK o5.2 x0 = 8) (
  m_if ((zI o5.2 4 x0) = (-1 : Int32)) (
  f_X8_fitsFrom_52 x0 x1 x2 o5.2
  ) (
  m_chk (zK o5.2 x0 = 8) (
  m_bnd (x2 &&& (7 : Int32)) (fun v6 =>
  m_if ((zI o5.2 4 x0) = v6) (
  f_X8_fitsFrom_52 x0 x1 x2 o5.2
  ) (
  f_X8_fitsFrom_70  o5.2
  )))
  ))
  ) (
  f_X8_fitsFrom_70  o5.2
  ))))
  ) (
  f_X8_fitsFrom_70  S
  ))))))))))

set_option maxRecDepth 100000 in
set_option maxHeartbeats 4000000 in
theorem w_X8_fitsFrom_0 {p : Program} {l : Launch} {e : Env} {s : State} {m : MethodId} {args : Array Value} {below : List Frame} {meth : Method} {c : Code} {Q : State → Prop} {D : va_G} {y : Nat → ClassId} {A0 : Nat → Prop} {o : Int32 × ZS} (X : CallFix p m c cX8_fitsFrom 4 s args wsX8_fitsFrom RX8) (hret : zRi p l e ({ frames := 2, cells := 0, slots := 0, locals := 43 } : Room) s m args below meth c Q cX8_fitsFrom D y A0 .boolean o) {x0 : Nat} {x1 : Nat} {x2 : Int32} {S : ZS} {H : Heap} {locs : List Loc} {ls : Array Slot} (hf : f_X8_fitsFrom_0 x0 x1 x2 S = some o) (hM : zH D y A0 s H locs S) (hl : lv_has ls 4 [(0, .ref (zh y x0)), (1, .ref (zh y x1)), (2, .int x2)]) : W p l e ({ frames := 2, cells := 0, slots := 0, locals := 43 } : Room) s m args below meth c H locs 0 0 Q (F0 m 0 ls []) := by
  obtain ⟨hx, hb, hml, hown, hts⟩ := id X
  unfold f_X8_fitsFrom_0 at hf
  refine lv_aload_n hx hb dX8_fitsFrom_0 rfl (lv_at hl 1 rfl) ?_
  obtain ⟨ca, hf⟩ := m_chkE hf
  replace ca := z_in hM (by decide) ca
  refine z_get (k := 0) (j := 0) (C := RX0) (T := TX0) (N := 7) (fl := zf_0) (v := va_rf ((zP S 0 x1).map (zh y))) X hw_X8_fitsFrom_0 hM rfl zc_0 ca (by decide) fl_X8_fitsFrom_0_0 rfl dX8_fitsFrom_1 ?_
  clear ca
  obtain ⟨b1, hb9, hf⟩ := m_calE hf
  refine z_topr hb9 ?_
  clear hb9
  refine lv_iload_n hx hb dX8_fitsFrom_4 rfl (lv_at hl 2 rfl) ?_
  obtain ⟨ca, hf⟩ := m_chkE hf
  replace ca := z_in hM (by decide) ca
  obtain ⟨cd, hf⟩ := m_chkE hf
  refine z_iald X hM ca cd dX8_fitsFrom_5 ?_
  clear ca cd
  obtain ⟨v2, ev, hf⟩ := m_bndE hf
  refine m_top ev ?_
  clear ev
  refine lv_aload_n hx hb dX8_fitsFrom_6 rfl (lv_at hl 0 rfl) ?_
  obtain ⟨ca, hf⟩ := m_chkE hf
  replace ca := z_in hM (by decide) ca
  refine z_get (k := 8) (j := 3) (C := RX8) (T := TX8) (N := 12) (fl := zf_8) (v := .int (zI S 3 x0)) X hw_X8_fitsFrom_8 hM rfl zc_8 ca (by decide) fl_X8_fitsFrom_8_3 rfl dX8_fitsFrom_7 ?_
  clear ca
  refine lv_bipush (v := (8 : Int32)) hx hb dX8_fitsFrom_10 (by decide) ?_
  refine lv_aload_n hx hb dX8_fitsFrom_12 rfl (lv_at hl 1 rfl) ?_
  obtain ⟨ca, hf⟩ := m_chkE hf
  replace ca := z_in hM (by decide) ca
  refine z_get (k := 0) (j := 3) (C := RX0) (T := TX0) (N := 7) (fl := zf_0) (v := .int (zI S 3 x1)) X hw_X8_fitsFrom_0 hM rfl zc_0 ca (by decide) fl_X8_fitsFrom_0_3 rfl dX8_fitsFrom_13 ?_
  clear ca
  refine lv_imul hx hb dX8_fitsFrom_16 ?_
  obtain ⟨v3, ev, hf⟩ := m_bndE hf
  refine m_top ev ?_
  clear ev
  refine lv_iadd hx hb dX8_fitsFrom_17 ?_
  obtain ⟨v4, ev, hf⟩ := m_bndE hf
  refine m_top ev ?_
  clear ev
  refine lv_icmp_ne (tgt := 70) hx hb dX8_fitsFrom_18 (by decide) (fun cc1 => ?_) (fun cc1 => ?_)
  · replace hf := m_ifF hf cc1
    exact w_X8_fitsFrom_70 X hret hf hM (lv_sub hl [] rfl)
  · replace hf := m_ifT hf cc1
    refine lv_aload_n hx hb dX8_fitsFrom_21 rfl (lv_at hl 1 rfl) ?_
    refine lv_iload_n hx hb dX8_fitsFrom_22 rfl (lv_at hl 2 rfl) ?_
    refine lv_aload_n hx hb dX8_fitsFrom_23 rfl (lv_at hl 0 rfl) ?_
    obtain ⟨ca, hf⟩ := m_chkE hf
    replace ca := z_in hM (by decide) ca
    refine z_get (k := 8) (j := 6) (C := RX8) (T := TX8) (N := 12) (fl := zf_8) (v := .int (zI S 6 x0)) X hw_X8_fitsFrom_8 hM rfl zc_8 ca (by decide) fl_X8_fitsFrom_8_6 rfl dX8_fitsFrom_24 ?_
    clear ca
    obtain ⟨ca, hf⟩ := m_chkE hf
    replace ca := z_in hM (by decide) ca
    obtain ⟨o5, ho, hf⟩ := m_calE hf
    refine z_callVi (k := 0) (C := RX0) (T := TX0) (N := 7) (fl := zf_0) X hM rfl zc_0 ca (c_X0_castles ho) gX8_fitsFrom_X0_castles rfl ⟨rfl, rfl⟩ hd_X0_castles ⟨Nat.le_of_ble_eq_true rfl, Nat.le_of_ble_eq_true rfl⟩ rfl hl.1 rfl (Nat.le_of_ble_eq_true rfl) dX8_fitsFrom_27 (fun H locs hM => ?_)
    clear ho
    refine lv_if_ne (tgt := 70) hx hb dX8_fitsFrom_30 (by decide) (fun cc1 => ?_) (fun cc1 => ?_)
    · replace hf := m_ifF hf cc1
      exact w_X8_fitsFrom_70 X hret hf hM (lv_sub hl [] rfl)
    · replace hf := m_ifT hf cc1
      refine lv_aload_n hx hb dX8_fitsFrom_33 rfl (lv_at hl 0 rfl) ?_
      obtain ⟨ca, hf⟩ := m_chkE hf
      replace ca := z_in hM (by decide) ca
      refine z_get (k := 8) (j := 4) (C := RX8) (T := TX8) (N := 12) (fl := zf_8) (v := .int (zI o5.2 4 x0)) X hw_X8_fitsFrom_8 hM rfl zc_8 ca (by decide) fl_X8_fitsFrom_8_4 rfl dX8_fitsFrom_34 ?_
      clear ca
      refine lv_iconst (v := (-1 : Int32)) hx hb dX8_fitsFrom_37 (by decide) ?_
      refine lv_icmp_eq (tgt := 52) hx hb dX8_fitsFrom_38 (by decide) (fun cc1 => ?_) (fun cc1 => ?_)
      · replace hf := m_ifT hf cc1
        exact w_X8_fitsFrom_52 (x0 := x0) (x1 := x1) (x2 := x2) X hret hf hM (lv_sub hl [0, 1, 2] rfl)
      · replace hf := m_ifF hf cc1
        refine lv_aload_n hx hb dX8_fitsFrom_41 rfl (lv_at hl 0 rfl) ?_
        obtain ⟨ca, hf⟩ := m_chkE hf
        replace ca := z_in hM (by decide) ca
        refine z_get (k := 8) (j := 4) (C := RX8) (T := TX8) (N := 12) (fl := zf_8) (v := .int (zI o5.2 4 x0)) X hw_X8_fitsFrom_8 hM rfl zc_8 ca (by decide) fl_X8_fitsFrom_8_4 rfl dX8_fitsFrom_42 ?_
        clear ca
        refine lv_iload_n hx hb dX8_fitsFrom_45 rfl (lv_at hl 2 rfl) ?_
        refine lv_bipush (v := (7 : Int32)) hx hb dX8_fitsFrom_46 (by decide) ?_
        refine lv_iand hx hb dX8_fitsFrom_48 ?_
        obtain ⟨v6, ev, hf⟩ := m_bndE hf
        refine m_top ev ?_
        clear ev
        refine lv_icmp_ne (tgt := 70) hx hb dX8_fitsFrom_49 (by decide) (fun cc1 => ?_) (fun cc1 => ?_)
        · replace hf := m_ifF hf cc1
          exact w_X8_fitsFrom_70 X hret hf hM (lv_sub hl [] rfl)
        · replace hf := m_ifT hf cc1
          exact w_X8_fitsFrom_52 (x0 := x0) (x1 := x1) (x2 := x2) X hret hf hM (lv_sub hl [0, 1, 2] rfl)
def f_X8_fitsFrom (x0 : Nat) (x1 : Nat) (x2 : Int32) (S : ZS) : Option (Int32 × ZS) := f_X8_fitsFrom_0 x0 x1 x2 S
theorem c_X8_fitsFrom {l : Launch} {D : va_G} {y : Nat → ClassId} {x0 : Nat} {x1 : Nat} {x2 : Int32} {S : ZS} {o : Int32 × ZS} (hf : f_X8_fitsFrom x0 x1 x2 S = some o) : zMi l yX8_fitsFrom wsX8_fitsFrom ({ frames := 2, cells := 0, slots := 0, locals := 43 } : Room) [.ref (zh y x0), .ref (zh y x1), .int x2] D y S o :=
  z_entryI (own := RX8) (cc := cX8_fitsFrom) (maxL := 4) (by decide) rfl rfl (Nat.le_of_ble_eq_true rfl) (fun p e s m args below meth c A0 Q H locs ls X hret hM hl => w_X8_fitsFrom_0 X hret hf hM (lv_sub hl [0, 1, 2] rfl))
theorem hd_X7_isSafe : yX7_isSafe.cls = RX7 ∧ yX7_isSafe.cls ≠ "java/lang/invoke/MethodHandle" ∧ yX7_isSafe.cls ≠ "java/lang/invoke/VarHandle" ∧ (parseMethodDescriptor yX7_isSafe.desc).map (fun d => d.parameters.length) = some 2 := by decide +kernel
theorem fl_X7_isSafe_0_3 : Cond.fieldLink RX7 21 "MoveTexts$Board" "side" "I" ∈ wsX7_isSafe := by decide +kernel
theorem fl_X7_isSafe_7_0 : Cond.fieldLink RX7 12 "MoveTexts$Rules" "trial" "LMoveTexts$Board;" ∈ wsX7_isSafe := by decide +kernel
theorem hw_X7_isSafe_0 : ∀ w ∈ wsX00, w ∈ wsX7_isSafe := by decide +kernel
theorem hw_X7_isSafe_7 : ∀ w ∈ wsX70, w ∈ wsX7_isSafe := by decide +kernel
def f_X7_isSafe_105 (t0 : Int32) (S : ZS) : Option (Int32 × ZS) :=
  m_chk (vp_nar .boolean t0 = t0) (some (t0, S))

set_option maxRecDepth 100000 in
set_option maxHeartbeats 4000000 in
theorem w_X7_isSafe_105 {p : Program} {l : Launch} {e : Env} {s : State} {m : MethodId} {args : Array Value} {below : List Frame} {meth : Method} {c : Code} {Q : State → Prop} {D : va_G} {y : Nat → ClassId} {A0 : Nat → Prop} {o : Int32 × ZS} (X : CallFix p m c cX7_isSafe 6 s args wsX7_isSafe RX7) (hret : zRi p l e ({ frames := 2, cells := 0, slots := 0, locals := 81 } : Room) s m args below meth c Q cX7_isSafe D y A0 .boolean o) {t0 : Int32} {S : ZS} {H : Heap} {locs : List Loc} {ls : Array Slot} (hf : f_X7_isSafe_105 t0 S = some o) (hM : zH D y A0 s H locs S) (hl : lv_has ls 6 []) : W p l e ({ frames := 2, cells := 0, slots := 0, locals := 81 } : Room) s m args below meth c H locs 0 0 Q (F0 m 105 ls [.int t0]) := by
  obtain ⟨hx, hb, hml, hown, hts⟩ := id X
  unfold f_X7_isSafe_105 at hf
  obtain ⟨cd, hf⟩ := m_chkE hf
  cases hf
  exact hret H locs _ ls hM (m_nb cd) dX7_isSafe_105
def f_X7_isSafe_61 (x0 : Nat) (x1 : Nat) (x2 : Int32) (x5 : Int32) (S : ZS) : Option (Int32 × ZS) :=
  m_chk (zK S x0 = 7) (
  m_cal (zP S 0 x0) (fun b1 =>
  m_chk (zK S b1 = 0) (
  m_cal (f_X0_copyFrom b1 x1 S) (fun o2 =>
  m_chk (zK o2.2 x0 = 7) (
  m_cal (zP o2.2 0 x0) (fun b3 =>
  m_chk (zK o2.2 b3 = 0) (
  m_cal (f_X0_play b3 x2 o2.2) (fun o4 =>
  m_chk (zK o4.2 x0 = 7) (
  m_cal (zP o4.2 0 x0) (fun b5 =>
  m_chk (zK o4.2 x0 = 7) (
  m_cal (zP o4.2 0 x0) (fun b6 =>
  m_chk (zK o4.2 b6 = 0) (
  m_cal (f_X0_kingOf b6 x5 o4.2) (fun o7 =>
  m_bnd ((1 : Int32) - x5) (fun v8 =>
  m_chk (zK o7.2 b5 = 0) (
  m_cal (f_X0_attacked b5 o7.1 v8 o7.2) (fun o9 =>
  m_if (o9.1 = 0) (
  f_X7_isSafe_105 (1 : Int32) o9.2
  ) (
  f_X7_isSafe_105 (0 : Int32) o9.2
  ))))))))))))))))))

set_option maxRecDepth 100000 in
set_option maxHeartbeats 4000000 in
theorem w_X7_isSafe_61 {p : Program} {l : Launch} {e : Env} {s : State} {m : MethodId} {args : Array Value} {below : List Frame} {meth : Method} {c : Code} {Q : State → Prop} {D : va_G} {y : Nat → ClassId} {A0 : Nat → Prop} {o : Int32 × ZS} (X : CallFix p m c cX7_isSafe 6 s args wsX7_isSafe RX7) (hret : zRi p l e ({ frames := 2, cells := 0, slots := 0, locals := 81 } : Room) s m args below meth c Q cX7_isSafe D y A0 .boolean o) {x0 : Nat} {x1 : Nat} {x2 : Int32} {x5 : Int32} {S : ZS} {H : Heap} {locs : List Loc} {ls : Array Slot} (hf : f_X7_isSafe_61 x0 x1 x2 x5 S = some o) (hM : zH D y A0 s H locs S) (hl : lv_has ls 6 [(0, .ref (zh y x0)), (1, .ref (zh y x1)), (2, .int x2), (5, .int x5)]) : W p l e ({ frames := 2, cells := 0, slots := 0, locals := 81 } : Room) s m args below meth c H locs 0 0 Q (F0 m 61 ls []) := by
  obtain ⟨hx, hb, hml, hown, hts⟩ := id X
  unfold f_X7_isSafe_61 at hf
  refine lv_aload_n hx hb dX7_isSafe_61 rfl (lv_at hl 0 rfl) ?_
  obtain ⟨ca, hf⟩ := m_chkE hf
  replace ca := z_in hM (by decide) ca
  refine z_get (k := 7) (j := 0) (C := RX7) (T := TX7) (N := 2) (fl := zf_7) (v := va_rf ((zP S 0 x0).map (zh y))) X hw_X7_isSafe_7 hM rfl zc_7 ca (by decide) fl_X7_isSafe_7_0 rfl dX7_isSafe_62 ?_
  clear ca
  obtain ⟨b1, hb9, hf⟩ := m_calE hf
  refine z_topr hb9 ?_
  clear hb9
  refine lv_aload_n hx hb dX7_isSafe_65 rfl (lv_at hl 1 rfl) ?_
  obtain ⟨ca, hf⟩ := m_chkE hf
  replace ca := z_in hM (by decide) ca
  obtain ⟨o2, ho, hf⟩ := m_calE hf
  refine z_callVv (k := 0) (C := RX0) (T := TX0) (N := 7) (fl := zf_0) X hM rfl zc_0 ca (c_X0_copyFrom ho) gX7_isSafe_X0_copyFrom rfl ⟨rfl, rfl⟩ hd_X0_copyFrom ⟨Nat.le_of_ble_eq_true rfl, Nat.le_of_ble_eq_true rfl⟩ rfl hl.1 rfl (Nat.le_of_ble_eq_true rfl) dX7_isSafe_66 (fun H locs hM => ?_)
  clear ho
  refine lv_aload_n hx hb dX7_isSafe_69 rfl (lv_at hl 0 rfl) ?_
  obtain ⟨ca, hf⟩ := m_chkE hf
  replace ca := z_in hM (by decide) ca
  refine z_get (k := 7) (j := 0) (C := RX7) (T := TX7) (N := 2) (fl := zf_7) (v := va_rf ((zP o2.2 0 x0).map (zh y))) X hw_X7_isSafe_7 hM rfl zc_7 ca (by decide) fl_X7_isSafe_7_0 rfl dX7_isSafe_70 ?_
  clear ca
  obtain ⟨b3, hb9, hf⟩ := m_calE hf
  refine z_topr hb9 ?_
  clear hb9
  refine lv_iload_n hx hb dX7_isSafe_73 rfl (lv_at hl 2 rfl) ?_
  obtain ⟨ca, hf⟩ := m_chkE hf
  replace ca := z_in hM (by decide) ca
  obtain ⟨o4, ho, hf⟩ := m_calE hf
  refine z_callVv (k := 0) (C := RX0) (T := TX0) (N := 7) (fl := zf_0) X hM rfl zc_0 ca (c_X0_play ho) gX7_isSafe_X0_play rfl ⟨rfl, rfl⟩ hd_X0_play ⟨Nat.le_of_ble_eq_true rfl, Nat.le_of_ble_eq_true rfl⟩ rfl hl.1 rfl (Nat.le_of_ble_eq_true rfl) dX7_isSafe_74 (fun H locs hM => ?_)
  clear ho
  refine lv_aload_n hx hb dX7_isSafe_77 rfl (lv_at hl 0 rfl) ?_
  obtain ⟨ca, hf⟩ := m_chkE hf
  replace ca := z_in hM (by decide) ca
  refine z_get (k := 7) (j := 0) (C := RX7) (T := TX7) (N := 2) (fl := zf_7) (v := va_rf ((zP o4.2 0 x0).map (zh y))) X hw_X7_isSafe_7 hM rfl zc_7 ca (by decide) fl_X7_isSafe_7_0 rfl dX7_isSafe_78 ?_
  clear ca
  obtain ⟨b5, hb9, hf⟩ := m_calE hf
  refine z_topr hb9 ?_
  clear hb9
  refine lv_aload_n hx hb dX7_isSafe_81 rfl (lv_at hl 0 rfl) ?_
  obtain ⟨ca, hf⟩ := m_chkE hf
  replace ca := z_in hM (by decide) ca
  refine z_get (k := 7) (j := 0) (C := RX7) (T := TX7) (N := 2) (fl := zf_7) (v := va_rf ((zP o4.2 0 x0).map (zh y))) X hw_X7_isSafe_7 hM rfl zc_7 ca (by decide) fl_X7_isSafe_7_0 rfl dX7_isSafe_82 ?_
  clear ca
  obtain ⟨b6, hb9, hf⟩ := m_calE hf
  refine z_topr hb9 ?_
  clear hb9
  refine lv_iload hx hb dX7_isSafe_85 (lv_at hl 3 rfl) ?_
  obtain ⟨ca, hf⟩ := m_chkE hf
  replace ca := z_in hM (by decide) ca
  obtain ⟨o7, ho, hf⟩ := m_calE hf
  refine z_callVi (k := 0) (C := RX0) (T := TX0) (N := 7) (fl := zf_0) X hM rfl zc_0 ca (c_X0_kingOf ho) gX7_isSafe_X0_kingOf rfl ⟨rfl, rfl⟩ hd_X0_kingOf ⟨Nat.le_of_ble_eq_true rfl, Nat.le_of_ble_eq_true rfl⟩ rfl hl.1 rfl (Nat.le_of_ble_eq_true rfl) dX7_isSafe_87 (fun H locs hM => ?_)
  clear ho
  refine lv_iconst (v := (1 : Int32)) hx hb dX7_isSafe_90 (by decide) ?_
  refine lv_iload hx hb dX7_isSafe_91 (lv_at hl 3 rfl) ?_
  refine lv_isub hx hb dX7_isSafe_93 ?_
  obtain ⟨v8, ev, hf⟩ := m_bndE hf
  refine m_top ev ?_
  clear ev
  obtain ⟨ca, hf⟩ := m_chkE hf
  replace ca := z_in hM (by decide) ca
  obtain ⟨o9, ho, hf⟩ := m_calE hf
  refine z_callVi (k := 0) (C := RX0) (T := TX0) (N := 7) (fl := zf_0) X hM rfl zc_0 ca (c_X0_attacked ho) gX7_isSafe_X0_attacked rfl ⟨rfl, rfl⟩ hd_X0_attacked ⟨Nat.le_of_ble_eq_true rfl, Nat.le_of_ble_eq_true rfl⟩ rfl hl.1 rfl (Nat.le_of_ble_eq_true rfl) dX7_isSafe_94 (fun H locs hM => ?_)
  clear ho
  refine lv_if_ne (tgt := 104) hx hb dX7_isSafe_97 (by decide) (fun cc1 => ?_) (fun cc1 => ?_)
  · replace hf := m_ifF hf cc1
    refine lv_iconst (v := (0 : Int32)) hx hb dX7_isSafe_104 (by decide) ?_
    exact w_X7_isSafe_105 (t0 := (0 : Int32)) X hret hf hM (lv_sub hl [] rfl)
  · replace hf := m_ifT hf cc1
    refine lv_iconst (v := (1 : Int32)) hx hb dX7_isSafe_100 (by decide) ?_
    refine lv_goto (tgt := 105) hx hb dX7_isSafe_101 (by decide) ?_
    exact w_X7_isSafe_105 (t0 := (1 : Int32)) X hret hf hM (lv_sub hl [] rfl)
def f_X7_isSafe_59 (S : ZS) : Option (Int32 × ZS) :=
  m_chk (vp_nar .boolean (0 : Int32) = (0 : Int32)) (some ((0 : Int32), S))

set_option maxRecDepth 100000 in
set_option maxHeartbeats 4000000 in
theorem w_X7_isSafe_59 {p : Program} {l : Launch} {e : Env} {s : State} {m : MethodId} {args : Array Value} {below : List Frame} {meth : Method} {c : Code} {Q : State → Prop} {D : va_G} {y : Nat → ClassId} {A0 : Nat → Prop} {o : Int32 × ZS} (X : CallFix p m c cX7_isSafe 6 s args wsX7_isSafe RX7) (hret : zRi p l e ({ frames := 2, cells := 0, slots := 0, locals := 81 } : Room) s m args below meth c Q cX7_isSafe D y A0 .boolean o) {S : ZS} {H : Heap} {locs : List Loc} {ls : Array Slot} (hf : f_X7_isSafe_59  S = some o) (hM : zH D y A0 s H locs S) (hl : lv_has ls 6 []) : W p l e ({ frames := 2, cells := 0, slots := 0, locals := 81 } : Room) s m args below meth c H locs 0 0 Q (F0 m 59 ls []) := by
  obtain ⟨hx, hb, hml, hown, hts⟩ := id X
  unfold f_X7_isSafe_59 at hf
  refine lv_iconst (v := (0 : Int32)) hx hb dX7_isSafe_59 (by decide) ?_
  obtain ⟨cd, hf⟩ := m_chkE hf
  cases hf
  exact hret H locs _ ls hM (m_nb cd) dX7_isSafe_60
def f_X7_isSafe_0 (x0 : Nat) (x1 : Nat) (x2 : Int32) (S : ZS) : Option (Int32 × ZS) :=
  m_bnd (x2 &&& (63 : Int32)) (fun v1 =>
  m_bnd (x2 >>> ((6 : Int32) &&& 31)) (fun v2 =>
  m_bnd (v2 &&& (63 : Int32)) (fun v3 =>
  m_chk (zK S x1 = 0) (
  m_chk (zK S x1 = 0) (
  m_cal (f_X0_castles x1 v1 v3 S) (fun o4 =>
  m_if (o4.1 = 0) (
  f_X7_isSafe_61 x0 x1 x2 (zI S 3 x1) o4.2
  ) (
  m_bnd ((1 : Int32) - (zI S 3 x1)) (fun v5 =>
  m_chk (zK o4.2 x1 = 0) (
  m_cal (f_X0_attacked x1 v1 v5 o4.2) (fun o6 =>
  m_if (o6.1 = 0) (
  m_bnd (v1 + v3) (fun v7 =>
  m_bnd (v7 / (2 : Int32)) (fun v8 =>
  m_bnd ((1 : Int32) - (zI S 3 x1)) (fun v9 =>
  m_chk (zK o6.2 x1 = 0) (
  m_cal (f_X0_attacked x1 v8 v9 o6.2) (fun o10 =>
  m_if (o10.1 = 0) (
  f_X7_isSafe_61 x0 x1 x2 (zI S 3 x1) o10.2
  ) (
  f_X7_isSafe_59  o10.2
  ))))))
  ) (
  f_X7_isSafe_59  o6.2
  ))))
  )))))))

set_option maxRecDepth 100000 in
set_option maxHeartbeats 4000000 in
theorem w_X7_isSafe_0 {p : Program} {l : Launch} {e : Env} {s : State} {m : MethodId} {args : Array Value} {below : List Frame} {meth : Method} {c : Code} {Q : State → Prop} {D : va_G} {y : Nat → ClassId} {A0 : Nat → Prop} {o : Int32 × ZS} (X : CallFix p m c cX7_isSafe 6 s args wsX7_isSafe RX7) (hret : zRi p l e ({ frames := 2, cells := 0, slots := 0, locals := 81 } : Room) s m args below meth c Q cX7_isSafe D y A0 .boolean o) {x0 : Nat} {x1 : Nat} {x2 : Int32} {S : ZS} {H : Heap} {locs : List Loc} {ls : Array Slot} (hf : f_X7_isSafe_0 x0 x1 x2 S = some o) (hM : zH D y A0 s H locs S) (hl : lv_has ls 6 [(0, .ref (zh y x0)), (1, .ref (zh y x1)), (2, .int x2)]) : W p l e ({ frames := 2, cells := 0, slots := 0, locals := 81 } : Room) s m args below meth c H locs 0 0 Q (F0 m 0 ls []) := by
  obtain ⟨hx, hb, hml, hown, hts⟩ := id X
  unfold f_X7_isSafe_0 at hf
  refine lv_iload_n hx hb dX7_isSafe_0 rfl (lv_at hl 2 rfl) ?_
  refine lv_bipush (v := (63 : Int32)) hx hb dX7_isSafe_1 (by decide) ?_
  refine lv_iand hx hb dX7_isSafe_3 ?_
  obtain ⟨v1, ev, hf⟩ := m_bndE hf
  refine m_top ev ?_
  clear ev
  refine lv_istore_n (lv' := [(3, .int v1), (0, .ref (zh y x0)), (1, .ref (zh y x1)), (2, .int x2)]) hx hb dX7_isSafe_4 rfl hl (by decide) rfl (fun ls hl => ?_)
  refine lv_iload_n hx hb dX7_isSafe_5 rfl (lv_at hl 3 rfl) ?_
  refine lv_bipush (v := (6 : Int32)) hx hb dX7_isSafe_6 (by decide) ?_
  refine lv_ishr hx hb dX7_isSafe_8 ?_
  obtain ⟨v2, ev, hf⟩ := m_bndE hf
  refine m_top ev ?_
  clear ev
  refine lv_bipush (v := (63 : Int32)) hx hb dX7_isSafe_9 (by decide) ?_
  refine lv_iand hx hb dX7_isSafe_11 ?_
  obtain ⟨v3, ev, hf⟩ := m_bndE hf
  refine m_top ev ?_
  clear ev
  refine lv_istore (lv' := [(4, .int v3), (3, .int v1), (0, .ref (zh y x0)), (1, .ref (zh y x1)), (2, .int x2)]) hx hb dX7_isSafe_12 hl (by decide) rfl (fun ls hl => ?_)
  refine lv_aload_n hx hb dX7_isSafe_14 rfl (lv_at hl 3 rfl) ?_
  obtain ⟨ca, hf⟩ := m_chkE hf
  replace ca := z_in hM (by decide) ca
  refine z_get (k := 0) (j := 3) (C := RX0) (T := TX0) (N := 7) (fl := zf_0) (v := .int (zI S 3 x1)) X hw_X7_isSafe_0 hM rfl zc_0 ca (by decide) fl_X7_isSafe_0_3 rfl dX7_isSafe_15 ?_
  clear ca
  refine lv_istore (lv' := [(5, .int (zI S 3 x1)), (4, .int v3), (3, .int v1), (0, .ref (zh y x0)), (1, .ref (zh y x1)), (2, .int x2)]) hx hb dX7_isSafe_18 hl (by decide) rfl (fun ls hl => ?_)
  refine lv_aload_n hx hb dX7_isSafe_20 rfl (lv_at hl 4 rfl) ?_
  refine lv_iload_n hx hb dX7_isSafe_21 rfl (lv_at hl 2 rfl) ?_
  refine lv_iload hx hb dX7_isSafe_22 (lv_at hl 1 rfl) ?_
  obtain ⟨ca, hf⟩ := m_chkE hf
  replace ca := z_in hM (by decide) ca
  obtain ⟨o4, ho, hf⟩ := m_calE hf
  refine z_callVi (k := 0) (C := RX0) (T := TX0) (N := 7) (fl := zf_0) X hM rfl zc_0 ca (c_X0_castles ho) gX7_isSafe_X0_castles rfl ⟨rfl, rfl⟩ hd_X0_castles ⟨Nat.le_of_ble_eq_true rfl, Nat.le_of_ble_eq_true rfl⟩ rfl hl.1 rfl (Nat.le_of_ble_eq_true rfl) dX7_isSafe_24 (fun H locs hM => ?_)
  clear ho
  refine lv_if_eq (tgt := 61) hx hb dX7_isSafe_27 (by decide) (fun cc1 => ?_) (fun cc1 => ?_)
  · replace hf := m_ifT hf cc1
    exact w_X7_isSafe_61 (x0 := x0) (x1 := x1) (x2 := x2) (x5 := (zI S 3 x1)) X hret hf hM (lv_sub hl [3, 4, 5, 0] rfl)
  · replace hf := m_ifF hf cc1
    refine lv_aload_n hx hb dX7_isSafe_30 rfl (lv_at hl 4 rfl) ?_
    refine lv_iload_n hx hb dX7_isSafe_31 rfl (lv_at hl 2 rfl) ?_
    refine lv_iconst (v := (1 : Int32)) hx hb dX7_isSafe_32 (by decide) ?_
    refine lv_iload hx hb dX7_isSafe_33 (lv_at hl 0 rfl) ?_
    refine lv_isub hx hb dX7_isSafe_35 ?_
    obtain ⟨v5, ev, hf⟩ := m_bndE hf
    refine m_top ev ?_
    clear ev
    obtain ⟨ca, hf⟩ := m_chkE hf
    replace ca := z_in hM (by decide) ca
    obtain ⟨o6, ho, hf⟩ := m_calE hf
    refine z_callVi (k := 0) (C := RX0) (T := TX0) (N := 7) (fl := zf_0) X hM rfl zc_0 ca (c_X0_attacked ho) gX7_isSafe_X0_attacked rfl ⟨rfl, rfl⟩ hd_X0_attacked ⟨Nat.le_of_ble_eq_true rfl, Nat.le_of_ble_eq_true rfl⟩ rfl hl.1 rfl (Nat.le_of_ble_eq_true rfl) dX7_isSafe_36 (fun H locs hM => ?_)
    clear ho
    refine lv_if_ne (tgt := 59) hx hb dX7_isSafe_39 (by decide) (fun cc1 => ?_) (fun cc1 => ?_)
    · replace hf := m_ifF hf cc1
      exact w_X7_isSafe_59 X hret hf hM (lv_sub hl [] rfl)
    · replace hf := m_ifT hf cc1
      refine lv_aload_n hx hb dX7_isSafe_42 rfl (lv_at hl 4 rfl) ?_
      refine lv_iload_n hx hb dX7_isSafe_43 rfl (lv_at hl 2 rfl) ?_
      refine lv_iload hx hb dX7_isSafe_44 (lv_at hl 1 rfl) ?_
      refine lv_iadd hx hb dX7_isSafe_46 ?_
      obtain ⟨v7, ev, hf⟩ := m_bndE hf
      refine m_top ev ?_
      clear ev
      refine lv_iconst (v := (2 : Int32)) hx hb dX7_isSafe_47 (by decide) ?_
      refine lv_idiv hx hb dX7_isSafe_48 (by decide) ?_
      obtain ⟨v8, ev, hf⟩ := m_bndE hf
      refine m_top ev ?_
      clear ev
      refine lv_iconst (v := (1 : Int32)) hx hb dX7_isSafe_49 (by decide) ?_
      refine lv_iload hx hb dX7_isSafe_50 (lv_at hl 0 rfl) ?_
      refine lv_isub hx hb dX7_isSafe_52 ?_
      obtain ⟨v9, ev, hf⟩ := m_bndE hf
      refine m_top ev ?_
      clear ev
      obtain ⟨ca, hf⟩ := m_chkE hf
      replace ca := z_in hM (by decide) ca
      obtain ⟨o10, ho, hf⟩ := m_calE hf
      refine z_callVi (k := 0) (C := RX0) (T := TX0) (N := 7) (fl := zf_0) X hM rfl zc_0 ca (c_X0_attacked ho) gX7_isSafe_X0_attacked rfl ⟨rfl, rfl⟩ hd_X0_attacked ⟨Nat.le_of_ble_eq_true rfl, Nat.le_of_ble_eq_true rfl⟩ rfl hl.1 rfl (Nat.le_of_ble_eq_true rfl) dX7_isSafe_53 (fun H locs hM => ?_)
      clear ho
      refine lv_if_eq (tgt := 61) hx hb dX7_isSafe_56 (by decide) (fun cc1 => ?_) (fun cc1 => ?_)
      · replace hf := m_ifT hf cc1
        exact w_X7_isSafe_61 (x0 := x0) (x1 := x1) (x2 := x2) (x5 := (zI S 3 x1)) X hret hf hM (lv_sub hl [3, 4, 5, 0] rfl)
      · replace hf := m_ifF hf cc1
        exact w_X7_isSafe_59 X hret hf hM (lv_sub hl [] rfl)
def f_X7_isSafe (x0 : Nat) (x1 : Nat) (x2 : Int32) (S : ZS) : Option (Int32 × ZS) := f_X7_isSafe_0 x0 x1 x2 S
theorem c_X7_isSafe {l : Launch} {D : va_G} {y : Nat → ClassId} {x0 : Nat} {x1 : Nat} {x2 : Int32} {S : ZS} {o : Int32 × ZS} (hf : f_X7_isSafe x0 x1 x2 S = some o) : zMi l yX7_isSafe wsX7_isSafe ({ frames := 2, cells := 0, slots := 0, locals := 81 } : Room) [.ref (zh y x0), .ref (zh y x1), .int x2] D y S o :=
  z_entryI (own := RX7) (cc := cX7_isSafe) (maxL := 6) (by decide) rfl rfl (Nat.le_of_ble_eq_true rfl) (fun p e s m args below meth c A0 Q H locs ls X hret hM hl => w_X7_isSafe_0 X hret hf hM (lv_sub hl [0, 1, 2] rfl))
theorem hd_X8_gather : yX8_gather.cls = RX8 ∧ yX8_gather.cls ≠ "java/lang/invoke/MethodHandle" ∧ yX8_gather.cls ≠ "java/lang/invoke/VarHandle" ∧ (parseMethodDescriptor yX8_gather.desc).map (fun d => d.parameters.length) = some 1 := by decide +kernel
theorem fl_X8_gather_0_3 : Cond.fieldLink RX8 120 "MoveTexts$Board" "side" "I" ∈ wsX8_gather := by decide +kernel
theorem fl_X8_gather_8_0 : Cond.fieldLink RX8 12 "MoveTexts$SignReader" "rules" "LMoveTexts$Rules;" ∈ wsX8_gather := by decide +kernel
theorem fl_X8_gather_8_10 : Cond.fieldLink RX8 25 "MoveTexts$SignReader" "fitting" "[I" ∈ wsX8_gather := by decide +kernel
theorem fl_X8_gather_8_11 : Cond.fieldLink RX8 41 "MoveTexts$SignReader" "fits" "I" ∈ wsX8_gather := by decide +kernel
theorem fl_X8_gather_8_2 : Cond.fieldLink RX8 86 "MoveTexts$SignReader" "castling" "I" ∈ wsX8_gather := by decide +kernel
theorem fl_X8_gather_8_6 : Cond.fieldLink RX8 100 "MoveTexts$SignReader" "to" "I" ∈ wsX8_gather := by decide +kernel
theorem fl_X8_gather_8_7 : Cond.fieldLink RX8 75 "MoveTexts$SignReader" "becomes" "I" ∈ wsX8_gather := by decide +kernel
theorem hw_X8_gather_0 : ∀ w ∈ wsX00, w ∈ wsX8_gather := by decide +kernel
theorem hw_X8_gather_8 : ∀ w ∈ wsX80, w ∈ wsX8_gather := by decide +kernel
def f_X8_gather_155 (self38 : Nat → Nat → Int32 → Int32 → ZS → Option (Int32 × ZS)) (x0 : Nat) (x1 : Nat) (x2 : Int32) (x3 : Int32) (S : ZS) : Option (Int32 × ZS) :=
  m_bnd (x3 + (1 : Int32)) (fun v1 =>
  self38 x0 x1 x2 v1 S)

set_option maxRecDepth 100000 in
set_option maxHeartbeats 4000000 in
theorem w_X8_gather_155 {p : Program} {l : Launch} {e : Env} {s : State} {m : MethodId} {args : Array Value} {below : List Frame} {meth : Method} {c : Code} {Q : State → Prop} {D : va_G} {y : Nat → ClassId} {A0 : Nat → Prop} {o : Int32 × ZS} (X : CallFix p m c cX8_gather 6 s args wsX8_gather RX8) (hret : zRv p l e ({ frames := 3, cells := 0, slots := 0, locals := 106 } : Room) s m args below meth c Q cX8_gather D y A0 o) {self38 : Nat → Nat → Int32 → Int32 → ZS → Option (Int32 × ZS)} (hself38 : ∀ (x0 : Nat) (x1 : Nat) (x2 : Int32) (x3 : Int32) (S : ZS) (H : Heap) (locs : List Loc) (ls : Array Slot), self38 x0 x1 x2 x3 S = some o → zH D y A0 s H locs S → lv_has ls 6 [(0, .ref (zh y x0)), (1, .ref (zh y x1)), (2, .int x2), (3, .int x3)] → W p l e ({ frames := 3, cells := 0, slots := 0, locals := 106 } : Room) s m args below meth c H locs 0 0 Q (F0 m 38 ls [])) {x0 : Nat} {x1 : Nat} {x2 : Int32} {x3 : Int32} {S : ZS} {H : Heap} {locs : List Loc} {ls : Array Slot} (hf : f_X8_gather_155 self38 x0 x1 x2 x3 S = some o) (hM : zH D y A0 s H locs S) (hl : lv_has ls 6 [(0, .ref (zh y x0)), (1, .ref (zh y x1)), (2, .int x2), (3, .int x3)]) : W p l e ({ frames := 3, cells := 0, slots := 0, locals := 106 } : Room) s m args below meth c H locs 0 0 Q (F0 m 155 ls []) := by
  obtain ⟨hx, hb, hml, hown, hts⟩ := id X
  unfold f_X8_gather_155 at hf
  obtain ⟨v1, ev, hf⟩ := m_bndE hf
  refine lv_iinc (v := v1) (lv' := [(3, .int v1), (0, .ref (zh y x0)), (1, .ref (zh y x1)), (2, .int x2)]) hx hb dX8_gather_155 hl (k := 3) rfl (by rw [ev]; rfl) (by decide) rfl (fun ls hl => ?_)
  clear ev
  refine lv_goto (tgt := 38) hx hb dX8_gather_158 (by decide) ?_
  exact hself38 x0 x1 x2 v1 _ _ _ _ hf hM (lv_sub hl [1, 2, 3, 0] rfl)
def f_X8_gather_82 (self38 : Nat → Nat → Int32 → Int32 → ZS → Option (Int32 × ZS)) (x0 : Nat) (x1 : Nat) (x2 : Int32) (x3 : Int32) (t0 : Int32) (S : ZS) : Option (Int32 × ZS) :=
  m_chk (zK S x0 = 8) (
  m_bnd ((64 : Int32) * (zI S 6 x0)) (fun v1 =>
  m_bnd (x3 + v1) (fun v2 =>
  m_chk (zK S x0 = 8) (
  m_bnd ((4096 : Int32) * (zI S 7 x0)) (fun v3 =>
  m_bnd (v2 + v3) (fun v4 =>
  m_if (t0 = 0) (
  f_X8_gather_155 self38 x0 x1 x2 x3 S
  ) (
  m_chk (zK S x0 = 8) (
  m_chk (zK S x1 = 0) (
  m_cal (f_X0_reaches x1 x3 (zI S 6 x0) S) (fun o5 =>
  m_if (o5.1 = 0) (
  f_X8_gather_155 self38 x0 x1 x2 x3 o5.2
  ) (
  m_chk (zK o5.2 x0 = 8) (
  m_cal (zP o5.2 0 x0) (fun b6 =>
  m_chk (zK o5.2 b6 = 7) (
  m_cal (f_X7_isSafe b6 x1 v4 o5.2) (fun o7 =>
  m_if (o7.1 = 0) (
  f_X8_gather_155 self38 x0 x1 x2 x3 o7.2
  ) (
  m_chk (zK o7.2 x0 = 8) (
  m_cal (zP o7.2 10 x0) (fun b8 =>
  m_chk (zK o7.2 x0 = 8) (
  m_chk (zK o7.2 b8 = 14) (
  m_chk (¬ ((zI o7.2 11 x0) < 0 ∨ zN o7.2 b8 ≤ ((zI o7.2 11 x0)).toNatClampNeg)) (
  m_bnd (zsA o7.2 b8 ((zI o7.2 11 x0)).toNatClampNeg v4) (fun S9 =>
  m_chk (zK S9 x0 = 8) (
  m_bnd ((zI S9 11 x0) + (1 : Int32)) (fun v10 =>
  m_chk (zK S9 x0 = 8) (
  m_bnd (zsI S9 11 x0 v10) (fun S11 =>
  f_X8_gather_155 self38 x0 x1 x2 x3 S11))))))))))
  )))))
  ))))
  )))))))

set_option maxRecDepth 100000 in
set_option maxHeartbeats 4000000 in
theorem w_X8_gather_82 {p : Program} {l : Launch} {e : Env} {s : State} {m : MethodId} {args : Array Value} {below : List Frame} {meth : Method} {c : Code} {Q : State → Prop} {D : va_G} {y : Nat → ClassId} {A0 : Nat → Prop} {o : Int32 × ZS} (X : CallFix p m c cX8_gather 6 s args wsX8_gather RX8) (hret : zRv p l e ({ frames := 3, cells := 0, slots := 0, locals := 106 } : Room) s m args below meth c Q cX8_gather D y A0 o) {self38 : Nat → Nat → Int32 → Int32 → ZS → Option (Int32 × ZS)} (hself38 : ∀ (x0 : Nat) (x1 : Nat) (x2 : Int32) (x3 : Int32) (S : ZS) (H : Heap) (locs : List Loc) (ls : Array Slot), self38 x0 x1 x2 x3 S = some o → zH D y A0 s H locs S → lv_has ls 6 [(0, .ref (zh y x0)), (1, .ref (zh y x1)), (2, .int x2), (3, .int x3)] → W p l e ({ frames := 3, cells := 0, slots := 0, locals := 106 } : Room) s m args below meth c H locs 0 0 Q (F0 m 38 ls [])) {x0 : Nat} {x1 : Nat} {x2 : Int32} {x3 : Int32} {t0 : Int32} {S : ZS} {H : Heap} {locs : List Loc} {ls : Array Slot} (hf : f_X8_gather_82 self38 x0 x1 x2 x3 t0 S = some o) (hM : zH D y A0 s H locs S) (hl : lv_has ls 6 [(0, .ref (zh y x0)), (1, .ref (zh y x1)), (2, .int x2), (3, .int x3)]) : W p l e ({ frames := 3, cells := 0, slots := 0, locals := 106 } : Room) s m args below meth c H locs 0 0 Q (F0 m 82 ls [.int t0]) := by
  obtain ⟨hx, hb, hml, hown, hts⟩ := id X
  unfold f_X8_gather_82 at hf
  refine lv_istore (lv' := [(4, .int t0), (0, .ref (zh y x0)), (1, .ref (zh y x1)), (2, .int x2), (3, .int x3)]) hx hb dX8_gather_82 hl (by decide) rfl (fun ls hl => ?_)
  refine lv_iload_n hx hb dX8_gather_84 rfl (lv_at hl 4 rfl) ?_
  refine lv_bipush (v := (64 : Int32)) hx hb dX8_gather_85 (by decide) ?_
  refine lv_aload_n hx hb dX8_gather_87 rfl (lv_at hl 1 rfl) ?_
  obtain ⟨ca, hf⟩ := m_chkE hf
  replace ca := z_in hM (by decide) ca
  refine z_get (k := 8) (j := 6) (C := RX8) (T := TX8) (N := 12) (fl := zf_8) (v := .int (zI S 6 x0)) X hw_X8_gather_8 hM rfl zc_8 ca (by decide) fl_X8_gather_8_6 rfl dX8_gather_88 ?_
  clear ca
  refine lv_imul hx hb dX8_gather_91 ?_
  obtain ⟨v1, ev, hf⟩ := m_bndE hf
  refine m_top ev ?_
  clear ev
  refine lv_iadd hx hb dX8_gather_92 ?_
  obtain ⟨v2, ev, hf⟩ := m_bndE hf
  refine m_top ev ?_
  clear ev
  refine lv_sipush (v := (4096 : Int32)) hx hb dX8_gather_93 (by decide) ?_
  refine lv_aload_n hx hb dX8_gather_96 rfl (lv_at hl 1 rfl) ?_
  obtain ⟨ca, hf⟩ := m_chkE hf
  replace ca := z_in hM (by decide) ca
  refine z_get (k := 8) (j := 7) (C := RX8) (T := TX8) (N := 12) (fl := zf_8) (v := .int (zI S 7 x0)) X hw_X8_gather_8 hM rfl zc_8 ca (by decide) fl_X8_gather_8_7 rfl dX8_gather_97 ?_
  clear ca
  refine lv_imul hx hb dX8_gather_100 ?_
  obtain ⟨v3, ev, hf⟩ := m_bndE hf
  refine m_top ev ?_
  clear ev
  refine lv_iadd hx hb dX8_gather_101 ?_
  obtain ⟨v4, ev, hf⟩ := m_bndE hf
  refine m_top ev ?_
  clear ev
  refine lv_istore (lv' := [(5, .int v4), (4, .int t0), (0, .ref (zh y x0)), (1, .ref (zh y x1)), (2, .int x2), (3, .int x3)]) hx hb dX8_gather_102 hl (by decide) rfl (fun ls hl => ?_)
  refine lv_iload hx hb dX8_gather_104 (lv_at hl 1 rfl) ?_
  refine lv_if_eq (tgt := 155) hx hb dX8_gather_106 (by decide) (fun cc1 => ?_) (fun cc1 => ?_)
  · replace hf := m_ifT hf cc1
    exact w_X8_gather_155 (x0 := x0) (x1 := x1) (x2 := x2) (x3 := x3) X hret hself38 hf hM (lv_sub hl [2, 3, 4, 5] rfl)
  · replace hf := m_ifF hf cc1
    refine lv_aload_n hx hb dX8_gather_109 rfl (lv_at hl 3 rfl) ?_
    refine lv_iload_n hx hb dX8_gather_110 rfl (lv_at hl 5 rfl) ?_
    refine lv_aload_n hx hb dX8_gather_111 rfl (lv_at hl 2 rfl) ?_
    obtain ⟨ca, hf⟩ := m_chkE hf
    replace ca := z_in hM (by decide) ca
    refine z_get (k := 8) (j := 6) (C := RX8) (T := TX8) (N := 12) (fl := zf_8) (v := .int (zI S 6 x0)) X hw_X8_gather_8 hM rfl zc_8 ca (by decide) fl_X8_gather_8_6 rfl dX8_gather_112 ?_
    clear ca
    obtain ⟨ca, hf⟩ := m_chkE hf
    replace ca := z_in hM (by decide) ca
    obtain ⟨o5, ho, hf⟩ := m_calE hf
    refine z_callVi (k := 0) (C := RX0) (T := TX0) (N := 7) (fl := zf_0) X hM rfl zc_0 ca (c_X0_reaches ho) gX8_gather_X0_reaches rfl ⟨rfl, rfl⟩ hd_X0_reaches ⟨Nat.le_of_ble_eq_true rfl, Nat.le_of_ble_eq_true rfl⟩ rfl hl.1 rfl (Nat.le_of_ble_eq_true rfl) dX8_gather_115 (fun H locs hM => ?_)
    clear ho
    refine lv_if_eq (tgt := 155) hx hb dX8_gather_118 (by decide) (fun cc1 => ?_) (fun cc1 => ?_)
    · replace hf := m_ifT hf cc1
      exact w_X8_gather_155 (x0 := x0) (x1 := x1) (x2 := x2) (x3 := x3) X hret hself38 hf hM (lv_sub hl [2, 3, 4, 5] rfl)
    · replace hf := m_ifF hf cc1
      refine lv_aload_n hx hb dX8_gather_121 rfl (lv_at hl 2 rfl) ?_
      obtain ⟨ca, hf⟩ := m_chkE hf
      replace ca := z_in hM (by decide) ca
      refine z_get (k := 8) (j := 0) (C := RX8) (T := TX8) (N := 12) (fl := zf_8) (v := va_rf ((zP o5.2 0 x0).map (zh y))) X hw_X8_gather_8 hM rfl zc_8 ca (by decide) fl_X8_gather_8_0 rfl dX8_gather_122 ?_
      clear ca
      obtain ⟨b6, hb9, hf⟩ := m_calE hf
      refine z_topr hb9 ?_
      clear hb9
      refine lv_aload_n hx hb dX8_gather_125 rfl (lv_at hl 3 rfl) ?_
      refine lv_iload hx hb dX8_gather_126 (lv_at hl 0 rfl) ?_
      obtain ⟨ca, hf⟩ := m_chkE hf
      replace ca := z_in hM (by decide) ca
      obtain ⟨o7, ho, hf⟩ := m_calE hf
      refine z_callVi (k := 7) (C := RX7) (T := TX7) (N := 2) (fl := zf_7) X hM rfl zc_7 ca (c_X7_isSafe ho) gX8_gather_X7_isSafe rfl ⟨rfl, rfl⟩ hd_X7_isSafe ⟨Nat.le_of_ble_eq_true rfl, Nat.le_of_ble_eq_true rfl⟩ rfl hl.1 rfl (Nat.le_of_ble_eq_true rfl) dX8_gather_128 (fun H locs hM => ?_)
      clear ho
      refine lv_if_eq (tgt := 155) hx hb dX8_gather_131 (by decide) (fun cc1 => ?_) (fun cc1 => ?_)
      · replace hf := m_ifT hf cc1
        exact w_X8_gather_155 (x0 := x0) (x1 := x1) (x2 := x2) (x3 := x3) X hret hself38 hf hM (lv_sub hl [2, 3, 4, 5] rfl)
      · replace hf := m_ifF hf cc1
        refine lv_aload_n hx hb dX8_gather_134 rfl (lv_at hl 2 rfl) ?_
        obtain ⟨ca, hf⟩ := m_chkE hf
        replace ca := z_in hM (by decide) ca
        refine z_get (k := 8) (j := 10) (C := RX8) (T := TX8) (N := 12) (fl := zf_8) (v := va_rf ((zP o7.2 10 x0).map (zh y))) X hw_X8_gather_8 hM rfl zc_8 ca (by decide) fl_X8_gather_8_10 rfl dX8_gather_135 ?_
        clear ca
        obtain ⟨b8, hb9, hf⟩ := m_calE hf
        refine z_topr hb9 ?_
        clear hb9
        refine lv_aload_n hx hb dX8_gather_138 rfl (lv_at hl 2 rfl) ?_
        obtain ⟨ca, hf⟩ := m_chkE hf
        replace ca := z_in hM (by decide) ca
        refine z_get (k := 8) (j := 11) (C := RX8) (T := TX8) (N := 12) (fl := zf_8) (v := .int (zI o7.2 11 x0)) X hw_X8_gather_8 hM rfl zc_8 ca (by decide) fl_X8_gather_8_11 rfl dX8_gather_139 ?_
        clear ca
        refine lv_iload hx hb dX8_gather_142 (lv_at hl 0 rfl) ?_
        obtain ⟨ca, hf⟩ := m_chkE hf
        replace ca := z_in hM (by decide) ca
        obtain ⟨cd, hf⟩ := m_chkE hf
        refine z_iast X hM ca cd dX8_gather_144 (fun H locs hM => ?_)
        clear ca cd
        obtain ⟨S9, ev, hf⟩ := m_bndE hf
        replace hM := z_hS hM ev
        clear ev
        refine lv_aload_n hx hb dX8_gather_145 rfl (lv_at hl 2 rfl) ?_
        refine lv_dup hx hb dX8_gather_146 rfl ?_
        obtain ⟨ca, hf⟩ := m_chkE hf
        replace ca := z_in hM (by decide) ca
        refine z_get (k := 8) (j := 11) (C := RX8) (T := TX8) (N := 12) (fl := zf_8) (v := .int (zI S9 11 x0)) X hw_X8_gather_8 hM rfl zc_8 ca (by decide) fl_X8_gather_8_11 rfl dX8_gather_147 ?_
        clear ca
        refine lv_iconst (v := (1 : Int32)) hx hb dX8_gather_150 (by decide) ?_
        refine lv_iadd hx hb dX8_gather_151 ?_
        obtain ⟨v10, ev, hf⟩ := m_bndE hf
        refine m_top ev ?_
        clear ev
        obtain ⟨ca, hf⟩ := m_chkE hf
        replace ca := z_in hM (by decide) ca
        refine z_putI (k := 8) (j := 11) (C := RX8) (T := TX8) (N := 12) (fl := zf_8) (ty := .int) X hw_X8_gather_8 tyX8_ok nmX8 hM rfl zc_8 ca (by decide) fl_X8_gather_8_11 rfl (tyX8_ok 11 (by decide)) rfl rfl zi_8_11 (Nat.le_of_ble_eq_true rfl) dX8_gather_152 (fun H locs hM => ?_)
        clear ca
        obtain ⟨S11, ev, hf⟩ := m_bndE hf
        replace hM := z_hS hM ev
        clear ev
        exact w_X8_gather_155 (x0 := x0) (x1 := x1) (x2 := x2) (x3 := x3) X hret hself38 hf hM (lv_sub hl [2, 3, 4, 5] rfl)
def f_X8_gather_72 (self38 : Nat → Nat → Int32 → Int32 → ZS → Option (Int32 × ZS)) (x0 : Nat) (x1 : Nat) (x2 : Int32) (x3 : Int32) (S : ZS) : Option (Int32 × ZS) :=
  f_X8_gather_82 self38 x0 x1 x2 x3 (0 : Int32) S

set_option maxRecDepth 100000 in
set_option maxHeartbeats 4000000 in
theorem w_X8_gather_72 {p : Program} {l : Launch} {e : Env} {s : State} {m : MethodId} {args : Array Value} {below : List Frame} {meth : Method} {c : Code} {Q : State → Prop} {D : va_G} {y : Nat → ClassId} {A0 : Nat → Prop} {o : Int32 × ZS} (X : CallFix p m c cX8_gather 6 s args wsX8_gather RX8) (hret : zRv p l e ({ frames := 3, cells := 0, slots := 0, locals := 106 } : Room) s m args below meth c Q cX8_gather D y A0 o) {self38 : Nat → Nat → Int32 → Int32 → ZS → Option (Int32 × ZS)} (hself38 : ∀ (x0 : Nat) (x1 : Nat) (x2 : Int32) (x3 : Int32) (S : ZS) (H : Heap) (locs : List Loc) (ls : Array Slot), self38 x0 x1 x2 x3 S = some o → zH D y A0 s H locs S → lv_has ls 6 [(0, .ref (zh y x0)), (1, .ref (zh y x1)), (2, .int x2), (3, .int x3)] → W p l e ({ frames := 3, cells := 0, slots := 0, locals := 106 } : Room) s m args below meth c H locs 0 0 Q (F0 m 38 ls [])) {x0 : Nat} {x1 : Nat} {x2 : Int32} {x3 : Int32} {S : ZS} {H : Heap} {locs : List Loc} {ls : Array Slot} (hf : f_X8_gather_72 self38 x0 x1 x2 x3 S = some o) (hM : zH D y A0 s H locs S) (hl : lv_has ls 6 [(0, .ref (zh y x0)), (1, .ref (zh y x1)), (2, .int x2), (3, .int x3)]) : W p l e ({ frames := 3, cells := 0, slots := 0, locals := 106 } : Room) s m args below meth c H locs 0 0 Q (F0 m 72 ls []) := by
  obtain ⟨hx, hb, hml, hown, hts⟩ := id X
  unfold f_X8_gather_72 at hf
  refine lv_iconst (v := (0 : Int32)) hx hb dX8_gather_72 (by decide) ?_
  refine lv_goto (tgt := 82) hx hb dX8_gather_73 (by decide) ?_
  exact w_X8_gather_82 (x0 := x0) (x1 := x1) (x2 := x2) (x3 := x3) (t0 := (0 : Int32)) X hret hself38 hf hM (lv_sub hl [0, 1, 2, 3] rfl)
def f_X8_gather_38s (self38 : Nat → Nat → Int32 → Int32 → ZS → Option (Int32 × ZS)) (x0 : Nat) (x1 : Nat) (x2 : Int32) (x3 : Int32) (S : ZS) : Option (Int32 × ZS) :=
  m_if ((64 : Int32) ≤ x3) (
  some (0, S)
  ) (
  m_chk (zK S x0 = 8) (
  m_if ((zI S 2 x0) = 0) (
  m_chk (zK S x0 = 8) (
  m_cal (f_X8_fitsFrom x0 x1 x3 S) (fun o1 =>
  f_X8_gather_82 self38 x0 x1 x2 x3 o1.1 o1.2))
  ) (
  m_if (x3 = x2) (
  m_chk (zK S x0 = 8) (
  m_chk (zK S x1 = 0) (
  m_cal (f_X0_castles x1 x3 (zI S 6 x0) S) (fun o2 =>
  m_if (o2.1 = 0) (
  f_X8_gather_72 self38 x0 x1 x2 x3 o2.2
  ) (
  f_X8_gather_82 self38 x0 x1 x2 x3 (1 : Int32) o2.2
  ))))
  ) (
  f_X8_gather_72 self38 x0 x1 x2 x3 S
  )
  ))
  )

set_option maxRecDepth 100000 in
set_option maxHeartbeats 4000000 in
theorem ws_X8_gather_38 {p : Program} {l : Launch} {e : Env} {s : State} {m : MethodId} {args : Array Value} {below : List Frame} {meth : Method} {c : Code} {Q : State → Prop} {D : va_G} {y : Nat → ClassId} {A0 : Nat → Prop} {o : Int32 × ZS} (X : CallFix p m c cX8_gather 6 s args wsX8_gather RX8) (hret : zRv p l e ({ frames := 3, cells := 0, slots := 0, locals := 106 } : Room) s m args below meth c Q cX8_gather D y A0 o) {self38 : Nat → Nat → Int32 → Int32 → ZS → Option (Int32 × ZS)} (hself38 : ∀ (x0 : Nat) (x1 : Nat) (x2 : Int32) (x3 : Int32) (S : ZS) (H : Heap) (locs : List Loc) (ls : Array Slot), self38 x0 x1 x2 x3 S = some o → zH D y A0 s H locs S → lv_has ls 6 [(0, .ref (zh y x0)), (1, .ref (zh y x1)), (2, .int x2), (3, .int x3)] → W p l e ({ frames := 3, cells := 0, slots := 0, locals := 106 } : Room) s m args below meth c H locs 0 0 Q (F0 m 38 ls [])) {x0 : Nat} {x1 : Nat} {x2 : Int32} {x3 : Int32} {S : ZS} {H : Heap} {locs : List Loc} {ls : Array Slot} (hf : f_X8_gather_38s self38 x0 x1 x2 x3 S = some o) (hM : zH D y A0 s H locs S) (hl : lv_has ls 6 [(0, .ref (zh y x0)), (1, .ref (zh y x1)), (2, .int x2), (3, .int x3)]) : W p l e ({ frames := 3, cells := 0, slots := 0, locals := 106 } : Room) s m args below meth c H locs 0 0 Q (F0 m 38 ls []) := by
  obtain ⟨hx, hb, hml, hown, hts⟩ := id X
  unfold f_X8_gather_38s at hf
  refine lv_iload_n hx hb dX8_gather_38 rfl (lv_at hl 3 rfl) ?_
  refine lv_bipush (v := (64 : Int32)) hx hb dX8_gather_39 (by decide) ?_
  refine lv_icmp_ge (tgt := 161) hx hb dX8_gather_41 (by decide) (fun cc1 => ?_) (fun cc1 => ?_)
  · replace hf := m_ifT hf cc1
    cases hf
    exact hret H locs _ ls hM dX8_gather_161
  · replace hf := m_ifF hf cc1
    refine lv_aload_n hx hb dX8_gather_44 rfl (lv_at hl 0 rfl) ?_
    obtain ⟨ca, hf⟩ := m_chkE hf
    replace ca := z_in hM (by decide) ca
    refine z_get (k := 8) (j := 2) (C := RX8) (T := TX8) (N := 12) (fl := zf_8) (v := .int (zI S 2 x0)) X hw_X8_gather_8 hM rfl zc_8 ca (by decide) fl_X8_gather_8_2 rfl dX8_gather_45 ?_
    clear ca
    refine lv_if_eq (tgt := 76) hx hb dX8_gather_48 (by decide) (fun cc1 => ?_) (fun cc1 => ?_)
    · replace hf := m_ifT hf cc1
      refine lv_aload_n hx hb dX8_gather_76 rfl (lv_at hl 0 rfl) ?_
      refine lv_aload_n hx hb dX8_gather_77 rfl (lv_at hl 1 rfl) ?_
      refine lv_iload_n hx hb dX8_gather_78 rfl (lv_at hl 3 rfl) ?_
      obtain ⟨ca, hf⟩ := m_chkE hf
      replace ca := z_in hM (by decide) ca
      obtain ⟨o1, ho, hf⟩ := m_calE hf
      refine z_callVi (k := 8) (C := RX8) (T := TX8) (N := 12) (fl := zf_8) X hM rfl zc_8 ca (c_X8_fitsFrom ho) gX8_gather_X8_fitsFrom rfl ⟨rfl, rfl⟩ hd_X8_fitsFrom ⟨Nat.le_of_ble_eq_true rfl, Nat.le_of_ble_eq_true rfl⟩ rfl hl.1 rfl (Nat.le_of_ble_eq_true rfl) dX8_gather_79 (fun H locs hM => ?_)
      clear ho
      exact w_X8_gather_82 (x0 := x0) (x1 := x1) (x2 := x2) (x3 := x3) (t0 := o1.1) X hret hself38 hf hM (lv_sub hl [0, 1, 2, 3] rfl)
    · replace hf := m_ifF hf cc1
      refine lv_iload_n hx hb dX8_gather_51 rfl (lv_at hl 3 rfl) ?_
      refine lv_iload_n hx hb dX8_gather_52 rfl (lv_at hl 2 rfl) ?_
      refine lv_icmp_ne (tgt := 72) hx hb dX8_gather_53 (by decide) (fun cc1 => ?_) (fun cc1 => ?_)
      · replace hf := m_ifF hf cc1
        exact w_X8_gather_72 (x0 := x0) (x1 := x1) (x2 := x2) (x3 := x3) X hret hself38 hf hM (lv_sub hl [0, 1, 2, 3] rfl)
      · replace hf := m_ifT hf cc1
        refine lv_aload_n hx hb dX8_gather_56 rfl (lv_at hl 1 rfl) ?_
        refine lv_iload_n hx hb dX8_gather_57 rfl (lv_at hl 3 rfl) ?_
        refine lv_aload_n hx hb dX8_gather_58 rfl (lv_at hl 0 rfl) ?_
        obtain ⟨ca, hf⟩ := m_chkE hf
        replace ca := z_in hM (by decide) ca
        refine z_get (k := 8) (j := 6) (C := RX8) (T := TX8) (N := 12) (fl := zf_8) (v := .int (zI S 6 x0)) X hw_X8_gather_8 hM rfl zc_8 ca (by decide) fl_X8_gather_8_6 rfl dX8_gather_59 ?_
        clear ca
        obtain ⟨ca, hf⟩ := m_chkE hf
        replace ca := z_in hM (by decide) ca
        obtain ⟨o2, ho, hf⟩ := m_calE hf
        refine z_callVi (k := 0) (C := RX0) (T := TX0) (N := 7) (fl := zf_0) X hM rfl zc_0 ca (c_X0_castles ho) gX8_gather_X0_castles rfl ⟨rfl, rfl⟩ hd_X0_castles ⟨Nat.le_of_ble_eq_true rfl, Nat.le_of_ble_eq_true rfl⟩ rfl hl.1 rfl (Nat.le_of_ble_eq_true rfl) dX8_gather_62 (fun H locs hM => ?_)
        clear ho
        refine lv_if_eq (tgt := 72) hx hb dX8_gather_65 (by decide) (fun cc1 => ?_) (fun cc1 => ?_)
        · replace hf := m_ifT hf cc1
          exact w_X8_gather_72 (x0 := x0) (x1 := x1) (x2 := x2) (x3 := x3) X hret hself38 hf hM (lv_sub hl [0, 1, 2, 3] rfl)
        · replace hf := m_ifF hf cc1
          refine lv_iconst (v := (1 : Int32)) hx hb dX8_gather_68 (by decide) ?_
          refine lv_goto (tgt := 82) hx hb dX8_gather_69 (by decide) ?_
          exact w_X8_gather_82 (x0 := x0) (x1 := x1) (x2 := x2) (x3 := x3) (t0 := (1 : Int32)) X hret hself38 hf hM (lv_sub hl [0, 1, 2, 3] rfl)
def f_X8_gather_38 : Nat → Nat → Nat → Int32 → Int32 → ZS → Option (Int32 × ZS)
  | 0 => fun _ _ _ _ _ => none
  | n + 1 => f_X8_gather_38s (f_X8_gather_38 n)
theorem w_X8_gather_38 {p : Program} {l : Launch} {e : Env} {s : State} {m : MethodId} {args : Array Value} {below : List Frame} {meth : Method} {c : Code} {Q : State → Prop} {D : va_G} {y : Nat → ClassId} {A0 : Nat → Prop} {o : Int32 × ZS} (X : CallFix p m c cX8_gather 6 s args wsX8_gather RX8) (hret : zRv p l e ({ frames := 3, cells := 0, slots := 0, locals := 106 } : Room) s m args below meth c Q cX8_gather D y A0 o) (n : Nat) : ∀ (x0 : Nat) (x1 : Nat) (x2 : Int32) (x3 : Int32) (S : ZS) (H : Heap) (locs : List Loc) (ls : Array Slot), f_X8_gather_38 n x0 x1 x2 x3 S = some o → zH D y A0 s H locs S → lv_has ls 6 [(0, .ref (zh y x0)), (1, .ref (zh y x1)), (2, .int x2), (3, .int x3)] → W p l e ({ frames := 3, cells := 0, slots := 0, locals := 106 } : Room) s m args below meth c H locs 0 0 Q (F0 m 38 ls []) := by
  induction n with
  | zero => intro x0 x1 x2 x3 S H locs ls hf; cases hf
  | succ n ih => intro x0 x1 x2 x3 S H locs ls hf hM hl; exact ws_X8_gather_38 X hret (self38 := f_X8_gather_38 n) ih hf hM hl
def f_X8_gather_36 (x0 : Nat) (x1 : Nat) (x2 : Int32) (S : ZS) : Option (Int32 × ZS) :=
  f_X8_gather_38 mFuel x0 x1 x2 (0 : Int32) S

set_option maxRecDepth 100000 in
set_option maxHeartbeats 4000000 in
theorem w_X8_gather_36 {p : Program} {l : Launch} {e : Env} {s : State} {m : MethodId} {args : Array Value} {below : List Frame} {meth : Method} {c : Code} {Q : State → Prop} {D : va_G} {y : Nat → ClassId} {A0 : Nat → Prop} {o : Int32 × ZS} (X : CallFix p m c cX8_gather 6 s args wsX8_gather RX8) (hret : zRv p l e ({ frames := 3, cells := 0, slots := 0, locals := 106 } : Room) s m args below meth c Q cX8_gather D y A0 o) {x0 : Nat} {x1 : Nat} {x2 : Int32} {S : ZS} {H : Heap} {locs : List Loc} {ls : Array Slot} (hf : f_X8_gather_36 x0 x1 x2 S = some o) (hM : zH D y A0 s H locs S) (hl : lv_has ls 6 [(0, .ref (zh y x0)), (1, .ref (zh y x1)), (2, .int x2)]) : W p l e ({ frames := 3, cells := 0, slots := 0, locals := 106 } : Room) s m args below meth c H locs 0 0 Q (F0 m 36 ls []) := by
  obtain ⟨hx, hb, hml, hown, hts⟩ := id X
  unfold f_X8_gather_36 at hf
  refine lv_iconst (v := (0 : Int32)) hx hb dX8_gather_36 (by decide) ?_
  refine lv_istore_n (lv' := [(3, .int (0 : Int32)), (0, .ref (zh y x0)), (1, .ref (zh y x1)), (2, .int x2)]) hx hb dX8_gather_37 rfl hl (by decide) rfl (fun ls hl => ?_)
  exact w_X8_gather_38 X hret _ x0 x1 x2 (0 : Int32) _ _ _ _ hf hM (lv_sub hl [1, 2, 3, 0] rfl)
def f_X8_gather_18 (x0 : Nat) (x1 : Nat) (t0 : Int32) (S : ZS) : Option (Int32 × ZS) :=
  m_chk (zK S x0 = 8) (
  m_if ((zI S 2 x0) = 0) (
  f_X8_gather_36 x0 x1 t0 S
  ) (
  m_chk (zK S x0 = 8) (
  m_bnd (t0 + (zI S 2 x0)) (fun v1 =>
  m_chk (zK S x0 = 8) (
  m_bnd (zsI S 6 x0 v1) (fun S2 =>
  f_X8_gather_36 x0 x1 t0 S2))))
  ))

set_option maxRecDepth 100000 in
set_option maxHeartbeats 4000000 in
theorem w_X8_gather_18 {p : Program} {l : Launch} {e : Env} {s : State} {m : MethodId} {args : Array Value} {below : List Frame} {meth : Method} {c : Code} {Q : State → Prop} {D : va_G} {y : Nat → ClassId} {A0 : Nat → Prop} {o : Int32 × ZS} (X : CallFix p m c cX8_gather 6 s args wsX8_gather RX8) (hret : zRv p l e ({ frames := 3, cells := 0, slots := 0, locals := 106 } : Room) s m args below meth c Q cX8_gather D y A0 o) {x0 : Nat} {x1 : Nat} {t0 : Int32} {S : ZS} {H : Heap} {locs : List Loc} {ls : Array Slot} (hf : f_X8_gather_18 x0 x1 t0 S = some o) (hM : zH D y A0 s H locs S) (hl : lv_has ls 6 [(0, .ref (zh y x0)), (1, .ref (zh y x1))]) : W p l e ({ frames := 3, cells := 0, slots := 0, locals := 106 } : Room) s m args below meth c H locs 0 0 Q (F0 m 18 ls [.int t0]) := by
  obtain ⟨hx, hb, hml, hown, hts⟩ := id X
  unfold f_X8_gather_18 at hf
  refine lv_istore_n (lv' := [(2, .int t0), (0, .ref (zh y x0)), (1, .ref (zh y x1))]) hx hb dX8_gather_18 rfl hl (by decide) rfl (fun ls hl => ?_)
  refine lv_aload_n hx hb dX8_gather_19 rfl (lv_at hl 1 rfl) ?_
  obtain ⟨ca, hf⟩ := m_chkE hf
  replace ca := z_in hM (by decide) ca
  refine z_get (k := 8) (j := 2) (C := RX8) (T := TX8) (N := 12) (fl := zf_8) (v := .int (zI S 2 x0)) X hw_X8_gather_8 hM rfl zc_8 ca (by decide) fl_X8_gather_8_2 rfl dX8_gather_20 ?_
  clear ca
  refine lv_if_eq (tgt := 36) hx hb dX8_gather_23 (by decide) (fun cc1 => ?_) (fun cc1 => ?_)
  · replace hf := m_ifT hf cc1
    exact w_X8_gather_36 (x0 := x0) (x1 := x1) (x2 := t0) X hret hf hM (lv_sub hl [1, 2, 0] rfl)
  · replace hf := m_ifF hf cc1
    refine lv_aload_n hx hb dX8_gather_26 rfl (lv_at hl 1 rfl) ?_
    refine lv_iload_n hx hb dX8_gather_27 rfl (lv_at hl 0 rfl) ?_
    refine lv_aload_n hx hb dX8_gather_28 rfl (lv_at hl 1 rfl) ?_
    obtain ⟨ca, hf⟩ := m_chkE hf
    replace ca := z_in hM (by decide) ca
    refine z_get (k := 8) (j := 2) (C := RX8) (T := TX8) (N := 12) (fl := zf_8) (v := .int (zI S 2 x0)) X hw_X8_gather_8 hM rfl zc_8 ca (by decide) fl_X8_gather_8_2 rfl dX8_gather_29 ?_
    clear ca
    refine lv_iadd hx hb dX8_gather_32 ?_
    obtain ⟨v1, ev, hf⟩ := m_bndE hf
    refine m_top ev ?_
    clear ev
    obtain ⟨ca, hf⟩ := m_chkE hf
    replace ca := z_in hM (by decide) ca
    refine z_putI (k := 8) (j := 6) (C := RX8) (T := TX8) (N := 12) (fl := zf_8) (ty := .int) X hw_X8_gather_8 tyX8_ok nmX8 hM rfl zc_8 ca (by decide) fl_X8_gather_8_6 rfl (tyX8_ok 6 (by decide)) rfl rfl zi_8_6 (Nat.le_of_ble_eq_true rfl) dX8_gather_33 (fun H locs hM => ?_)
    clear ca
    obtain ⟨S2, ev, hf⟩ := m_bndE hf
    replace hM := z_hS hM ev
    clear ev
    exact w_X8_gather_36 (x0 := x0) (x1 := x1) (x2 := t0) X hret hf hM (lv_sub hl [1, 2, 0] rfl)
def f_X8_gather_0 (x0 : Nat) (x1 : Nat) (S : ZS) : Option (Int32 × ZS) :=
  m_chk (zK S x0 = 8) (
  m_bnd (zsI S 11 x0 (0 : Int32)) (fun S1 =>
  m_chk (zK S1 x1 = 0) (
  m_if ((zI S1 3 x1) = 0) (
  f_X8_gather_18 x0 x1 (4 : Int32) S1
  ) (
  f_X8_gather_18 x0 x1 (60 : Int32) S1
  ))))

set_option maxRecDepth 100000 in
set_option maxHeartbeats 4000000 in
theorem w_X8_gather_0 {p : Program} {l : Launch} {e : Env} {s : State} {m : MethodId} {args : Array Value} {below : List Frame} {meth : Method} {c : Code} {Q : State → Prop} {D : va_G} {y : Nat → ClassId} {A0 : Nat → Prop} {o : Int32 × ZS} (X : CallFix p m c cX8_gather 6 s args wsX8_gather RX8) (hret : zRv p l e ({ frames := 3, cells := 0, slots := 0, locals := 106 } : Room) s m args below meth c Q cX8_gather D y A0 o) {x0 : Nat} {x1 : Nat} {S : ZS} {H : Heap} {locs : List Loc} {ls : Array Slot} (hf : f_X8_gather_0 x0 x1 S = some o) (hM : zH D y A0 s H locs S) (hl : lv_has ls 6 [(0, .ref (zh y x0)), (1, .ref (zh y x1))]) : W p l e ({ frames := 3, cells := 0, slots := 0, locals := 106 } : Room) s m args below meth c H locs 0 0 Q (F0 m 0 ls []) := by
  obtain ⟨hx, hb, hml, hown, hts⟩ := id X
  unfold f_X8_gather_0 at hf
  refine lv_aload_n hx hb dX8_gather_0 rfl (lv_at hl 0 rfl) ?_
  refine lv_iconst (v := (0 : Int32)) hx hb dX8_gather_1 (by decide) ?_
  obtain ⟨ca, hf⟩ := m_chkE hf
  replace ca := z_in hM (by decide) ca
  refine z_putI (k := 8) (j := 11) (C := RX8) (T := TX8) (N := 12) (fl := zf_8) (ty := .int) X hw_X8_gather_8 tyX8_ok nmX8 hM rfl zc_8 ca (by decide) fl_X8_gather_8_11 rfl (tyX8_ok 11 (by decide)) rfl rfl zi_8_11 (Nat.le_of_ble_eq_true rfl) dX8_gather_2 (fun H locs hM => ?_)
  clear ca
  obtain ⟨S1, ev, hf⟩ := m_bndE hf
  replace hM := z_hS hM ev
  clear ev
  refine lv_aload_n hx hb dX8_gather_5 rfl (lv_at hl 1 rfl) ?_
  obtain ⟨ca, hf⟩ := m_chkE hf
  replace ca := z_in hM (by decide) ca
  refine z_get (k := 0) (j := 3) (C := RX0) (T := TX0) (N := 7) (fl := zf_0) (v := .int (zI S1 3 x1)) X hw_X8_gather_0 hM rfl zc_0 ca (by decide) fl_X8_gather_0_3 rfl dX8_gather_6 ?_
  clear ca
  refine lv_if_ne (tgt := 16) hx hb dX8_gather_9 (by decide) (fun cc1 => ?_) (fun cc1 => ?_)
  · replace hf := m_ifF hf cc1
    refine lv_bipush (v := (60 : Int32)) hx hb dX8_gather_16 (by decide) ?_
    exact w_X8_gather_18 (x0 := x0) (x1 := x1) (t0 := (60 : Int32)) X hret hf hM (lv_sub hl [0, 1] rfl)
  · replace hf := m_ifT hf cc1
    refine lv_iconst (v := (4 : Int32)) hx hb dX8_gather_12 (by decide) ?_
    refine lv_goto (tgt := 18) hx hb dX8_gather_13 (by decide) ?_
    exact w_X8_gather_18 (x0 := x0) (x1 := x1) (t0 := (4 : Int32)) X hret hf hM (lv_sub hl [0, 1] rfl)
def f_X8_gather (x0 : Nat) (x1 : Nat) (S : ZS) : Option (Int32 × ZS) := f_X8_gather_0 x0 x1 S
theorem c_X8_gather {l : Launch} {D : va_G} {y : Nat → ClassId} {x0 : Nat} {x1 : Nat} {S : ZS} {o : Int32 × ZS} (hf : f_X8_gather x0 x1 S = some o) : zMv l yX8_gather wsX8_gather ({ frames := 3, cells := 0, slots := 0, locals := 106 } : Room) [.ref (zh y x0), .ref (zh y x1)] D y S o :=
  z_entryV (own := RX8) (cc := cX8_gather) (maxL := 6) (by decide) rfl rfl (Nat.le_of_ble_eq_true rfl) (fun p e s m args below meth c A0 Q H locs ls X hret hM hl => w_X8_gather_0 X hret hf hM (lv_sub hl [0, 1] rfl))
theorem hd_X7_checkSign : yX7_checkSign.cls = RX7 ∧ yX7_checkSign.cls ≠ "java/lang/invoke/MethodHandle" ∧ yX7_checkSign.cls ≠ "java/lang/invoke/VarHandle" ∧ (parseMethodDescriptor yX7_checkSign.desc).map (fun d => d.parameters.length) = some 2 := by decide +kernel
theorem fl_X7_checkSign_0_3 : Cond.fieldLink RX7 21 "MoveTexts$Board" "side" "I" ∈ wsX7_checkSign := by decide +kernel
theorem fl_X7_checkSign_7_1 : Cond.fieldLink RX7 18 "MoveTexts$Rules" "after" "LMoveTexts$Board;" ∈ wsX7_checkSign := by decide +kernel
theorem hw_X7_checkSign_0 : ∀ w ∈ wsX00, w ∈ wsX7_checkSign := by decide +kernel
theorem hw_X7_checkSign_7 : ∀ w ∈ wsX70, w ∈ wsX7_checkSign := by decide +kernel
def f_X7_checkSign_103 (self53 : Nat → Int32 → ZS → Option (Int32 × ZS)) (self62 : Nat → Int32 → Int32 → ZS → Option (Int32 × ZS)) (x0 : Nat) (x3 : Int32) (x4 : Int32) (S : ZS) : Option (Int32 × ZS) :=
  m_bnd (x4 + (1 : Int32)) (fun v1 =>
  self62 x0 x3 v1 S)

set_option maxRecDepth 100000 in
set_option maxHeartbeats 4000000 in
theorem w_X7_checkSign_103 {p : Program} {l : Launch} {e : Env} {s : State} {m : MethodId} {args : Array Value} {below : List Frame} {meth : Method} {c : Code} {Q : State → Prop} {D : va_G} {y : Nat → ClassId} {A0 : Nat → Prop} {o : Int32 × ZS} (X : CallFix p m c cX7_checkSign 5 s args wsX7_checkSign RX7) (hret : zRi p l e ({ frames := 3, cells := 0, slots := 0, locals := 106 } : Room) s m args below meth c Q cX7_checkSign D y A0 .char o) {self53 : Nat → Int32 → ZS → Option (Int32 × ZS)} (hself53 : ∀ (x0 : Nat) (x3 : Int32) (S : ZS) (H : Heap) (locs : List Loc) (ls : Array Slot), self53 x0 x3 S = some o → zH D y A0 s H locs S → lv_has ls 5 [(0, .ref (zh y x0)), (3, .int x3)] → W p l e ({ frames := 3, cells := 0, slots := 0, locals := 106 } : Room) s m args below meth c H locs 0 0 Q (F0 m 53 ls [])) {self62 : Nat → Int32 → Int32 → ZS → Option (Int32 × ZS)} (hself62 : ∀ (x0 : Nat) (x3 : Int32) (x4 : Int32) (S : ZS) (H : Heap) (locs : List Loc) (ls : Array Slot), self62 x0 x3 x4 S = some o → zH D y A0 s H locs S → lv_has ls 5 [(0, .ref (zh y x0)), (3, .int x3), (4, .int x4)] → W p l e ({ frames := 3, cells := 0, slots := 0, locals := 106 } : Room) s m args below meth c H locs 0 0 Q (F0 m 62 ls [])) {x0 : Nat} {x3 : Int32} {x4 : Int32} {S : ZS} {H : Heap} {locs : List Loc} {ls : Array Slot} (hf : f_X7_checkSign_103 self53 self62 x0 x3 x4 S = some o) (hM : zH D y A0 s H locs S) (hl : lv_has ls 5 [(0, .ref (zh y x0)), (3, .int x3), (4, .int x4)]) : W p l e ({ frames := 3, cells := 0, slots := 0, locals := 106 } : Room) s m args below meth c H locs 0 0 Q (F0 m 103 ls []) := by
  obtain ⟨hx, hb, hml, hown, hts⟩ := id X
  unfold f_X7_checkSign_103 at hf
  obtain ⟨v1, ev, hf⟩ := m_bndE hf
  refine lv_iinc (v := v1) (lv' := [(4, .int v1), (0, .ref (zh y x0)), (3, .int x3)]) hx hb dX7_checkSign_103 hl (k := 2) rfl (by rw [ev]; rfl) (by decide) rfl (fun ls hl => ?_)
  clear ev
  refine lv_goto (tgt := 62) hx hb dX7_checkSign_106 (by decide) ?_
  exact hself62 x0 x3 v1 _ _ _ _ hf hM (lv_sub hl [1, 2, 0] rfl)
def f_X7_checkSign_62s (self53 : Nat → Int32 → ZS → Option (Int32 × ZS)) (self62 : Nat → Int32 → Int32 → ZS → Option (Int32 × ZS)) (x0 : Nat) (x3 : Int32) (x4 : Int32) (S : ZS) : Option (Int32 × ZS) :=
  m_if ((64 : Int32) ≤ x4) (
  m_bnd (x3 + (1 : Int32)) (fun v1 =>
  self53 x0 v1 S)
  ) (
  m_chk (zK S x0 = 7) (
  m_cal (zP S 1 x0) (fun b2 =>
  m_chk (zK S b2 = 0) (
  m_cal (f_X0_reaches b2 x3 x4 S) (fun o3 =>
  m_if (o3.1 = 0) (
  f_X7_checkSign_103 self53 self62 x0 x3 x4 o3.2
  ) (
  m_chk (zK o3.2 x0 = 7) (
  m_cal (zP o3.2 1 x0) (fun b4 =>
  m_bnd ((64 : Int32) * x4) (fun v5 =>
  m_bnd (x3 + v5) (fun v6 =>
  m_chk (zK o3.2 x0 = 7) (
  m_cal (f_X7_isSafe x0 b4 v6 o3.2) (fun o7 =>
  m_if (o7.1 = 0) (
  f_X7_checkSign_103 self53 self62 x0 x3 x4 o7.2
  ) (
  m_chk (vp_nar .char (43 : Int32) = (43 : Int32)) (some ((43 : Int32), o7.2))
  )))))))
  )))))
  )

set_option maxRecDepth 100000 in
set_option maxHeartbeats 4000000 in
theorem ws_X7_checkSign_62 {p : Program} {l : Launch} {e : Env} {s : State} {m : MethodId} {args : Array Value} {below : List Frame} {meth : Method} {c : Code} {Q : State → Prop} {D : va_G} {y : Nat → ClassId} {A0 : Nat → Prop} {o : Int32 × ZS} (X : CallFix p m c cX7_checkSign 5 s args wsX7_checkSign RX7) (hret : zRi p l e ({ frames := 3, cells := 0, slots := 0, locals := 106 } : Room) s m args below meth c Q cX7_checkSign D y A0 .char o) {self53 : Nat → Int32 → ZS → Option (Int32 × ZS)} (hself53 : ∀ (x0 : Nat) (x3 : Int32) (S : ZS) (H : Heap) (locs : List Loc) (ls : Array Slot), self53 x0 x3 S = some o → zH D y A0 s H locs S → lv_has ls 5 [(0, .ref (zh y x0)), (3, .int x3)] → W p l e ({ frames := 3, cells := 0, slots := 0, locals := 106 } : Room) s m args below meth c H locs 0 0 Q (F0 m 53 ls [])) {self62 : Nat → Int32 → Int32 → ZS → Option (Int32 × ZS)} (hself62 : ∀ (x0 : Nat) (x3 : Int32) (x4 : Int32) (S : ZS) (H : Heap) (locs : List Loc) (ls : Array Slot), self62 x0 x3 x4 S = some o → zH D y A0 s H locs S → lv_has ls 5 [(0, .ref (zh y x0)), (3, .int x3), (4, .int x4)] → W p l e ({ frames := 3, cells := 0, slots := 0, locals := 106 } : Room) s m args below meth c H locs 0 0 Q (F0 m 62 ls [])) {x0 : Nat} {x3 : Int32} {x4 : Int32} {S : ZS} {H : Heap} {locs : List Loc} {ls : Array Slot} (hf : f_X7_checkSign_62s self53 self62 x0 x3 x4 S = some o) (hM : zH D y A0 s H locs S) (hl : lv_has ls 5 [(0, .ref (zh y x0)), (3, .int x3), (4, .int x4)]) : W p l e ({ frames := 3, cells := 0, slots := 0, locals := 106 } : Room) s m args below meth c H locs 0 0 Q (F0 m 62 ls []) := by
  obtain ⟨hx, hb, hml, hown, hts⟩ := id X
  unfold f_X7_checkSign_62s at hf
  refine lv_iload hx hb dX7_checkSign_62 (lv_at hl 2 rfl) ?_
  refine lv_bipush (v := (64 : Int32)) hx hb dX7_checkSign_64 (by decide) ?_
  refine lv_icmp_ge (tgt := 109) hx hb dX7_checkSign_66 (by decide) (fun cc1 => ?_) (fun cc1 => ?_)
  · replace hf := m_ifT hf cc1
    obtain ⟨v1, ev, hf⟩ := m_bndE hf
    refine lv_iinc (v := v1) (lv' := [(3, .int v1), (0, .ref (zh y x0)), (4, .int x4)]) hx hb dX7_checkSign_109 hl (k := 1) rfl (by rw [ev]; rfl) (by decide) rfl (fun ls hl => ?_)
    clear ev
    refine lv_goto (tgt := 53) hx hb dX7_checkSign_112 (by decide) ?_
    exact hself53 x0 v1 _ _ _ _ hf hM (lv_sub hl [1, 0] rfl)
  · replace hf := m_ifF hf cc1
    refine lv_aload_n hx hb dX7_checkSign_69 rfl (lv_at hl 0 rfl) ?_
    obtain ⟨ca, hf⟩ := m_chkE hf
    replace ca := z_in hM (by decide) ca
    refine z_get (k := 7) (j := 1) (C := RX7) (T := TX7) (N := 2) (fl := zf_7) (v := va_rf ((zP S 1 x0).map (zh y))) X hw_X7_checkSign_7 hM rfl zc_7 ca (by decide) fl_X7_checkSign_7_1 rfl dX7_checkSign_70 ?_
    clear ca
    obtain ⟨b2, hb9, hf⟩ := m_calE hf
    refine z_topr hb9 ?_
    clear hb9
    refine lv_iload_n hx hb dX7_checkSign_73 rfl (lv_at hl 1 rfl) ?_
    refine lv_iload hx hb dX7_checkSign_74 (lv_at hl 2 rfl) ?_
    obtain ⟨ca, hf⟩ := m_chkE hf
    replace ca := z_in hM (by decide) ca
    obtain ⟨o3, ho, hf⟩ := m_calE hf
    refine z_callVi (k := 0) (C := RX0) (T := TX0) (N := 7) (fl := zf_0) X hM rfl zc_0 ca (c_X0_reaches ho) gX7_checkSign_X0_reaches rfl ⟨rfl, rfl⟩ hd_X0_reaches ⟨Nat.le_of_ble_eq_true rfl, Nat.le_of_ble_eq_true rfl⟩ rfl hl.1 rfl (Nat.le_of_ble_eq_true rfl) dX7_checkSign_76 (fun H locs hM => ?_)
    clear ho
    refine lv_if_eq (tgt := 103) hx hb dX7_checkSign_79 (by decide) (fun cc1 => ?_) (fun cc1 => ?_)
    · replace hf := m_ifT hf cc1
      exact w_X7_checkSign_103 (x0 := x0) (x3 := x3) (x4 := x4) X hret hself53 hself62 hf hM (lv_sub hl [0, 1, 2] rfl)
    · replace hf := m_ifF hf cc1
      refine lv_aload_n hx hb dX7_checkSign_82 rfl (lv_at hl 0 rfl) ?_
      refine lv_aload_n hx hb dX7_checkSign_83 rfl (lv_at hl 0 rfl) ?_
      obtain ⟨ca, hf⟩ := m_chkE hf
      replace ca := z_in hM (by decide) ca
      refine z_get (k := 7) (j := 1) (C := RX7) (T := TX7) (N := 2) (fl := zf_7) (v := va_rf ((zP o3.2 1 x0).map (zh y))) X hw_X7_checkSign_7 hM rfl zc_7 ca (by decide) fl_X7_checkSign_7_1 rfl dX7_checkSign_84 ?_
      clear ca
      obtain ⟨b4, hb9, hf⟩ := m_calE hf
      refine z_topr hb9 ?_
      clear hb9
      refine lv_iload_n hx hb dX7_checkSign_87 rfl (lv_at hl 1 rfl) ?_
      refine lv_bipush (v := (64 : Int32)) hx hb dX7_checkSign_88 (by decide) ?_
      refine lv_iload hx hb dX7_checkSign_90 (lv_at hl 2 rfl) ?_
      refine lv_imul hx hb dX7_checkSign_92 ?_
      obtain ⟨v5, ev, hf⟩ := m_bndE hf
      refine m_top ev ?_
      clear ev
      refine lv_iadd hx hb dX7_checkSign_93 ?_
      obtain ⟨v6, ev, hf⟩ := m_bndE hf
      refine m_top ev ?_
      clear ev
      obtain ⟨ca, hf⟩ := m_chkE hf
      replace ca := z_in hM (by decide) ca
      obtain ⟨o7, ho, hf⟩ := m_calE hf
      refine z_callVi (k := 7) (C := RX7) (T := TX7) (N := 2) (fl := zf_7) X hM rfl zc_7 ca (c_X7_isSafe ho) gX7_checkSign_X7_isSafe rfl ⟨rfl, rfl⟩ hd_X7_isSafe ⟨Nat.le_of_ble_eq_true rfl, Nat.le_of_ble_eq_true rfl⟩ rfl hl.1 rfl (Nat.le_of_ble_eq_true rfl) dX7_checkSign_94 (fun H locs hM => ?_)
      clear ho
      refine lv_if_eq (tgt := 103) hx hb dX7_checkSign_97 (by decide) (fun cc1 => ?_) (fun cc1 => ?_)
      · replace hf := m_ifT hf cc1
        exact w_X7_checkSign_103 (x0 := x0) (x3 := x3) (x4 := x4) X hret hself53 hself62 hf hM (lv_sub hl [0, 1, 2] rfl)
      · replace hf := m_ifF hf cc1
        refine lv_bipush (v := (43 : Int32)) hx hb dX7_checkSign_100 (by decide) ?_
        obtain ⟨cd, hf⟩ := m_chkE hf
        cases hf
        exact hret H locs _ ls hM (m_nc cd) dX7_checkSign_102
def f_X7_checkSign_62 (self53 : Nat → Int32 → ZS → Option (Int32 × ZS)) : Nat → Nat → Int32 → Int32 → ZS → Option (Int32 × ZS)
  | 0 => fun _ _ _ _ => none
  | n + 1 => f_X7_checkSign_62s self53 (f_X7_checkSign_62 self53 n)
theorem w_X7_checkSign_62 {p : Program} {l : Launch} {e : Env} {s : State} {m : MethodId} {args : Array Value} {below : List Frame} {meth : Method} {c : Code} {Q : State → Prop} {D : va_G} {y : Nat → ClassId} {A0 : Nat → Prop} {o : Int32 × ZS} (X : CallFix p m c cX7_checkSign 5 s args wsX7_checkSign RX7) (hret : zRi p l e ({ frames := 3, cells := 0, slots := 0, locals := 106 } : Room) s m args below meth c Q cX7_checkSign D y A0 .char o) {self53 : Nat → Int32 → ZS → Option (Int32 × ZS)} (hself53 : ∀ (x0 : Nat) (x3 : Int32) (S : ZS) (H : Heap) (locs : List Loc) (ls : Array Slot), self53 x0 x3 S = some o → zH D y A0 s H locs S → lv_has ls 5 [(0, .ref (zh y x0)), (3, .int x3)] → W p l e ({ frames := 3, cells := 0, slots := 0, locals := 106 } : Room) s m args below meth c H locs 0 0 Q (F0 m 53 ls [])) (n : Nat) : ∀ (x0 : Nat) (x3 : Int32) (x4 : Int32) (S : ZS) (H : Heap) (locs : List Loc) (ls : Array Slot), f_X7_checkSign_62 self53 n x0 x3 x4 S = some o → zH D y A0 s H locs S → lv_has ls 5 [(0, .ref (zh y x0)), (3, .int x3), (4, .int x4)] → W p l e ({ frames := 3, cells := 0, slots := 0, locals := 106 } : Room) s m args below meth c H locs 0 0 Q (F0 m 62 ls []) := by
  induction n with
  | zero => intro x0 x3 x4 S H locs ls hf; cases hf
  | succ n ih => intro x0 x3 x4 S H locs ls hf hM hl; exact ws_X7_checkSign_62 X hret hself53 (self62 := f_X7_checkSign_62 self53 n) ih hf hM hl
def f_X7_checkSign_53s (self53 : Nat → Int32 → ZS → Option (Int32 × ZS)) (x0 : Nat) (x3 : Int32) (S : ZS) : Option (Int32 × ZS) :=
  m_if ((64 : Int32) ≤ x3) (
  m_chk (vp_nar .char (35 : Int32) = (35 : Int32)) (some ((35 : Int32), S))
  ) (
  f_X7_checkSign_62 self53 mFuel x0 x3 (0 : Int32) S
  )

set_option maxRecDepth 100000 in
set_option maxHeartbeats 4000000 in
theorem ws_X7_checkSign_53 {p : Program} {l : Launch} {e : Env} {s : State} {m : MethodId} {args : Array Value} {below : List Frame} {meth : Method} {c : Code} {Q : State → Prop} {D : va_G} {y : Nat → ClassId} {A0 : Nat → Prop} {o : Int32 × ZS} (X : CallFix p m c cX7_checkSign 5 s args wsX7_checkSign RX7) (hret : zRi p l e ({ frames := 3, cells := 0, slots := 0, locals := 106 } : Room) s m args below meth c Q cX7_checkSign D y A0 .char o) {self53 : Nat → Int32 → ZS → Option (Int32 × ZS)} (hself53 : ∀ (x0 : Nat) (x3 : Int32) (S : ZS) (H : Heap) (locs : List Loc) (ls : Array Slot), self53 x0 x3 S = some o → zH D y A0 s H locs S → lv_has ls 5 [(0, .ref (zh y x0)), (3, .int x3)] → W p l e ({ frames := 3, cells := 0, slots := 0, locals := 106 } : Room) s m args below meth c H locs 0 0 Q (F0 m 53 ls [])) {x0 : Nat} {x3 : Int32} {S : ZS} {H : Heap} {locs : List Loc} {ls : Array Slot} (hf : f_X7_checkSign_53s self53 x0 x3 S = some o) (hM : zH D y A0 s H locs S) (hl : lv_has ls 5 [(0, .ref (zh y x0)), (3, .int x3)]) : W p l e ({ frames := 3, cells := 0, slots := 0, locals := 106 } : Room) s m args below meth c H locs 0 0 Q (F0 m 53 ls []) := by
  obtain ⟨hx, hb, hml, hown, hts⟩ := id X
  unfold f_X7_checkSign_53s at hf
  refine lv_iload_n hx hb dX7_checkSign_53 rfl (lv_at hl 1 rfl) ?_
  refine lv_bipush (v := (64 : Int32)) hx hb dX7_checkSign_54 (by decide) ?_
  refine lv_icmp_ge (tgt := 115) hx hb dX7_checkSign_56 (by decide) (fun cc1 => ?_) (fun cc1 => ?_)
  · replace hf := m_ifT hf cc1
    refine lv_bipush (v := (35 : Int32)) hx hb dX7_checkSign_115 (by decide) ?_
    obtain ⟨cd, hf⟩ := m_chkE hf
    cases hf
    exact hret H locs _ ls hM (m_nc cd) dX7_checkSign_117
  · replace hf := m_ifF hf cc1
    refine lv_iconst (v := (0 : Int32)) hx hb dX7_checkSign_59 (by decide) ?_
    refine lv_istore (lv' := [(4, .int (0 : Int32)), (0, .ref (zh y x0)), (3, .int x3)]) hx hb dX7_checkSign_60 hl (by decide) rfl (fun ls hl => ?_)
    exact w_X7_checkSign_62 X hret hself53 _ x0 x3 (0 : Int32) _ _ _ _ hf hM (lv_sub hl [1, 2, 0] rfl)
def f_X7_checkSign_53 : Nat → Nat → Int32 → ZS → Option (Int32 × ZS)
  | 0 => fun _ _ _ => none
  | n + 1 => f_X7_checkSign_53s (f_X7_checkSign_53 n)
theorem w_X7_checkSign_53 {p : Program} {l : Launch} {e : Env} {s : State} {m : MethodId} {args : Array Value} {below : List Frame} {meth : Method} {c : Code} {Q : State → Prop} {D : va_G} {y : Nat → ClassId} {A0 : Nat → Prop} {o : Int32 × ZS} (X : CallFix p m c cX7_checkSign 5 s args wsX7_checkSign RX7) (hret : zRi p l e ({ frames := 3, cells := 0, slots := 0, locals := 106 } : Room) s m args below meth c Q cX7_checkSign D y A0 .char o) (n : Nat) : ∀ (x0 : Nat) (x3 : Int32) (S : ZS) (H : Heap) (locs : List Loc) (ls : Array Slot), f_X7_checkSign_53 n x0 x3 S = some o → zH D y A0 s H locs S → lv_has ls 5 [(0, .ref (zh y x0)), (3, .int x3)] → W p l e ({ frames := 3, cells := 0, slots := 0, locals := 106 } : Room) s m args below meth c H locs 0 0 Q (F0 m 53 ls []) := by
  induction n with
  | zero => intro x0 x3 S H locs ls hf; cases hf
  | succ n ih => intro x0 x3 S H locs ls hf hM hl; exact ws_X7_checkSign_53 X hret (self53 := f_X7_checkSign_53 n) ih hf hM hl
def f_X7_checkSign_0 (x0 : Nat) (x1 : Nat) (x2 : Int32) (S : ZS) : Option (Int32 × ZS) :=
  m_chk (zK S x0 = 7) (
  m_cal (zP S 1 x0) (fun b1 =>
  m_chk (zK S b1 = 0) (
  m_cal (f_X0_copyFrom b1 x1 S) (fun o2 =>
  m_chk (zK o2.2 x0 = 7) (
  m_cal (zP o2.2 1 x0) (fun b3 =>
  m_chk (zK o2.2 b3 = 0) (
  m_cal (f_X0_play b3 x2 o2.2) (fun o4 =>
  m_chk (zK o4.2 x0 = 7) (
  m_cal (zP o4.2 1 x0) (fun b5 =>
  m_chk (zK o4.2 x0 = 7) (
  m_cal (zP o4.2 1 x0) (fun b6 =>
  m_chk (zK o4.2 x0 = 7) (
  m_cal (zP o4.2 1 x0) (fun b7 =>
  m_chk (zK o4.2 b7 = 0) (
  m_chk (zK o4.2 b6 = 0) (
  m_cal (f_X0_kingOf b6 (zI o4.2 3 b7) o4.2) (fun o8 =>
  m_chk (zK o8.2 x0 = 7) (
  m_cal (zP o8.2 1 x0) (fun b9 =>
  m_chk (zK o8.2 b9 = 0) (
  m_bnd ((1 : Int32) - (zI o8.2 3 b9)) (fun v10 =>
  m_chk (zK o8.2 b5 = 0) (
  m_cal (f_X0_attacked b5 o8.1 v10 o8.2) (fun o11 =>
  m_if (o11.1 = 0) (
  m_chk (vp_nar .char (0 : Int32) = (0 : Int32)) (some ((0 : Int32), o11.2))
  ) (
  f_X7_checkSign_53 mFuel x0 (0 : Int32) o11.2
  ))))))))))))))))))))))))

set_option maxRecDepth 100000 in
set_option maxHeartbeats 4000000 in
theorem w_X7_checkSign_0 {p : Program} {l : Launch} {e : Env} {s : State} {m : MethodId} {args : Array Value} {below : List Frame} {meth : Method} {c : Code} {Q : State → Prop} {D : va_G} {y : Nat → ClassId} {A0 : Nat → Prop} {o : Int32 × ZS} (X : CallFix p m c cX7_checkSign 5 s args wsX7_checkSign RX7) (hret : zRi p l e ({ frames := 3, cells := 0, slots := 0, locals := 106 } : Room) s m args below meth c Q cX7_checkSign D y A0 .char o) {x0 : Nat} {x1 : Nat} {x2 : Int32} {S : ZS} {H : Heap} {locs : List Loc} {ls : Array Slot} (hf : f_X7_checkSign_0 x0 x1 x2 S = some o) (hM : zH D y A0 s H locs S) (hl : lv_has ls 5 [(0, .ref (zh y x0)), (1, .ref (zh y x1)), (2, .int x2)]) : W p l e ({ frames := 3, cells := 0, slots := 0, locals := 106 } : Room) s m args below meth c H locs 0 0 Q (F0 m 0 ls []) := by
  obtain ⟨hx, hb, hml, hown, hts⟩ := id X
  unfold f_X7_checkSign_0 at hf
  refine lv_aload_n hx hb dX7_checkSign_0 rfl (lv_at hl 0 rfl) ?_
  obtain ⟨ca, hf⟩ := m_chkE hf
  replace ca := z_in hM (by decide) ca
  refine z_get (k := 7) (j := 1) (C := RX7) (T := TX7) (N := 2) (fl := zf_7) (v := va_rf ((zP S 1 x0).map (zh y))) X hw_X7_checkSign_7 hM rfl zc_7 ca (by decide) fl_X7_checkSign_7_1 rfl dX7_checkSign_1 ?_
  clear ca
  obtain ⟨b1, hb9, hf⟩ := m_calE hf
  refine z_topr hb9 ?_
  clear hb9
  refine lv_aload_n hx hb dX7_checkSign_4 rfl (lv_at hl 1 rfl) ?_
  obtain ⟨ca, hf⟩ := m_chkE hf
  replace ca := z_in hM (by decide) ca
  obtain ⟨o2, ho, hf⟩ := m_calE hf
  refine z_callVv (k := 0) (C := RX0) (T := TX0) (N := 7) (fl := zf_0) X hM rfl zc_0 ca (c_X0_copyFrom ho) gX7_checkSign_X0_copyFrom rfl ⟨rfl, rfl⟩ hd_X0_copyFrom ⟨Nat.le_of_ble_eq_true rfl, Nat.le_of_ble_eq_true rfl⟩ rfl hl.1 rfl (Nat.le_of_ble_eq_true rfl) dX7_checkSign_5 (fun H locs hM => ?_)
  clear ho
  refine lv_aload_n hx hb dX7_checkSign_8 rfl (lv_at hl 0 rfl) ?_
  obtain ⟨ca, hf⟩ := m_chkE hf
  replace ca := z_in hM (by decide) ca
  refine z_get (k := 7) (j := 1) (C := RX7) (T := TX7) (N := 2) (fl := zf_7) (v := va_rf ((zP o2.2 1 x0).map (zh y))) X hw_X7_checkSign_7 hM rfl zc_7 ca (by decide) fl_X7_checkSign_7_1 rfl dX7_checkSign_9 ?_
  clear ca
  obtain ⟨b3, hb9, hf⟩ := m_calE hf
  refine z_topr hb9 ?_
  clear hb9
  refine lv_iload_n hx hb dX7_checkSign_12 rfl (lv_at hl 2 rfl) ?_
  obtain ⟨ca, hf⟩ := m_chkE hf
  replace ca := z_in hM (by decide) ca
  obtain ⟨o4, ho, hf⟩ := m_calE hf
  refine z_callVv (k := 0) (C := RX0) (T := TX0) (N := 7) (fl := zf_0) X hM rfl zc_0 ca (c_X0_play ho) gX7_checkSign_X0_play rfl ⟨rfl, rfl⟩ hd_X0_play ⟨Nat.le_of_ble_eq_true rfl, Nat.le_of_ble_eq_true rfl⟩ rfl hl.1 rfl (Nat.le_of_ble_eq_true rfl) dX7_checkSign_13 (fun H locs hM => ?_)
  clear ho
  refine lv_aload_n hx hb dX7_checkSign_16 rfl (lv_at hl 0 rfl) ?_
  obtain ⟨ca, hf⟩ := m_chkE hf
  replace ca := z_in hM (by decide) ca
  refine z_get (k := 7) (j := 1) (C := RX7) (T := TX7) (N := 2) (fl := zf_7) (v := va_rf ((zP o4.2 1 x0).map (zh y))) X hw_X7_checkSign_7 hM rfl zc_7 ca (by decide) fl_X7_checkSign_7_1 rfl dX7_checkSign_17 ?_
  clear ca
  obtain ⟨b5, hb9, hf⟩ := m_calE hf
  refine z_topr hb9 ?_
  clear hb9
  refine lv_aload_n hx hb dX7_checkSign_20 rfl (lv_at hl 0 rfl) ?_
  obtain ⟨ca, hf⟩ := m_chkE hf
  replace ca := z_in hM (by decide) ca
  refine z_get (k := 7) (j := 1) (C := RX7) (T := TX7) (N := 2) (fl := zf_7) (v := va_rf ((zP o4.2 1 x0).map (zh y))) X hw_X7_checkSign_7 hM rfl zc_7 ca (by decide) fl_X7_checkSign_7_1 rfl dX7_checkSign_21 ?_
  clear ca
  obtain ⟨b6, hb9, hf⟩ := m_calE hf
  refine z_topr hb9 ?_
  clear hb9
  refine lv_aload_n hx hb dX7_checkSign_24 rfl (lv_at hl 0 rfl) ?_
  obtain ⟨ca, hf⟩ := m_chkE hf
  replace ca := z_in hM (by decide) ca
  refine z_get (k := 7) (j := 1) (C := RX7) (T := TX7) (N := 2) (fl := zf_7) (v := va_rf ((zP o4.2 1 x0).map (zh y))) X hw_X7_checkSign_7 hM rfl zc_7 ca (by decide) fl_X7_checkSign_7_1 rfl dX7_checkSign_25 ?_
  clear ca
  obtain ⟨b7, hb9, hf⟩ := m_calE hf
  refine z_topr hb9 ?_
  clear hb9
  obtain ⟨ca, hf⟩ := m_chkE hf
  replace ca := z_in hM (by decide) ca
  refine z_get (k := 0) (j := 3) (C := RX0) (T := TX0) (N := 7) (fl := zf_0) (v := .int (zI o4.2 3 b7)) X hw_X7_checkSign_0 hM rfl zc_0 ca (by decide) fl_X7_checkSign_0_3 rfl dX7_checkSign_28 ?_
  clear ca
  obtain ⟨ca, hf⟩ := m_chkE hf
  replace ca := z_in hM (by decide) ca
  obtain ⟨o8, ho, hf⟩ := m_calE hf
  refine z_callVi (k := 0) (C := RX0) (T := TX0) (N := 7) (fl := zf_0) X hM rfl zc_0 ca (c_X0_kingOf ho) gX7_checkSign_X0_kingOf rfl ⟨rfl, rfl⟩ hd_X0_kingOf ⟨Nat.le_of_ble_eq_true rfl, Nat.le_of_ble_eq_true rfl⟩ rfl hl.1 rfl (Nat.le_of_ble_eq_true rfl) dX7_checkSign_31 (fun H locs hM => ?_)
  clear ho
  refine lv_iconst (v := (1 : Int32)) hx hb dX7_checkSign_34 (by decide) ?_
  refine lv_aload_n hx hb dX7_checkSign_35 rfl (lv_at hl 0 rfl) ?_
  obtain ⟨ca, hf⟩ := m_chkE hf
  replace ca := z_in hM (by decide) ca
  refine z_get (k := 7) (j := 1) (C := RX7) (T := TX7) (N := 2) (fl := zf_7) (v := va_rf ((zP o8.2 1 x0).map (zh y))) X hw_X7_checkSign_7 hM rfl zc_7 ca (by decide) fl_X7_checkSign_7_1 rfl dX7_checkSign_36 ?_
  clear ca
  obtain ⟨b9, hb9, hf⟩ := m_calE hf
  refine z_topr hb9 ?_
  clear hb9
  obtain ⟨ca, hf⟩ := m_chkE hf
  replace ca := z_in hM (by decide) ca
  refine z_get (k := 0) (j := 3) (C := RX0) (T := TX0) (N := 7) (fl := zf_0) (v := .int (zI o8.2 3 b9)) X hw_X7_checkSign_0 hM rfl zc_0 ca (by decide) fl_X7_checkSign_0_3 rfl dX7_checkSign_39 ?_
  clear ca
  refine lv_isub hx hb dX7_checkSign_42 ?_
  obtain ⟨v10, ev, hf⟩ := m_bndE hf
  refine m_top ev ?_
  clear ev
  obtain ⟨ca, hf⟩ := m_chkE hf
  replace ca := z_in hM (by decide) ca
  obtain ⟨o11, ho, hf⟩ := m_calE hf
  refine z_callVi (k := 0) (C := RX0) (T := TX0) (N := 7) (fl := zf_0) X hM rfl zc_0 ca (c_X0_attacked ho) gX7_checkSign_X0_attacked rfl ⟨rfl, rfl⟩ hd_X0_attacked ⟨Nat.le_of_ble_eq_true rfl, Nat.le_of_ble_eq_true rfl⟩ rfl hl.1 rfl (Nat.le_of_ble_eq_true rfl) dX7_checkSign_43 (fun H locs hM => ?_)
  clear ho
  refine lv_if_ne (tgt := 51) hx hb dX7_checkSign_46 (by decide) (fun cc1 => ?_) (fun cc1 => ?_)
  · replace hf := m_ifF hf cc1
    refine lv_iconst (v := (0 : Int32)) hx hb dX7_checkSign_51 (by decide) ?_
    refine lv_istore_n (lv' := [(3, .int (0 : Int32)), (0, .ref (zh y x0)), (1, .ref (zh y x1)), (2, .int x2)]) hx hb dX7_checkSign_52 rfl hl (by decide) rfl (fun ls hl => ?_)
    exact w_X7_checkSign_53 X hret _ x0 (0 : Int32) _ _ _ _ hf hM (lv_sub hl [1, 0] rfl)
  · replace hf := m_ifT hf cc1
    refine lv_iconst (v := (0 : Int32)) hx hb dX7_checkSign_49 (by decide) ?_
    obtain ⟨cd, hf⟩ := m_chkE hf
    cases hf
    exact hret H locs _ ls hM (m_nc cd) dX7_checkSign_50
def f_X7_checkSign (x0 : Nat) (x1 : Nat) (x2 : Int32) (S : ZS) : Option (Int32 × ZS) := f_X7_checkSign_0 x0 x1 x2 S
theorem c_X7_checkSign {l : Launch} {D : va_G} {y : Nat → ClassId} {x0 : Nat} {x1 : Nat} {x2 : Int32} {S : ZS} {o : Int32 × ZS} (hf : f_X7_checkSign x0 x1 x2 S = some o) : zMi l yX7_checkSign wsX7_checkSign ({ frames := 3, cells := 0, slots := 0, locals := 106 } : Room) [.ref (zh y x0), .ref (zh y x1), .int x2] D y S o :=
  z_entryI (own := RX7) (cc := cX7_checkSign) (maxL := 5) (by decide) rfl rfl (Nat.le_of_ble_eq_true rfl) (fun p e s m args below meth c A0 Q H locs ls X hret hM hl => w_X7_checkSign_0 X hret hf hM (lv_sub hl [0, 1, 2] rfl))
theorem hd_X8_copyBare : yX8_copyBare.cls = RX8 ∧ yX8_copyBare.cls ≠ "java/lang/invoke/MethodHandle" ∧ yX8_copyBare.cls ≠ "java/lang/invoke/VarHandle" ∧ (parseMethodDescriptor yX8_copyBare.desc).map (fun d => d.parameters.length) = some 3 := by decide +kernel
theorem fl_X8_copyBare_8_1 : Cond.fieldLink RX8 21 "MoveTexts$SignReader" "row" "LMoveTexts$Row;" ∈ wsX8_copyBare := by decide +kernel
theorem hw_X8_copyBare_8 : ∀ w ∈ wsX80, w ∈ wsX8_copyBare := by decide +kernel
def g_X8_copyBare_73 (Pw : Int32 → ZS → Prop) (S : ZS) (C T : Nat) : Prop :=
  Pw 0 S

set_option maxRecDepth 100000 in
set_option maxHeartbeats 4000000 in
theorem w_X8_copyBare_73 {p : Program} {l : Launch} {e : Env} {s : State} {m : MethodId} {args : Array Value} {below : List Frame} {meth : Method} {c : Code} {Q : State → Prop} {D : va_G} {y : Nat → ClassId} {A0 : Nat → Prop} {kc kt : Nat} {Pw : Int32 → ZS → Prop} (X : CallFix p m c cX8_copyBare 6 s args wsX8_copyBare RX8) (hret : zQv p l e ({ frames := 2, cells := kc, slots := kt, locals := 82 } : Room) s m args below meth c Q cX8_copyBare D y A0 Pw) {S : ZS} {C T : Nat} {H : Heap} {locs : List Loc} {ls : Array Slot} (hf : g_X8_copyBare_73 Pw  S C T) (hCT : C ≤ kc ∧ T ≤ kt) (hM : zH D y A0 s H locs S) (hl : lv_has ls 6 []) : W p l e ({ frames := 2, cells := kc, slots := kt, locals := 82 } : Room) s m args below meth c H locs (kc - C) (kt - T) Q (F0 m 73 ls []) := by
  obtain ⟨hx, hb, hml, hown, hts⟩ := id X
  unfold g_X8_copyBare_73 at hf
  exact hret _ _ _ H locs _ ls hf hM dX8_copyBare_73
def g_X8_copyBare_67 (Pw : Int32 → ZS → Prop) (self11 : Nat → Nat → Int32 → Int32 → ZS → Nat → Nat → Prop) (x0 : Nat) (x1 : Nat) (x3 : Int32) (x4 : Int32) (S : ZS) (C T : Nat) : Prop :=
  m_bndP (x4 + (1 : Int32)) (fun v1 =>
  self11 x0 x1 x3 v1 S (C) (T))

set_option maxRecDepth 100000 in
set_option maxHeartbeats 4000000 in
theorem w_X8_copyBare_67 {p : Program} {l : Launch} {e : Env} {s : State} {m : MethodId} {args : Array Value} {below : List Frame} {meth : Method} {c : Code} {Q : State → Prop} {D : va_G} {y : Nat → ClassId} {A0 : Nat → Prop} {kc kt : Nat} {Pw : Int32 → ZS → Prop} (X : CallFix p m c cX8_copyBare 6 s args wsX8_copyBare RX8) (hret : zQv p l e ({ frames := 2, cells := kc, slots := kt, locals := 82 } : Room) s m args below meth c Q cX8_copyBare D y A0 Pw) {self11 : Nat → Nat → Int32 → Int32 → ZS → Nat → Nat → Prop} (hself11 : ∀ (x0 : Nat) (x1 : Nat) (x3 : Int32) (x4 : Int32) (S : ZS) (C T : Nat) (H : Heap) (locs : List Loc) (ls : Array Slot), self11 x0 x1 x3 x4 S C T → C ≤ kc ∧ T ≤ kt → zH D y A0 s H locs S → lv_has ls 6 [(0, .ref (zh y x0)), (1, .ref (zh y x1)), (3, .int x3), (4, .int x4)] → W p l e ({ frames := 2, cells := kc, slots := kt, locals := 82 } : Room) s m args below meth c H locs (kc - C) (kt - T) Q (F0 m 11 ls [])) {x0 : Nat} {x1 : Nat} {x3 : Int32} {x4 : Int32} {S : ZS} {C T : Nat} {H : Heap} {locs : List Loc} {ls : Array Slot} (hf : g_X8_copyBare_67 Pw self11 x0 x1 x3 x4 S C T) (hCT : C ≤ kc ∧ T ≤ kt) (hM : zH D y A0 s H locs S) (hl : lv_has ls 6 [(0, .ref (zh y x0)), (1, .ref (zh y x1)), (3, .int x3), (4, .int x4)]) : W p l e ({ frames := 2, cells := kc, slots := kt, locals := 82 } : Room) s m args below meth c H locs (kc - C) (kt - T) Q (F0 m 67 ls []) := by
  obtain ⟨hx, hb, hml, hown, hts⟩ := id X
  unfold g_X8_copyBare_67 at hf
  obtain ⟨v1, ev, hf⟩ := m_bndPE hf
  refine lv_iinc (v := v1) (lv' := [(4, .int v1), (0, .ref (zh y x0)), (1, .ref (zh y x1)), (3, .int x3)]) hx hb dX8_copyBare_67 hl (k := 3) rfl (by rw [ev]; rfl) (by decide) rfl (fun ls hl => ?_)
  clear ev
  refine lv_goto (tgt := 11) hx hb dX8_copyBare_70 (by decide) ?_
  exact hself11 x0 x1 x3 v1 _ _ _ _ _ _ hf hCT hM (lv_sub hl [1, 2, 3, 0] rfl)
def g_X8_copyBare_11s (Pw : Int32 → ZS → Prop) (self11 : Nat → Nat → Int32 → Int32 → ZS → Nat → Nat → Prop) (x0 : Nat) (x1 : Nat) (x3 : Int32) (x4 : Int32) (S : ZS) (C T : Nat) : Prop :=
  m_ifQ (x3 ≤ x4) (
  g_X8_copyBare_73 Pw  S (C) (T)
  ) (
  m_chkQ (zK S x0 = 8) (
  m_calP (zP S 1 x0) (fun b1 =>
  m_chkQ (zK S b1 = 6) (
  m_calP (f_X6_size b1 S) (fun o2 =>
  m_ifQ ((7 : Int32) < o2.1) (
  g_X8_copyBare_73 Pw  o2.2 (C) (T)
  ) (
  m_chkQ (zK o2.2 x1 = 6) (
  m_calP (f_X6_at x1 x4 o2.2) (fun o3 =>
  m_ifQ (o3.1 = (120 : Int32)) (
  g_X8_copyBare_67 Pw self11 x0 x1 x3 x4 o3.2 (C) (T)
  ) (
  m_ifQ (o3.1 = (43 : Int32)) (
  g_X8_copyBare_67 Pw self11 x0 x1 x3 x4 o3.2 (C) (T)
  ) (
  m_ifQ (o3.1 = (35 : Int32)) (
  g_X8_copyBare_67 Pw self11 x0 x1 x3 x4 o3.2 (C) (T)
  ) (
  m_chkQ (zK o3.2 x0 = 8) (
  m_calP (zP o3.2 1 x0) (fun b4 =>
  m_chkQ (zK o3.2 b4 = 6) (
  m_gal (C) (T) (fun mc ms Pw => g_X6_put b4 o3.1 o3.2 mc ms Pw) (fun r6 S7 C8 T9 =>
  g_X8_copyBare_67 Pw self11 x0 x1 x3 x4 S7 (C8) (T9)))))
  )
  )
  )))
  )))))
  )

set_option maxRecDepth 100000 in
set_option maxHeartbeats 4000000 in
theorem ws_X8_copyBare_11 {p : Program} {l : Launch} {e : Env} {s : State} {m : MethodId} {args : Array Value} {below : List Frame} {meth : Method} {c : Code} {Q : State → Prop} {D : va_G} {y : Nat → ClassId} {A0 : Nat → Prop} {kc kt : Nat} {Pw : Int32 → ZS → Prop} (X : CallFix p m c cX8_copyBare 6 s args wsX8_copyBare RX8) (hret : zQv p l e ({ frames := 2, cells := kc, slots := kt, locals := 82 } : Room) s m args below meth c Q cX8_copyBare D y A0 Pw) {self11 : Nat → Nat → Int32 → Int32 → ZS → Nat → Nat → Prop} (hself11 : ∀ (x0 : Nat) (x1 : Nat) (x3 : Int32) (x4 : Int32) (S : ZS) (C T : Nat) (H : Heap) (locs : List Loc) (ls : Array Slot), self11 x0 x1 x3 x4 S C T → C ≤ kc ∧ T ≤ kt → zH D y A0 s H locs S → lv_has ls 6 [(0, .ref (zh y x0)), (1, .ref (zh y x1)), (3, .int x3), (4, .int x4)] → W p l e ({ frames := 2, cells := kc, slots := kt, locals := 82 } : Room) s m args below meth c H locs (kc - C) (kt - T) Q (F0 m 11 ls [])) {x0 : Nat} {x1 : Nat} {x3 : Int32} {x4 : Int32} {S : ZS} {C T : Nat} {H : Heap} {locs : List Loc} {ls : Array Slot} (hf : g_X8_copyBare_11s Pw self11 x0 x1 x3 x4 S C T) (hCT : C ≤ kc ∧ T ≤ kt) (hM : zH D y A0 s H locs S) (hl : lv_has ls 6 [(0, .ref (zh y x0)), (1, .ref (zh y x1)), (3, .int x3), (4, .int x4)]) : W p l e ({ frames := 2, cells := kc, slots := kt, locals := 82 } : Room) s m args below meth c H locs (kc - C) (kt - T) Q (F0 m 11 ls []) := by
  obtain ⟨hx, hb, hml, hown, hts⟩ := id X
  unfold g_X8_copyBare_11s at hf
  refine lv_iload hx hb dX8_copyBare_11 (lv_at hl 3 rfl) ?_
  refine lv_iload_n hx hb dX8_copyBare_13 rfl (lv_at hl 2 rfl) ?_
  refine lv_icmp_ge (tgt := 73) hx hb dX8_copyBare_14 (by decide) (fun cc1 => ?_) (fun cc1 => ?_)
  · replace hf := m_ifPT hf cc1
    exact w_X8_copyBare_73 X hret hf hCT hM (lv_sub hl [] rfl)
  · replace hf := m_ifPF hf cc1
    refine lv_aload_n hx hb dX8_copyBare_17 rfl (lv_at hl 0 rfl) ?_
    obtain ⟨ca, hf⟩ := m_chkPE hf
    replace ca := z_in hM (by decide) ca
    refine z_get (k := 8) (j := 1) (C := RX8) (T := TX8) (N := 12) (fl := zf_8) (v := va_rf ((zP S 1 x0).map (zh y))) X hw_X8_copyBare_8 hM rfl zc_8 ca (by decide) fl_X8_copyBare_8_1 rfl dX8_copyBare_18 ?_
    clear ca
    obtain ⟨b1, hb9, hf⟩ := m_calPE hf
    refine z_topr hb9 ?_
    clear hb9
    obtain ⟨ca, hf⟩ := m_chkPE hf
    replace ca := z_in hM (by decide) ca
    obtain ⟨o2, ho, hf⟩ := m_calPE hf
    refine z_gcallVi (k := 6) (C := RX6) (T := TX6) (N := 2) (fl := zf_6) X hM rfl zc_6 ca (c_X6_size ho) gX8_copyBare_X6_size rfl ⟨rfl, rfl⟩ hd_X6_size ⟨Nat.le_of_ble_eq_true rfl, Nat.le_of_ble_eq_true rfl⟩ rfl hl.1 rfl ⟨Nat.sub_le _ _, Nat.sub_le _ _⟩ (Nat.le_of_ble_eq_true rfl) dX8_copyBare_21 (fun H locs hM => ?_)
    clear ho
    refine lv_bipush (v := (7 : Int32)) hx hb dX8_copyBare_24 (by decide) ?_
    refine lv_icmp_gt (tgt := 73) hx hb dX8_copyBare_26 (by decide) (fun cc1 => ?_) (fun cc1 => ?_)
    · replace hf := m_ifPT hf cc1
      exact w_X8_copyBare_73 X hret hf hCT hM (lv_sub hl [] rfl)
    · replace hf := m_ifPF hf cc1
      refine lv_aload_n hx hb dX8_copyBare_29 rfl (lv_at hl 1 rfl) ?_
      refine lv_iload hx hb dX8_copyBare_30 (lv_at hl 3 rfl) ?_
      obtain ⟨ca, hf⟩ := m_chkPE hf
      replace ca := z_in hM (by decide) ca
      obtain ⟨o3, ho, hf⟩ := m_calPE hf
      refine z_gcallVi (k := 6) (C := RX6) (T := TX6) (N := 2) (fl := zf_6) X hM rfl zc_6 ca (c_X6_at ho) gX8_copyBare_X6_at rfl ⟨rfl, rfl⟩ hd_X6_at ⟨Nat.le_of_ble_eq_true rfl, Nat.le_of_ble_eq_true rfl⟩ rfl hl.1 rfl ⟨Nat.sub_le _ _, Nat.sub_le _ _⟩ (Nat.le_of_ble_eq_true rfl) dX8_copyBare_32 (fun H locs hM => ?_)
      clear ho
      refine lv_istore (lv' := [(5, .int o3.1), (0, .ref (zh y x0)), (1, .ref (zh y x1)), (3, .int x3), (4, .int x4)]) hx hb dX8_copyBare_35 hl (by decide) rfl (fun ls hl => ?_)
      refine lv_iload hx hb dX8_copyBare_37 (lv_at hl 0 rfl) ?_
      refine lv_bipush (v := (120 : Int32)) hx hb dX8_copyBare_39 (by decide) ?_
      refine lv_icmp_eq (tgt := 67) hx hb dX8_copyBare_41 (by decide) (fun cc1 => ?_) (fun cc1 => ?_)
      · replace hf := m_ifPT hf cc1
        exact w_X8_copyBare_67 (x0 := x0) (x1 := x1) (x3 := x3) (x4 := x4) X hret hself11 hf hCT hM (lv_sub hl [1, 2, 3, 4] rfl)
      · replace hf := m_ifPF hf cc1
        refine lv_iload hx hb dX8_copyBare_44 (lv_at hl 0 rfl) ?_
        refine lv_bipush (v := (43 : Int32)) hx hb dX8_copyBare_46 (by decide) ?_
        refine lv_icmp_eq (tgt := 67) hx hb dX8_copyBare_48 (by decide) (fun cc1 => ?_) (fun cc1 => ?_)
        · replace hf := m_ifPT hf cc1
          exact w_X8_copyBare_67 (x0 := x0) (x1 := x1) (x3 := x3) (x4 := x4) X hret hself11 hf hCT hM (lv_sub hl [1, 2, 3, 4] rfl)
        · replace hf := m_ifPF hf cc1
          refine lv_iload hx hb dX8_copyBare_51 (lv_at hl 0 rfl) ?_
          refine lv_bipush (v := (35 : Int32)) hx hb dX8_copyBare_53 (by decide) ?_
          refine lv_icmp_eq (tgt := 67) hx hb dX8_copyBare_55 (by decide) (fun cc1 => ?_) (fun cc1 => ?_)
          · replace hf := m_ifPT hf cc1
            exact w_X8_copyBare_67 (x0 := x0) (x1 := x1) (x3 := x3) (x4 := x4) X hret hself11 hf hCT hM (lv_sub hl [1, 2, 3, 4] rfl)
          · replace hf := m_ifPF hf cc1
            refine lv_aload_n hx hb dX8_copyBare_58 rfl (lv_at hl 1 rfl) ?_
            obtain ⟨ca, hf⟩ := m_chkPE hf
            replace ca := z_in hM (by decide) ca
            refine z_get (k := 8) (j := 1) (C := RX8) (T := TX8) (N := 12) (fl := zf_8) (v := va_rf ((zP o3.2 1 x0).map (zh y))) X hw_X8_copyBare_8 hM rfl zc_8 ca (by decide) fl_X8_copyBare_8_1 rfl dX8_copyBare_59 ?_
            clear ca
            obtain ⟨b4, hb9, hf⟩ := m_calPE hf
            refine z_topr hb9 ?_
            clear hb9
            refine lv_iload hx hb dX8_copyBare_62 (lv_at hl 0 rfl) ?_
            obtain ⟨ca, hf⟩ := m_chkPE hf
            replace ca := z_in hM (by decide) ca
            obtain ⟨mc, ms, hcm, ho⟩ := m_galE hf
            refine z_wcallVv (k := 6) (C := RX6) (T := TX6) (N := 2) (fl := zf_6) X hM rfl zc_6 ca (c_X6_put ho) gX8_copyBare_X6_put rfl ⟨rfl, rfl⟩ ⟨by show kc - (C) + mc ≤ kc; omega, by show kt - (T) + ms ≤ kt; omega⟩ hd_X6_put ⟨Nat.le_of_ble_eq_true rfl, Nat.le_of_ble_eq_true rfl⟩ rfl hl.1 rfl (Nat.le_of_ble_eq_true rfl) dX8_copyBare_64 (fun S7 H locs hf hM => ?_)
            refine z_eqCS (c2 := kc - (C - mc)) (t2 := kt - (T - ms)) (by omega) (by omega) ?_
            replace hCT : C - mc ≤ kc ∧ T - ms ≤ kt := by omega
            generalize C - mc = C8 at hf hCT ⊢
            generalize T - ms = T9 at hf hCT ⊢
            clear ho hcm
            exact w_X8_copyBare_67 (x0 := x0) (x1 := x1) (x3 := x3) (x4 := x4) X hret hself11 hf hCT hM (lv_sub hl [1, 2, 3, 4] rfl)
def g_X8_copyBare_11 (Pw : Int32 → ZS → Prop) : Nat → Nat → Nat → Int32 → Int32 → ZS → Nat → Nat → Prop
  | 0 => fun _ _ _ _ _ _ _ => False
  | n + 1 => g_X8_copyBare_11s Pw (g_X8_copyBare_11 Pw n)
theorem w_X8_copyBare_11 {p : Program} {l : Launch} {e : Env} {s : State} {m : MethodId} {args : Array Value} {below : List Frame} {meth : Method} {c : Code} {Q : State → Prop} {D : va_G} {y : Nat → ClassId} {A0 : Nat → Prop} {kc kt : Nat} {Pw : Int32 → ZS → Prop} (X : CallFix p m c cX8_copyBare 6 s args wsX8_copyBare RX8) (hret : zQv p l e ({ frames := 2, cells := kc, slots := kt, locals := 82 } : Room) s m args below meth c Q cX8_copyBare D y A0 Pw) (n : Nat) : ∀ (x0 : Nat) (x1 : Nat) (x3 : Int32) (x4 : Int32) (S : ZS) (C T : Nat) (H : Heap) (locs : List Loc) (ls : Array Slot), g_X8_copyBare_11 Pw n x0 x1 x3 x4 S C T → C ≤ kc ∧ T ≤ kt → zH D y A0 s H locs S → lv_has ls 6 [(0, .ref (zh y x0)), (1, .ref (zh y x1)), (3, .int x3), (4, .int x4)] → W p l e ({ frames := 2, cells := kc, slots := kt, locals := 82 } : Room) s m args below meth c H locs (kc - C) (kt - T) Q (F0 m 11 ls []) := by
  induction n with
  | zero => intro x0 x1 x3 x4 S C T H locs ls hf; exact absurd hf id
  | succ n ih => intro x0 x1 x3 x4 S C T H locs ls hf hCT hM hl; exact ws_X8_copyBare_11 X hret (self11 := g_X8_copyBare_11 Pw n) ih hf hCT hM hl
def g_X8_copyBare_0 (Pw : Int32 → ZS → Prop) (x0 : Nat) (x1 : Nat) (x2 : Int32) (x3 : Int32) (S : ZS) (C T : Nat) : Prop :=
  m_chkQ (zK S x0 = 8) (
  m_calP (zP S 1 x0) (fun b1 =>
  m_chkQ (zK S b1 = 6) (
  m_calP (f_X6_keep b1 (0 : Int32) S) (fun o2 =>
  g_X8_copyBare_11 Pw mFuel x0 x1 x3 x2 o2.2 (C) (T)))))

set_option maxRecDepth 100000 in
set_option maxHeartbeats 4000000 in
theorem w_X8_copyBare_0 {p : Program} {l : Launch} {e : Env} {s : State} {m : MethodId} {args : Array Value} {below : List Frame} {meth : Method} {c : Code} {Q : State → Prop} {D : va_G} {y : Nat → ClassId} {A0 : Nat → Prop} {kc kt : Nat} {Pw : Int32 → ZS → Prop} (X : CallFix p m c cX8_copyBare 6 s args wsX8_copyBare RX8) (hret : zQv p l e ({ frames := 2, cells := kc, slots := kt, locals := 82 } : Room) s m args below meth c Q cX8_copyBare D y A0 Pw) {x0 : Nat} {x1 : Nat} {x2 : Int32} {x3 : Int32} {S : ZS} {C T : Nat} {H : Heap} {locs : List Loc} {ls : Array Slot} (hf : g_X8_copyBare_0 Pw x0 x1 x2 x3 S C T) (hCT : C ≤ kc ∧ T ≤ kt) (hM : zH D y A0 s H locs S) (hl : lv_has ls 6 [(0, .ref (zh y x0)), (1, .ref (zh y x1)), (2, .int x2), (3, .int x3)]) : W p l e ({ frames := 2, cells := kc, slots := kt, locals := 82 } : Room) s m args below meth c H locs (kc - C) (kt - T) Q (F0 m 0 ls []) := by
  obtain ⟨hx, hb, hml, hown, hts⟩ := id X
  unfold g_X8_copyBare_0 at hf
  refine lv_aload_n hx hb dX8_copyBare_0 rfl (lv_at hl 0 rfl) ?_
  obtain ⟨ca, hf⟩ := m_chkPE hf
  replace ca := z_in hM (by decide) ca
  refine z_get (k := 8) (j := 1) (C := RX8) (T := TX8) (N := 12) (fl := zf_8) (v := va_rf ((zP S 1 x0).map (zh y))) X hw_X8_copyBare_8 hM rfl zc_8 ca (by decide) fl_X8_copyBare_8_1 rfl dX8_copyBare_1 ?_
  clear ca
  obtain ⟨b1, hb9, hf⟩ := m_calPE hf
  refine z_topr hb9 ?_
  clear hb9
  refine lv_iconst (v := (0 : Int32)) hx hb dX8_copyBare_4 (by decide) ?_
  obtain ⟨ca, hf⟩ := m_chkPE hf
  replace ca := z_in hM (by decide) ca
  obtain ⟨o2, ho, hf⟩ := m_calPE hf
  refine z_gcallVv (k := 6) (C := RX6) (T := TX6) (N := 2) (fl := zf_6) X hM rfl zc_6 ca (c_X6_keep ho) gX8_copyBare_X6_keep rfl ⟨rfl, rfl⟩ hd_X6_keep ⟨Nat.le_of_ble_eq_true rfl, Nat.le_of_ble_eq_true rfl⟩ rfl hl.1 rfl ⟨Nat.sub_le _ _, Nat.sub_le _ _⟩ (Nat.le_of_ble_eq_true rfl) dX8_copyBare_5 (fun H locs hM => ?_)
  clear ho
  refine lv_iload_n hx hb dX8_copyBare_8 rfl (lv_at hl 2 rfl) ?_
  refine lv_istore (lv' := [(4, .int x2), (0, .ref (zh y x0)), (1, .ref (zh y x1)), (2, .int x2), (3, .int x3)]) hx hb dX8_copyBare_9 hl (by decide) rfl (fun ls hl => ?_)
  exact w_X8_copyBare_11 X hret _ x0 x1 x3 x2 _ _ _ _ _ _ hf hCT hM (lv_sub hl [1, 2, 4, 0] rfl)
def g_X8_copyBare (x0 : Nat) (x1 : Nat) (x2 : Int32) (x3 : Int32) (S : ZS) (mc ms : Nat) (Pw : Int32 → ZS → Prop) : Prop := g_X8_copyBare_0 Pw x0 x1 x2 x3 S mc ms
theorem c_X8_copyBare {l : Launch} {D : va_G} {y : Nat → ClassId} {x0 : Nat} {x1 : Nat} {x2 : Int32} {x3 : Int32} {S : ZS} {kc kt : Nat} {Pw : Int32 → ZS → Prop} (hf : g_X8_copyBare x0 x1 x2 x3 S kc kt Pw) : zWv l yX8_copyBare wsX8_copyBare ({ frames := 2, cells := kc, slots := kt, locals := 82 } : Room) [.ref (zh y x0), .ref (zh y x1), .int x2, .int x3] D y S kc kt Pw :=
  z_wentV (own := RX8) (cc := cX8_copyBare) (maxL := 6) (by decide) rfl rfl (Nat.le_of_ble_eq_true rfl) ⟨rfl, rfl⟩ (fun p e s m args below meth c A0 Q H locs ls X hret hM hl => w_X8_copyBare_0 X hret hf ⟨Nat.le_refl _, Nat.le_refl _⟩ hM (lv_sub hl [0, 1, 2, 3] rfl))
