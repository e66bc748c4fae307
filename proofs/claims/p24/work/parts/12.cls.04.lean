section
theorem hd_J0_indexOf_0f7a4 : yJ0_indexOf_0f7a4.cls = RJ0 ∧ yJ0_indexOf_0f7a4.cls ≠ "java/lang/invoke/MethodHandle" ∧ yJ0_indexOf_0f7a4.cls ≠ "java/lang/invoke/VarHandle" ∧ (parseMethodDescriptor yJ0_indexOf_0f7a4.desc).map (fun d => d.parameters.length) = some 1 := by decide +kernel
noncomputable def f_J0_indexOf_0f7a4_0 (x0 : Nat) (x1 : Int32) (S : ZS) : Option (Int32 × ZS) :=
  m_chk (x0 < zSn) (
  m_cal (f_J0_indexOf_7cf53 x0 x1 (0 : Int32) S) (fun o1 =>
  some (o1.1, o1.2)))

set_option maxRecDepth 100000 in
set_option maxHeartbeats 4000000 in
theorem w_J0_indexOf_0f7a4_0 {p : Program} {l : Launch} {e : Env} {s : State} {m : MethodId} {args : Array Value} {below : List Frame} {meth : Method} {c : Code} {Q : State → Prop} {D : va_G} {y : Nat → ClassId} {A0 : Nat → Prop} {o : Int32 × ZS} (X : CallFix p m c cJ0_indexOf_0f7a4 2 s args wsJ0_indexOf_0f7a4 RJ0) (hret : zRi p l e ({ frames := 3, cells := 0, slots := 0, locals := 70 } : Room) s m args below meth c Q cJ0_indexOf_0f7a4 D y A0 .int o) {x0 : Nat} {x1 : Int32} {S : ZS} {H : Heap} {locs : List Loc} {ls : Array Slot} (hf : f_J0_indexOf_0f7a4_0 x0 x1 S = some o) (hM : zH D y A0 s H locs S) (hl : lv_has ls 2 [(0, .ref (y (100 + x0))), (1, .int x1)]) : W p l e ({ frames := 3, cells := 0, slots := 0, locals := 70 } : Room) s m args below meth c H locs 0 0 Q (F0 m 0 ls []) := by
  obtain ⟨hx, hb, hml, hown, hts⟩ := id X
  unfold f_J0_indexOf_0f7a4_0 at hf
  refine lv_aload_n hx hb dJ0_indexOf_0f7a4_0 rfl (lv_at hl 0 rfl) ?_
  refine lv_iload_n hx hb dJ0_indexOf_0f7a4_1 rfl (lv_at hl 1 rfl) ?_
  refine lv_iconst (v := (0 : Int32)) hx hb dJ0_indexOf_0f7a4_2 (by decide) ?_
  obtain ⟨ca, hf⟩ := m_chkE hf
  obtain ⟨o1, ho, hf⟩ := m_calE hf
  refine z_callTi X hM ca (c_J0_indexOf_7cf53 ho) gJ0_indexOf_0f7a4_J0_indexOf_7cf53 rfl ⟨rfl, rfl⟩ hd_J0_indexOf_7cf53 ⟨Nat.le_of_ble_eq_true rfl, Nat.le_of_ble_eq_true rfl⟩ rfl hl.1 rfl (Nat.le_of_ble_eq_true rfl) dJ0_indexOf_0f7a4_3 (fun H locs hM => ?_)
  clear ho
  cases hf
  exact hret H locs _ ls hM rfl dJ0_indexOf_0f7a4_6
noncomputable def f_J0_indexOf_0f7a4 (x0 : Nat) (x1 : Int32) (S : ZS) : Option (Int32 × ZS) := f_J0_indexOf_0f7a4_0 x0 x1 S
theorem c_J0_indexOf_0f7a4 {l : Launch} {D : va_G} {y : Nat → ClassId} {x0 : Nat} {x1 : Int32} {S : ZS} {o : Int32 × ZS} (hf : f_J0_indexOf_0f7a4 x0 x1 S = some o) : zMi l yJ0_indexOf_0f7a4 wsJ0_indexOf_0f7a4 ({ frames := 3, cells := 0, slots := 0, locals := 70 } : Room) [.ref (y (100 + x0)), .int x1] D y S o :=
  z_entryI (own := RJ0) (cc := cJ0_indexOf_0f7a4) (maxL := 2) (by decide) rfl rfl (Nat.le_of_ble_eq_true rfl) (fun p e s m args below meth c A0 Q H locs ls X hret hM hl => w_J0_indexOf_0f7a4_0 X hret hf hM (lv_sub hl [0, 1] rfl))
theorem hd_X5_readRank : yX5_readRank.cls = RX5 ∧ yX5_readRank.cls ≠ "java/lang/invoke/MethodHandle" ∧ yX5_readRank.cls ≠ "java/lang/invoke/VarHandle" ∧ (parseMethodDescriptor yX5_readRank.desc).map (fun d => d.parameters.length) = some 2 := by decide +kernel
theorem fl_X5_readRank_5_0 : Cond.fieldLink RX5 12 "MoveTexts$PositionReader" "text" "LMoveTexts$Row;" ∈ wsX5_readRank := by decide +kernel
theorem fl_X5_readRank_5_1 : Cond.fieldLink RX5 18 "MoveTexts$PositionReader" "at" "I" ∈ wsX5_readRank := by decide +kernel
theorem hw_X5_readRank_5 : ∀ w ∈ wsX50, w ∈ wsX5_readRank := by decide +kernel
theorem nn_X5_readRank_70 : ((RX5, 70, yX11_isRank, "MoveTexts") ∈ zNW ∧ Cond.initialized yX11_isRank.cls ∈ wsX5_readRank) ∧ Cond.static yX11_isRank ∈ wsX5_readRank := by decide +kernel
theorem nn_X5_readRank_73 : ((RX5, 73, yX11_isLetter, "MoveTexts") ∈ zNW ∧ Cond.initialized yX11_isLetter.cls ∈ wsX5_readRank) ∧ Cond.static yX11_isLetter ∈ wsX5_readRank := by decide +kernel
theorem sr_X5_readRank_76 : (RX5, 76, "PNBRQK  pnbrqk", 1) ∈ zSR := by decide +kernel
noncomputable def f_X5_readRank_136 (t0 : Int32) (S : ZS) : Option (Int32 × ZS) :=
  m_chk (vp_nar .boolean t0 = t0) (some (t0, S))

set_option maxRecDepth 100000 in
set_option maxHeartbeats 4000000 in
theorem w_X5_readRank_136 {p : Program} {l : Launch} {e : Env} {s : State} {m : MethodId} {args : Array Value} {below : List Frame} {meth : Method} {c : Code} {Q : State → Prop} {D : va_G} {y : Nat → ClassId} {A0 : Nat → Prop} {o : Int32 × ZS} (X : CallFix p m c cX5_readRank 8 s args wsX5_readRank RX5) (hret : zRi p l e ({ frames := 4, cells := 0, slots := 0, locals := 91 } : Room) s m args below meth c Q cX5_readRank D y A0 .boolean o) {t0 : Int32} {S : ZS} {H : Heap} {locs : List Loc} {ls : Array Slot} (hf : f_X5_readRank_136 t0 S = some o) (hM : zH D y A0 s H locs S) (hl : lv_has ls 8 []) : W p l e ({ frames := 4, cells := 0, slots := 0, locals := 91 } : Room) s m args below meth c H locs 0 0 Q (F0 m 136 ls [.int t0]) := by
  obtain ⟨hx, hb, hml, hown, hts⟩ := id X
  unfold f_X5_readRank_136 at hf
  obtain ⟨cd, hf⟩ := m_chkE hf
  cases hf
  exact hret H locs _ ls hM (m_nb cd) dX5_readRank_136
noncomputable def f_X5_readRank_105 (self5 : Nat → Nat → Int32 → Int32 → Int32 → ZS → Option (Int32 × ZS)) (x0 : Nat) (x1 : Nat) (x2 : Int32) (x6 : Int32) (t0 : Int32) (t1 : Int32) (S : ZS) : Option (Int32 × ZS) :=
  m_bnd (t1 + t0) (fun v1 =>
  m_chk (zK S x0 = 5) (
  m_bnd ((zI S 1 x0) + (1 : Int32)) (fun v2 =>
  m_chk (zK S x0 = 5) (
  m_bnd (zsI S 1 x0 v2) (fun S3 =>
  self5 x0 x1 x2 x6 v1 S3)))))

set_option maxRecDepth 100000 in
set_option maxHeartbeats 4000000 in
theorem w_X5_readRank_105 {p : Program} {l : Launch} {e : Env} {s : State} {m : MethodId} {args : Array Value} {below : List Frame} {meth : Method} {c : Code} {Q : State → Prop} {D : va_G} {y : Nat → ClassId} {A0 : Nat → Prop} {o : Int32 × ZS} (X : CallFix p m c cX5_readRank 8 s args wsX5_readRank RX5) (hret : zRi p l e ({ frames := 4, cells := 0, slots := 0, locals := 91 } : Room) s m args below meth c Q cX5_readRank D y A0 .boolean o) {self5 : Nat → Nat → Int32 → Int32 → Int32 → ZS → Option (Int32 × ZS)} (hself5 : ∀ (x0 : Nat) (x1 : Nat) (x2 : Int32) (x3 : Int32) (x4 : Int32) (S : ZS) (H : Heap) (locs : List Loc) (ls : Array Slot), self5 x0 x1 x2 x3 x4 S = some o → zH D y A0 s H locs S → lv_has ls 8 [(0, .ref (zh y x0)), (1, .ref (zh y x1)), (2, .int x2), (3, .int x3), (4, .int x4)] → W p l e ({ frames := 4, cells := 0, slots := 0, locals := 91 } : Room) s m args below meth c H locs 0 0 Q (F0 m 5 ls [])) {x0 : Nat} {x1 : Nat} {x2 : Int32} {x6 : Int32} {t0 : Int32} {t1 : Int32} {S : ZS} {H : Heap} {locs : List Loc} {ls : Array Slot} (hf : f_X5_readRank_105 self5 x0 x1 x2 x6 t0 t1 S = some o) (hM : zH D y A0 s H locs S) (hl : lv_has ls 8 [(0, .ref (zh y x0)), (1, .ref (zh y x1)), (2, .int x2), (6, .int x6)]) : W p l e ({ frames := 4, cells := 0, slots := 0, locals := 91 } : Room) s m args below meth c H locs 0 0 Q (F0 m 105 ls [.int t0, .int t1]) := by
  obtain ⟨hx, hb, hml, hown, hts⟩ := id X
  unfold f_X5_readRank_105 at hf
  refine lv_iadd hx hb dX5_readRank_105 ?_
  obtain ⟨v1, ev, hf⟩ := m_bndE hf
  refine m_top ev ?_
  clear ev
  refine lv_istore (lv' := [(4, .int v1), (0, .ref (zh y x0)), (1, .ref (zh y x1)), (2, .int x2), (6, .int x6)]) hx hb dX5_readRank_106 hl (by decide) rfl (fun ls hl => ?_)
  refine lv_iload hx hb dX5_readRank_108 (lv_at hl 4 rfl) ?_
  refine lv_istore_n (lv' := [(3, .int x6), (4, .int v1), (0, .ref (zh y x0)), (1, .ref (zh y x1)), (2, .int x2), (6, .int x6)]) hx hb dX5_readRank_110 rfl hl (by decide) rfl (fun ls hl => ?_)
  refine lv_aload_n hx hb dX5_readRank_111 rfl (lv_at hl 2 rfl) ?_
  refine lv_dup hx hb dX5_readRank_112 rfl ?_
  obtain ⟨ca, hf⟩ := m_chkE hf
  replace ca := z_in hM (by decide) ca
  refine z_get (k := 5) (j := 1) (C := RX5) (T := TX5) (N := 2) (fl := zf_5) (v := .int (zI S 1 x0)) X hw_X5_readRank_5 hM rfl zc_5 ca (by decide) fl_X5_readRank_5_1 rfl dX5_readRank_113 ?_
  clear ca
  refine lv_iconst (v := (1 : Int32)) hx hb dX5_readRank_116 (by decide) ?_
  refine lv_iadd hx hb dX5_readRank_117 ?_
  obtain ⟨v2, ev, hf⟩ := m_bndE hf
  refine m_top ev ?_
  clear ev
  obtain ⟨ca, hf⟩ := m_chkE hf
  replace ca := z_in hM (by decide) ca
  refine z_putI (k := 5) (j := 1) (C := RX5) (T := TX5) (N := 2) (fl := zf_5) (ty := .int) X hw_X5_readRank_5 tyX5_ok nmX5 hM rfl zc_5 ca (by decide) fl_X5_readRank_5_1 rfl (tyX5_ok 1 (by decide)) rfl rfl zi_5_1 (Nat.le_of_ble_eq_true rfl) dX5_readRank_118 (fun H locs hM => ?_)
  clear ca
  obtain ⟨S3, ev, hf⟩ := m_bndE hf
  replace hM := z_hS hM ev
  clear ev
  refine lv_goto (tgt := 5) hx hb dX5_readRank_121 (by decide) ?_
  exact hself5 x0 x1 x2 x6 v1 _ _ _ _ hf hM (lv_sub hl [2, 3, 4, 0, 1] rfl)
noncomputable def f_X5_readRank_89 (self5 : Nat → Nat → Int32 → Int32 → Int32 → ZS → Option (Int32 × ZS)) (x0 : Nat) (x1 : Nat) (x2 : Int32) (x4 : Int32) (x5 : Int32) (x6 : Int32) (S : ZS) : Option (Int32 × ZS) :=
  m_if (x6 = 0) (
  f_X5_readRank_105 self5 x0 x1 x2 x6 (1 : Int32) x4 S
  ) (
  m_bnd (x5 - (48 : Int32)) (fun v1 =>
  f_X5_readRank_105 self5 x0 x1 x2 x6 v1 x4 S)
  )

set_option maxRecDepth 100000 in
set_option maxHeartbeats 4000000 in
theorem w_X5_readRank_89 {p : Program} {l : Launch} {e : Env} {s : State} {m : MethodId} {args : Array Value} {below : List Frame} {meth : Method} {c : Code} {Q : State → Prop} {D : va_G} {y : Nat → ClassId} {A0 : Nat → Prop} {o : Int32 × ZS} (X : CallFix p m c cX5_readRank 8 s args wsX5_readRank RX5) (hret : zRi p l e ({ frames := 4, cells := 0, slots := 0, locals := 91 } : Room) s m args below meth c Q cX5_readRank D y A0 .boolean o) {self5 : Nat → Nat → Int32 → Int32 → Int32 → ZS → Option (Int32 × ZS)} (hself5 : ∀ (x0 : Nat) (x1 : Nat) (x2 : Int32) (x3 : Int32) (x4 : Int32) (S : ZS) (H : Heap) (locs : List Loc) (ls : Array Slot), self5 x0 x1 x2 x3 x4 S = some o → zH D y A0 s H locs S → lv_has ls 8 [(0, .ref (zh y x0)), (1, .ref (zh y x1)), (2, .int x2), (3, .int x3), (4, .int x4)] → W p l e ({ frames := 4, cells := 0, slots := 0, locals := 91 } : Room) s m args below meth c H locs 0 0 Q (F0 m 5 ls [])) {x0 : Nat} {x1 : Nat} {x2 : Int32} {x4 : Int32} {x5 : Int32} {x6 : Int32} {S : ZS} {H : Heap} {locs : List Loc} {ls : Array Slot} (hf : f_X5_readRank_89 self5 x0 x1 x2 x4 x5 x6 S = some o) (hM : zH D y A0 s H locs S) (hl : lv_has ls 8 [(0, .ref (zh y x0)), (1, .ref (zh y x1)), (2, .int x2), (4, .int x4), (5, .int x5), (6, .int x6)]) : W p l e ({ frames := 4, cells := 0, slots := 0, locals := 91 } : Room) s m args below meth c H locs 0 0 Q (F0 m 89 ls []) := by
  obtain ⟨hx, hb, hml, hown, hts⟩ := id X
  unfold f_X5_readRank_89 at hf
  refine lv_iload hx hb dX5_readRank_89 (lv_at hl 3 rfl) ?_
  refine lv_iload hx hb dX5_readRank_91 (lv_at hl 5 rfl) ?_
  refine lv_if_eq (tgt := 104) hx hb dX5_readRank_93 (by decide) (fun cc1 => ?_) (fun cc1 => ?_)
  · replace hf := m_ifT hf cc1
    refine lv_iconst (v := (1 : Int32)) hx hb dX5_readRank_104 (by decide) ?_
    exact w_X5_readRank_105 (x0 := x0) (x1 := x1) (x2 := x2) (x6 := x6) (t0 := (1 : Int32)) (t1 := x4) X hret hself5 hf hM (lv_sub hl [0, 1, 2, 5] rfl)
  · replace hf := m_ifF hf cc1
    refine lv_iload hx hb dX5_readRank_96 (lv_at hl 4 rfl) ?_
    refine lv_bipush (v := (48 : Int32)) hx hb dX5_readRank_98 (by decide) ?_
    refine lv_isub hx hb dX5_readRank_100 ?_
    obtain ⟨v1, ev, hf⟩ := m_bndE hf
    refine m_top ev ?_
    clear ev
    refine lv_goto (tgt := 105) hx hb dX5_readRank_101 (by decide) ?_
    exact w_X5_readRank_105 (x0 := x0) (x1 := x1) (x2 := x2) (x6 := x6) (t0 := v1) (t1 := x4) X hret hself5 hf hM (lv_sub hl [0, 1, 2, 5] rfl)
noncomputable def f_X5_readRank_74 (self5 : Nat → Nat → Int32 → Int32 → Int32 → ZS → Option (Int32 × ZS)) (x0 : Nat) (x1 : Nat) (x2 : Int32) (x4 : Int32) (x5 : Int32) (x6 : Int32) (x7 : Int32) (S : ZS) : Option (Int32 × ZS) :=
  m_if (x6 = 0) (
  m_bnd (x2 + x4) (fun v1 =>
  m_chk (zK S x1 = 0) (
  m_cal (f_X0_put x1 v1 x7 S) (fun o2 =>
  f_X5_readRank_89 self5 x0 x1 x2 x4 x5 x6 o2.2)))
  ) (
  f_X5_readRank_89 self5 x0 x1 x2 x4 x5 x6 S
  )

set_option maxRecDepth 100000 in
set_option maxHeartbeats 4000000 in
theorem w_X5_readRank_74 {p : Program} {l : Launch} {e : Env} {s : State} {m : MethodId} {args : Array Value} {below : List Frame} {meth : Method} {c : Code} {Q : State → Prop} {D : va_G} {y : Nat → ClassId} {A0 : Nat → Prop} {o : Int32 × ZS} (X : CallFix p m c cX5_readRank 8 s args wsX5_readRank RX5) (hret : zRi p l e ({ frames := 4, cells := 0, slots := 0, locals := 91 } : Room) s m args below meth c Q cX5_readRank D y A0 .boolean o) {self5 : Nat → Nat → Int32 → Int32 → Int32 → ZS → Option (Int32 × ZS)} (hself5 : ∀ (x0 : Nat) (x1 : Nat) (x2 : Int32) (x3 : Int32) (x4 : Int32) (S : ZS) (H : Heap) (locs : List Loc) (ls : Array Slot), self5 x0 x1 x2 x3 x4 S = some o → zH D y A0 s H locs S → lv_has ls 8 [(0, .ref (zh y x0)), (1, .ref (zh y x1)), (2, .int x2), (3, .int x3), (4, .int x4)] → W p l e ({ frames := 4, cells := 0, slots := 0, locals := 91 } : Room) s m args below meth c H locs 0 0 Q (F0 m 5 ls [])) {x0 : Nat} {x1 : Nat} {x2 : Int32} {x4 : Int32} {x5 : Int32} {x6 : Int32} {x7 : Int32} {S : ZS} {H : Heap} {locs : List Loc} {ls : Array Slot} (hf : f_X5_readRank_74 self5 x0 x1 x2 x4 x5 x6 x7 S = some o) (hM : zH D y A0 s H locs S) (hl : lv_has ls 8 [(0, .ref (zh y x0)), (1, .ref (zh y x1)), (2, .int x2), (4, .int x4), (5, .int x5), (6, .int x6), (7, .int x7)]) : W p l e ({ frames := 4, cells := 0, slots := 0, locals := 91 } : Room) s m args below meth c H locs 0 0 Q (F0 m 74 ls []) := by
  obtain ⟨hx, hb, hml, hown, hts⟩ := id X
  unfold f_X5_readRank_74 at hf
  refine lv_iload hx hb dX5_readRank_74 (lv_at hl 5 rfl) ?_
  refine lv_if_ne (tgt := 89) hx hb dX5_readRank_76 (by decide) (fun cc1 => ?_) (fun cc1 => ?_)
  · replace hf := m_ifF hf cc1
    exact w_X5_readRank_89 (x0 := x0) (x1 := x1) (x2 := x2) (x4 := x4) (x5 := x5) (x6 := x6) X hret hself5 hf hM (lv_sub hl [0, 1, 2, 3, 4, 5] rfl)
  · replace hf := m_ifT hf cc1
    refine lv_aload_n hx hb dX5_readRank_79 rfl (lv_at hl 1 rfl) ?_
    refine lv_iload_n hx hb dX5_readRank_80 rfl (lv_at hl 2 rfl) ?_
    refine lv_iload hx hb dX5_readRank_81 (lv_at hl 3 rfl) ?_
    refine lv_iadd hx hb dX5_readRank_83 ?_
    obtain ⟨v1, ev, hf⟩ := m_bndE hf
    refine m_top ev ?_
    clear ev
    refine lv_iload hx hb dX5_readRank_84 (lv_at hl 6 rfl) ?_
    obtain ⟨ca, hf⟩ := m_chkE hf
    replace ca := z_in hM (by decide) ca
    obtain ⟨o2, ho, hf⟩ := m_calE hf
    refine z_callVv (k := 0) (C := RX0) (T := TX0) (N := 7) (fl := zf_0) X hM rfl zc_0 ca (c_X0_put ho) gX5_readRank_X0_put rfl ⟨rfl, rfl⟩ hd_X0_put ⟨Nat.le_of_ble_eq_true rfl, Nat.le_of_ble_eq_true rfl⟩ rfl hl.1 rfl (Nat.le_of_ble_eq_true rfl) dX5_readRank_86 (fun H locs hM => ?_)
    clear ho
    exact w_X5_readRank_89 (x0 := x0) (x1 := x1) (x2 := x2) (x4 := x4) (x5 := x5) (x6 := x6) X hret hself5 hf hM (lv_sub hl [0, 1, 2, 3, 4, 5] rfl)
noncomputable def f_X5_readRank_72 (S : ZS) : Option (Int32 × ZS) :=
  m_chk (vp_nar .boolean (0 : Int32) = (0 : Int32)) (some ((0 : Int32), S))

set_option maxRecDepth 100000 in
set_option maxHeartbeats 4000000 in
theorem w_X5_readRank_72 {p : Program} {l : Launch} {e : Env} {s : State} {m : MethodId} {args : Array Value} {below : List Frame} {meth : Method} {c : Code} {Q : State → Prop} {D : va_G} {y : Nat → ClassId} {A0 : Nat → Prop} {o : Int32 × ZS} (X : CallFix p m c cX5_readRank 8 s args wsX5_readRank RX5) (hret : zRi p l e ({ frames := 4, cells := 0, slots := 0, locals := 91 } : Room) s m args below meth c Q cX5_readRank D y A0 .boolean o) {S : ZS} {H : Heap} {locs : List Loc} {ls : Array Slot} (hf : f_X5_readRank_72  S = some o) (hM : zH D y A0 s H locs S) (hl : lv_has ls 8 []) : W p l e ({ frames := 4, cells := 0, slots := 0, locals := 91 } : Room) s m args below meth c H locs 0 0 Q (F0 m 72 ls []) := by
  obtain ⟨hx, hb, hml, hown, hts⟩ := id X
  unfold f_X5_readRank_72 at hf
  refine lv_iconst (v := (0 : Int32)) hx hb dX5_readRank_72 (by decide) ?_
  obtain ⟨cd, hf⟩ := m_chkE hf
  cases hf
  exact hret H locs _ ls hM (m_nb cd) dX5_readRank_73
noncomputable def f_X5_readRank_53 (self5 : Nat → Nat → Int32 → Int32 → Int32 → ZS → Option (Int32 × ZS)) (x0 : Nat) (x1 : Nat) (x2 : Int32) (x3 : Int32) (x4 : Int32) (x5 : Int32) (x6 : Int32) (t0 : Int32) (S : ZS) : Option (Int32 × ZS) :=
  m_if (x6 = 0) (
  m_if (t0 = 0) (
  f_X5_readRank_72  S
  ) (
  f_X5_readRank_74 self5 x0 x1 x2 x4 x5 x6 t0 S
  )
  ) (
  m_if (x3 = 0) (
  f_X5_readRank_74 self5 x0 x1 x2 x4 x5 x6 t0 S
  ) (
  f_X5_readRank_72  S
  )
  )

set_option maxRecDepth 100000 in
set_option maxHeartbeats 4000000 in
theorem w_X5_readRank_53 {p : Program} {l : Launch} {e : Env} {s : State} {m : MethodId} {args : Array Value} {below : List Frame} {meth : Method} {c : Code} {Q : State → Prop} {D : va_G} {y : Nat → ClassId} {A0 : Nat → Prop} {o : Int32 × ZS} (X : CallFix p m c cX5_readRank 8 s args wsX5_readRank RX5) (hret : zRi p l e ({ frames := 4, cells := 0, slots := 0, locals := 91 } : Room) s m args below meth c Q cX5_readRank D y A0 .boolean o) {self5 : Nat → Nat → Int32 → Int32 → Int32 → ZS → Option (Int32 × ZS)} (hself5 : ∀ (x0 : Nat) (x1 : Nat) (x2 : Int32) (x3 : Int32) (x4 : Int32) (S : ZS) (H : Heap) (locs : List Loc) (ls : Array Slot), self5 x0 x1 x2 x3 x4 S = some o → zH D y A0 s H locs S → lv_has ls 8 [(0, .ref (zh y x0)), (1, .ref (zh y x1)), (2, .int x2), (3, .int x3), (4, .int x4)] → W p l e ({ frames := 4, cells := 0, slots := 0, locals := 91 } : Room) s m args below meth c H locs 0 0 Q (F0 m 5 ls [])) {x0 : Nat} {x1 : Nat} {x2 : Int32} {x3 : Int32} {x4 : Int32} {x5 : Int32} {x6 : Int32} {t0 : Int32} {S : ZS} {H : Heap} {locs : List Loc} {ls : Array Slot} (hf : f_X5_readRank_53 self5 x0 x1 x2 x3 x4 x5 x6 t0 S = some o) (hM : zH D y A0 s H locs S) (hl : lv_has ls 8 [(0, .ref (zh y x0)), (1, .ref (zh y x1)), (2, .int x2), (3, .int x3), (4, .int x4), (5, .int x5), (6, .int x6)]) : W p l e ({ frames := 4, cells := 0, slots := 0, locals := 91 } : Room) s m args below meth c H locs 0 0 Q (F0 m 53 ls [.int t0]) := by
  obtain ⟨hx, hb, hml, hown, hts⟩ := id X
  unfold f_X5_readRank_53 at hf
  refine lv_istore (lv' := [(7, .int t0), (0, .ref (zh y x0)), (1, .ref (zh y x1)), (2, .int x2), (3, .int x3), (4, .int x4), (5, .int x5), (6, .int x6)]) hx hb dX5_readRank_53 hl (by decide) rfl (fun ls hl => ?_)
  refine lv_iload hx hb dX5_readRank_55 (lv_at hl 7 rfl) ?_
  refine lv_if_eq (tgt := 67) hx hb dX5_readRank_57 (by decide) (fun cc1 => ?_) (fun cc1 => ?_)
  · replace hf := m_ifT hf cc1
    refine lv_iload hx hb dX5_readRank_67 (lv_at hl 0 rfl) ?_
    refine lv_if_ne (tgt := 74) hx hb dX5_readRank_69 (by decide) (fun cc1 => ?_) (fun cc1 => ?_)
    · replace hf := m_ifF hf cc1
      exact w_X5_readRank_74 (x0 := x0) (x1 := x1) (x2 := x2) (x4 := x4) (x5 := x5) (x6 := x6) (x7 := t0) X hret hself5 hf hM (lv_sub hl [1, 2, 3, 5, 6, 7, 0] rfl)
    · replace hf := m_ifT hf cc1
      exact w_X5_readRank_72 X hret hf hM (lv_sub hl [] rfl)
  · replace hf := m_ifF hf cc1
    refine lv_iload_n hx hb dX5_readRank_60 rfl (lv_at hl 4 rfl) ?_
    refine lv_if_eq (tgt := 74) hx hb dX5_readRank_61 (by decide) (fun cc1 => ?_) (fun cc1 => ?_)
    · replace hf := m_ifT hf cc1
      exact w_X5_readRank_74 (x0 := x0) (x1 := x1) (x2 := x2) (x4 := x4) (x5 := x5) (x6 := x6) (x7 := t0) X hret hself5 hf hM (lv_sub hl [1, 2, 3, 5, 6, 7, 0] rfl)
    · replace hf := m_ifF hf cc1
      refine lv_goto (tgt := 72) hx hb dX5_readRank_64 (by decide) ?_
      exact w_X5_readRank_72 X hret hf hM (lv_sub hl [] rfl)
noncomputable def f_X5_readRank_5s (self5 : Nat → Nat → Int32 → Int32 → Int32 → ZS → Option (Int32 × ZS)) (x0 : Nat) (x1 : Nat) (x2 : Int32) (x3 : Int32) (x4 : Int32) (S : ZS) : Option (Int32 × ZS) :=
  m_if ((8 : Int32) ≤ x4) (
  m_if (x4 = (8 : Int32)) (
  f_X5_readRank_136 (1 : Int32) S
  ) (
  f_X5_readRank_136 (0 : Int32) S
  )
  ) (
  m_chk (zK S x0 = 5) (
  m_cal (zP S 0 x0) (fun b1 =>
  m_chk (zK S x0 = 5) (
  m_chk (zK S b1 = 6) (
  m_cal (f_X6_at b1 (zI S 1 x0) S) (fun o2 =>
  m_cal (f_X11_isRank o2.1 o2.2) (fun o3 =>
  m_cal (f_X11_isLetter o2.1 o3.2) (fun o4 =>
  m_if (o4.1 = 0) (
  f_X5_readRank_53 self5 x0 x1 x2 x3 x4 o2.1 o3.1 (0 : Int32) o4.2
  ) (
  m_chk (1 < zSn) (
  m_cal (f_J0_indexOf_0f7a4 1 o2.1 o4.2) (fun o5 =>
  m_bnd (o5.1 + (1 : Int32)) (fun v6 =>
  f_X5_readRank_53 self5 x0 x1 x2 x3 x4 o2.1 o3.1 v6 o5.2)))
  ))))))))
  )

set_option maxRecDepth 100000 in
set_option maxHeartbeats 4000000 in
theorem ws_X5_readRank_5 {p : Program} {l : Launch} {e : Env} {s : State} {m : MethodId} {args : Array Value} {below : List Frame} {meth : Method} {c : Code} {Q : State → Prop} {D : va_G} {y : Nat → ClassId} {A0 : Nat → Prop} {o : Int32 × ZS} (X : CallFix p m c cX5_readRank 8 s args wsX5_readRank RX5) (hret : zRi p l e ({ frames := 4, cells := 0, slots := 0, locals := 91 } : Room) s m args below meth c Q cX5_readRank D y A0 .boolean o) {self5 : Nat → Nat → Int32 → Int32 → Int32 → ZS → Option (Int32 × ZS)} (hself5 : ∀ (x0 : Nat) (x1 : Nat) (x2 : Int32) (x3 : Int32) (x4 : Int32) (S : ZS) (H : Heap) (locs : List Loc) (ls : Array Slot), self5 x0 x1 x2 x3 x4 S = some o → zH D y A0 s H locs S → lv_has ls 8 [(0, .ref (zh y x0)), (1, .ref (zh y x1)), (2, .int x2), (3, .int x3), (4, .int x4)] → W p l e ({ frames := 4, cells := 0, slots := 0, locals := 91 } : Room) s m args below meth c H locs 0 0 Q (F0 m 5 ls [])) {x0 : Nat} {x1 : Nat} {x2 : Int32} {x3 : Int32} {x4 : Int32} {S : ZS} {H : Heap} {locs : List Loc} {ls : Array Slot} (hf : f_X5_readRank_5s self5 x0 x1 x2 x3 x4 S = some o) (hM : zH D y A0 s H locs S) (hl : lv_has ls 8 [(0, .ref (zh y x0)), (1, .ref (zh y x1)), (2, .int x2), (3, .int x3), (4, .int x4)]) : W p l e ({ frames := 4, cells := 0, slots := 0, locals := 91 } : Room) s m args below meth c H locs 0 0 Q (F0 m 5 ls []) := by
  obtain ⟨hx, hb, hml, hown, hts⟩ := id X
  unfold f_X5_readRank_5s at hf
  refine lv_iload hx hb dX5_readRank_5 (lv_at hl 4 rfl) ?_
  refine lv_bipush (v := (8 : Int32)) hx hb dX5_readRank_7 (by decide) ?_
  refine lv_icmp_ge (tgt := 124) hx hb dX5_readRank_9 (by decide) (fun cc1 => ?_) (fun cc1 => ?_)
  · replace hf := m_ifT hf cc1
    refine lv_iload hx hb dX5_readRank_124 (lv_at hl 4 rfl) ?_
    refine lv_bipush (v := (8 : Int32)) hx hb dX5_readRank_126 (by decide) ?_
    refine lv_icmp_ne (tgt := 135) hx hb dX5_readRank_128 (by decide) (fun cc1 => ?_) (fun cc1 => ?_)
    · replace hf := m_ifF hf cc1
      refine lv_iconst (v := (0 : Int32)) hx hb dX5_readRank_135 (by decide) ?_
      exact w_X5_readRank_136 (t0 := (0 : Int32)) X hret hf hM (lv_sub hl [] rfl)
    · replace hf := m_ifT hf cc1
      refine lv_iconst (v := (1 : Int32)) hx hb dX5_readRank_131 (by decide) ?_
      refine lv_goto (tgt := 136) hx hb dX5_readRank_132 (by decide) ?_
      exact w_X5_readRank_136 (t0 := (1 : Int32)) X hret hf hM (lv_sub hl [] rfl)
  · replace hf := m_ifF hf cc1
    refine lv_aload_n hx hb dX5_readRank_12 rfl (lv_at hl 0 rfl) ?_
    obtain ⟨ca, hf⟩ := m_chkE hf
    replace ca := z_in hM (by decide) ca
    refine z_get (k := 5) (j := 0) (C := RX5) (T := TX5) (N := 2) (fl := zf_5) (v := va_rf ((zP S 0 x0).map (zh y))) X hw_X5_readRank_5 hM rfl zc_5 ca (by decide) fl_X5_readRank_5_0 rfl dX5_readRank_13 ?_
    clear ca
    obtain ⟨b1, hb9, hf⟩ := m_calE hf
    refine z_topr hb9 ?_
    clear hb9
    refine lv_aload_n hx hb dX5_readRank_16 rfl (lv_at hl 0 rfl) ?_
    obtain ⟨ca, hf⟩ := m_chkE hf
    replace ca := z_in hM (by decide) ca
    refine z_get (k := 5) (j := 1) (C := RX5) (T := TX5) (N := 2) (fl := zf_5) (v := .int (zI S 1 x0)) X hw_X5_readRank_5 hM rfl zc_5 ca (by decide) fl_X5_readRank_5_1 rfl dX5_readRank_17 ?_
    clear ca
    obtain ⟨ca, hf⟩ := m_chkE hf
    replace ca := z_in hM (by decide) ca
    obtain ⟨o2, ho, hf⟩ := m_calE hf
    refine z_callVi (k := 6) (C := RX6) (T := TX6) (N := 2) (fl := zf_6) X hM rfl zc_6 ca (c_X6_at ho) gX5_readRank_X6_at rfl ⟨rfl, rfl⟩ hd_X6_at ⟨Nat.le_of_ble_eq_true rfl, Nat.le_of_ble_eq_true rfl⟩ rfl hl.1 rfl (Nat.le_of_ble_eq_true rfl) dX5_readRank_20 (fun H locs hM => ?_)
    clear ho
    refine lv_istore (lv' := [(5, .int o2.1), (0, .ref (zh y x0)), (1, .ref (zh y x1)), (2, .int x2), (3, .int x3), (4, .int x4)]) hx hb dX5_readRank_23 hl (by decide) rfl (fun ls hl => ?_)
    refine lv_iload hx hb dX5_readRank_25 (lv_at hl 0 rfl) ?_
    obtain ⟨o3, ho, hf⟩ := m_calE hf
    refine z_callSNi X hM (c_X11_isRank ho) gX5_readRank_X11_isRank_n70 nn_X5_readRank_70.1.1 nn_X5_readRank_70.1.2 nn_X5_readRank_70.2 rfl ⟨rfl, rfl⟩ hd_X11_isRank ⟨Nat.le_of_ble_eq_true rfl, Nat.le_of_ble_eq_true rfl⟩ rfl hl.1 rfl (Nat.le_of_ble_eq_true rfl) dX5_readRank_27 (fun H locs hM => ?_)
    clear ho
    refine lv_istore (lv' := [(6, .int o3.1), (5, .int o2.1), (0, .ref (zh y x0)), (1, .ref (zh y x1)), (2, .int x2), (3, .int x3), (4, .int x4)]) hx hb dX5_readRank_30 hl (by decide) rfl (fun ls hl => ?_)
    refine lv_iload hx hb dX5_readRank_32 (lv_at hl 1 rfl) ?_
    obtain ⟨o4, ho, hf⟩ := m_calE hf
    refine z_callSNi X hM (c_X11_isLetter ho) gX5_readRank_X11_isLetter_n73 nn_X5_readRank_73.1.1 nn_X5_readRank_73.1.2 nn_X5_readRank_73.2 rfl ⟨rfl, rfl⟩ hd_X11_isLetter ⟨Nat.le_of_ble_eq_true rfl, Nat.le_of_ble_eq_true rfl⟩ rfl hl.1 rfl (Nat.le_of_ble_eq_true rfl) dX5_readRank_34 (fun H locs hM => ?_)
    clear ho
    refine lv_if_eq (tgt := 52) hx hb dX5_readRank_37 (by decide) (fun cc1 => ?_) (fun cc1 => ?_)
    · replace hf := m_ifT hf cc1
      refine lv_iconst (v := (0 : Int32)) hx hb dX5_readRank_52 (by decide) ?_
      exact w_X5_readRank_53 (x0 := x0) (x1 := x1) (x2 := x2) (x3 := x3) (x4 := x4) (x5 := o2.1) (x6 := o3.1) (t0 := (0 : Int32)) X hret hself5 hf hM (lv_sub hl [2, 3, 4, 5, 6, 1, 0] rfl)
    · replace hf := m_ifF hf cc1
      refine z_ldcS X hM sr_X5_readRank_76 dX5_readRank_40 ?_
      refine lv_iload hx hb dX5_readRank_42 (lv_at hl 1 rfl) ?_
      obtain ⟨ca, hf⟩ := m_chkE hf
      obtain ⟨o5, ho, hf⟩ := m_calE hf
      refine z_callTi X hM ca (c_J0_indexOf_0f7a4 ho) gX5_readRank_J0_indexOf_0f7a4 rfl ⟨rfl, rfl⟩ hd_J0_indexOf_0f7a4 ⟨Nat.le_of_ble_eq_true rfl, Nat.le_of_ble_eq_true rfl⟩ rfl hl.1 rfl (Nat.le_of_ble_eq_true rfl) dX5_readRank_44 (fun H locs hM => ?_)
      clear ho
      refine lv_iconst (v := (1 : Int32)) hx hb dX5_readRank_47 (by decide) ?_
      refine lv_iadd hx hb dX5_readRank_48 ?_
      obtain ⟨v6, ev, hf⟩ := m_bndE hf
      refine m_top ev ?_
      clear ev
      refine lv_goto (tgt := 53) hx hb dX5_readRank_49 (by decide) ?_
      exact w_X5_readRank_53 (x0 := x0) (x1 := x1) (x2 := x2) (x3 := x3) (x4 := x4) (x5 := o2.1) (x6 := o3.1) (t0 := v6) X hret hself5 hf hM (lv_sub hl [2, 3, 4, 5, 6, 1, 0] rfl)
noncomputable def f_X5_readRank_5 : Nat → Nat → Nat → Int32 → Int32 → Int32 → ZS → Option (Int32 × ZS)
  | 0 => fun _ _ _ _ _ _ => none
  | n + 1 => f_X5_readRank_5s (f_X5_readRank_5 n)
theorem w_X5_readRank_5 {p : Program} {l : Launch} {e : Env} {s : State} {m : MethodId} {args : Array Value} {below : List Frame} {meth : Method} {c : Code} {Q : State → Prop} {D : va_G} {y : Nat → ClassId} {A0 : Nat → Prop} {o : Int32 × ZS} (X : CallFix p m c cX5_readRank 8 s args wsX5_readRank RX5) (hret : zRi p l e ({ frames := 4, cells := 0, slots := 0, locals := 91 } : Room) s m args below meth c Q cX5_readRank D y A0 .boolean o) (n : Nat) : ∀ (x0 : Nat) (x1 : Nat) (x2 : Int32) (x3 : Int32) (x4 : Int32) (S : ZS) (H : Heap) (locs : List Loc) (ls : Array Slot), f_X5_readRank_5 n x0 x1 x2 x3 x4 S = some o → zH D y A0 s H locs S → lv_has ls 8 [(0, .ref (zh y x0)), (1, .ref (zh y x1)), (2, .int x2), (3, .int x3), (4, .int x4)] → W p l e ({ frames := 4, cells := 0, slots := 0, locals := 91 } : Room) s m args below meth c H locs 0 0 Q (F0 m 5 ls []) := by
  induction n with
  | zero => intro x0 x1 x2 x3 x4 S H locs ls hf; cases hf
  | succ n ih => intro x0 x1 x2 x3 x4 S H locs ls hf hM hl; exact ws_X5_readRank_5 X hret (self5 := f_X5_readRank_5 n) ih hf hM hl
noncomputable def f_X5_readRank_0 (x0 : Nat) (x1 : Nat) (x2 : Int32) (S : ZS) : Option (Int32 × ZS) :=
  f_X5_readRank_5 mFuel x0 x1 x2 (0 : Int32) (0 : Int32) S

set_option maxRecDepth 100000 in
set_option maxHeartbeats 4000000 in
theorem w_X5_readRank_0 {p : Program} {l : Launch} {e : Env} {s : State} {m : MethodId} {args : Array Value} {below : List Frame} {meth : Method} {c : Code} {Q : State → Prop} {D : va_G} {y : Nat → ClassId} {A0 : Nat → Prop} {o : Int32 × ZS} (X : CallFix p m c cX5_readRank 8 s args wsX5_readRank RX5) (hret : zRi p l e ({ frames := 4, cells := 0, slots := 0, locals := 91 } : Room) s m args below meth c Q cX5_readRank D y A0 .boolean o) {x0 : Nat} {x1 : Nat} {x2 : Int32} {S : ZS} {H : Heap} {locs : List Loc} {ls : Array Slot} (hf : f_X5_readRank_0 x0 x1 x2 S = some o) (hM : zH D y A0 s H locs S) (hl : lv_has ls 8 [(0, .ref (zh y x0)), (1, .ref (zh y x1)), (2, .int x2)]) : W p l e ({ frames := 4, cells := 0, slots := 0, locals := 91 } : Room) s m args below meth c H locs 0 0 Q (F0 m 0 ls []) := by
  obtain ⟨hx, hb, hml, hown, hts⟩ := id X
  unfold f_X5_readRank_0 at hf
  refine lv_iconst (v := (0 : Int32)) hx hb dX5_readRank_0 (by decide) ?_
  refine lv_istore_n (lv' := [(3, .int (0 : Int32)), (0, .ref (zh y x0)), (1, .ref (zh y x1)), (2, .int x2)]) hx hb dX5_readRank_1 rfl hl (by decide) rfl (fun ls hl => ?_)
  refine lv_iconst (v := (0 : Int32)) hx hb dX5_readRank_2 (by decide) ?_
  refine lv_istore (lv' := [(4, .int (0 : Int32)), (3, .int (0 : Int32)), (0, .ref (zh y x0)), (1, .ref (zh y x1)), (2, .int x2)]) hx hb dX5_readRank_3 hl (by decide) rfl (fun ls hl => ?_)
  exact w_X5_readRank_5 X hret _ x0 x1 x2 (0 : Int32) (0 : Int32) _ _ _ _ hf hM (lv_sub hl [2, 3, 4, 1, 0] rfl)
noncomputable def f_X5_readRank (x0 : Nat) (x1 : Nat) (x2 : Int32) (S : ZS) : Option (Int32 × ZS) := f_X5_readRank_0 x0 x1 x2 S
theorem c_X5_readRank {l : Launch} {D : va_G} {y : Nat → ClassId} {x0 : Nat} {x1 : Nat} {x2 : Int32} {S : ZS} {o : Int32 × ZS} (hf : f_X5_readRank x0 x1 x2 S = some o) : zMi l yX5_readRank wsX5_readRank ({ frames := 4, cells := 0, slots := 0, locals := 91 } : Room) [.ref (zh y x0), .ref (zh y x1), .int x2] D y S o :=
  z_entryI (own := RX5) (cc := cX5_readRank) (maxL := 8) (by decide) rfl rfl (Nat.le_of_ble_eq_true rfl) (fun p e s m args below meth c A0 Q H locs ls X hret hM hl => w_X5_readRank_0 X hret hf hM (lv_sub hl [0, 1, 2] rfl))
theorem hd_X5_readMen : yX5_readMen.cls = RX5 ∧ yX5_readMen.cls ≠ "java/lang/invoke/MethodHandle" ∧ yX5_readMen.cls ≠ "java/lang/invoke/VarHandle" ∧ (parseMethodDescriptor yX5_readMen.desc).map (fun d => d.parameters.length) = some 1 := by decide +kernel
noncomputable def f_X5_readMen_34 (S : ZS) : Option (Int32 × ZS) :=
  m_chk (vp_nar .boolean (0 : Int32) = (0 : Int32)) (some ((0 : Int32), S))

set_option maxRecDepth 100000 in
set_option maxHeartbeats 4000000 in
theorem w_X5_readMen_34 {p : Program} {l : Launch} {e : Env} {s : State} {m : MethodId} {args : Array Value} {below : List Frame} {meth : Method} {c : Code} {Q : State → Prop} {D : va_G} {y : Nat → ClassId} {A0 : Nat → Prop} {o : Int32 × ZS} (X : CallFix p m c cX5_readMen 3 s args wsX5_readMen RX5) (hret : zRi p l e ({ frames := 5, cells := 0, slots := 0, locals := 118 } : Room) s m args below meth c Q cX5_readMen D y A0 .boolean o) {S : ZS} {H : Heap} {locs : List Loc} {ls : Array Slot} (hf : f_X5_readMen_34  S = some o) (hM : zH D y A0 s H locs S) (hl : lv_has ls 3 []) : W p l e ({ frames := 5, cells := 0, slots := 0, locals := 118 } : Room) s m args below meth c H locs 0 0 Q (F0 m 34 ls []) := by
  obtain ⟨hx, hb, hml, hown, hts⟩ := id X
  unfold f_X5_readMen_34 at hf
  refine lv_iconst (v := (0 : Int32)) hx hb dX5_readMen_34 (by decide) ?_
  obtain ⟨cd, hf⟩ := m_chkE hf
  cases hf
  exact hret H locs _ ls hM (m_nb cd) dX5_readMen_35
noncomputable def f_X5_readMen_22 (self3 : Nat → Nat → Int32 → ZS → Option (Int32 × ZS)) (x0 : Nat) (x1 : Nat) (x2 : Int32) (S : ZS) : Option (Int32 × ZS) :=
  m_bnd ((8 : Int32) * x2) (fun v1 =>
  m_chk (zK S x0 = 5) (
  m_cal (f_X5_readRank x0 x1 v1 S) (fun o2 =>
  m_if (o2.1 = 0) (
  f_X5_readMen_34  o2.2
  ) (
  m_bnd (x2 + (-1 : Int32)) (fun v3 =>
  self3 x0 x1 v3 o2.2)
  ))))

set_option maxRecDepth 100000 in
set_option maxHeartbeats 4000000 in
theorem w_X5_readMen_22 {p : Program} {l : Launch} {e : Env} {s : State} {m : MethodId} {args : Array Value} {below : List Frame} {meth : Method} {c : Code} {Q : State → Prop} {D : va_G} {y : Nat → ClassId} {A0 : Nat → Prop} {o : Int32 × ZS} (X : CallFix p m c cX5_readMen 3 s args wsX5_readMen RX5) (hret : zRi p l e ({ frames := 5, cells := 0, slots := 0, locals := 118 } : Room) s m args below meth c Q cX5_readMen D y A0 .boolean o) {self3 : Nat → Nat → Int32 → ZS → Option (Int32 × ZS)} (hself3 : ∀ (x0 : Nat) (x1 : Nat) (x2 : Int32) (S : ZS) (H : Heap) (locs : List Loc) (ls : Array Slot), self3 x0 x1 x2 S = some o → zH D y A0 s H locs S → lv_has ls 3 [(0, .ref (zh y x0)), (1, .ref (zh y x1)), (2, .int x2)] → W p l e ({ frames := 5, cells := 0, slots := 0, locals := 118 } : Room) s m args below meth c H locs 0 0 Q (F0 m 3 ls [])) {x0 : Nat} {x1 : Nat} {x2 : Int32} {S : ZS} {H : Heap} {locs : List Loc} {ls : Array Slot} (hf : f_X5_readMen_22 self3 x0 x1 x2 S = some o) (hM : zH D y A0 s H locs S) (hl : lv_has ls 3 [(0, .ref (zh y x0)), (1, .ref (zh y x1)), (2, .int x2)]) : W p l e ({ frames := 5, cells := 0, slots := 0, locals := 118 } : Room) s m args below meth c H locs 0 0 Q (F0 m 22 ls []) := by
  obtain ⟨hx, hb, hml, hown, hts⟩ := id X
  unfold f_X5_readMen_22 at hf
  refine lv_aload_n hx hb dX5_readMen_22 rfl (lv_at hl 0 rfl) ?_
  refine lv_aload_n hx hb dX5_readMen_23 rfl (lv_at hl 1 rfl) ?_
  refine lv_bipush (v := (8 : Int32)) hx hb dX5_readMen_24 (by decide) ?_
  refine lv_iload_n hx hb dX5_readMen_26 rfl (lv_at hl 2 rfl) ?_
  refine lv_imul hx hb dX5_readMen_27 ?_
  obtain ⟨v1, ev, hf⟩ := m_bndE hf
  refine m_top ev ?_
  clear ev
  obtain ⟨ca, hf⟩ := m_chkE hf
  replace ca := z_in hM (by decide) ca
  obtain ⟨o2, ho, hf⟩ := m_calE hf
  refine z_callVi (k := 5) (C := RX5) (T := TX5) (N := 2) (fl := zf_5) X hM rfl zc_5 ca (c_X5_readRank ho) gX5_readMen_X5_readRank rfl ⟨rfl, rfl⟩ hd_X5_readRank ⟨Nat.le_of_ble_eq_true rfl, Nat.le_of_ble_eq_true rfl⟩ rfl hl.1 rfl (Nat.le_of_ble_eq_true rfl) dX5_readMen_28 (fun H locs hM => ?_)
  clear ho
  refine lv_if_ne (tgt := 36) hx hb dX5_readMen_31 (by decide) (fun cc1 => ?_) (fun cc1 => ?_)
  · replace hf := m_ifF hf cc1
    obtain ⟨v3, ev, hf⟩ := m_bndE hf
    refine lv_iinc (v := v3) (lv' := [(2, .int v3), (0, .ref (zh y x0)), (1, .ref (zh y x1))]) hx hb dX5_readMen_36 hl (k := 2) rfl (by rw [ev]; rfl) (by decide) rfl (fun ls hl => ?_)
    clear ev
    refine lv_goto (tgt := 3) hx hb dX5_readMen_39 (by decide) ?_
    exact hself3 x0 x1 v3 _ _ _ _ hf hM (lv_sub hl [1, 2, 0] rfl)
  · replace hf := m_ifT hf cc1
    exact w_X5_readMen_34 X hret hf hM (lv_sub hl [] rfl)
noncomputable def f_X5_readMen_3s (self3 : Nat → Nat → Int32 → ZS → Option (Int32 × ZS)) (x0 : Nat) (x1 : Nat) (x2 : Int32) (S : ZS) : Option (Int32 × ZS) :=
  m_if (x2 < 0) (
  m_chk (vp_nar .boolean (1 : Int32) = (1 : Int32)) (some ((1 : Int32), S))
  ) (
  m_if ((7 : Int32) ≤ x2) (
  f_X5_readMen_22 self3 x0 x1 x2 S
  ) (
  m_chk (zK S x0 = 5) (
  m_cal (f_X5_skip x0 (47 : Int32) S) (fun o1 =>
  m_if (o1.1 = 0) (
  f_X5_readMen_34  o1.2
  ) (
  f_X5_readMen_22 self3 x0 x1 x2 o1.2
  )))
  )
  )

set_option maxRecDepth 100000 in
set_option maxHeartbeats 4000000 in
theorem ws_X5_readMen_3 {p : Program} {l : Launch} {e : Env} {s : State} {m : MethodId} {args : Array Value} {below : List Frame} {meth : Method} {c : Code} {Q : State → Prop} {D : va_G} {y : Nat → ClassId} {A0 : Nat → Prop} {o : Int32 × ZS} (X : CallFix p m c cX5_readMen 3 s args wsX5_readMen RX5) (hret : zRi p l e ({ frames := 5, cells := 0, slots := 0, locals := 118 } : Room) s m args below meth c Q cX5_readMen D y A0 .boolean o) {self3 : Nat → Nat → Int32 → ZS → Option (Int32 × ZS)} (hself3 : ∀ (x0 : Nat) (x1 : Nat) (x2 : Int32) (S : ZS) (H : Heap) (locs : List Loc) (ls : Array Slot), self3 x0 x1 x2 S = some o → zH D y A0 s H locs S → lv_has ls 3 [(0, .ref (zh y x0)), (1, .ref (zh y x1)), (2, .int x2)] → W p l e ({ frames := 5, cells := 0, slots := 0, locals := 118 } : Room) s m args below meth c H locs 0 0 Q (F0 m 3 ls [])) {x0 : Nat} {x1 : Nat} {x2 : Int32} {S : ZS} {H : Heap} {locs : List Loc} {ls : Array Slot} (hf : f_X5_readMen_3s self3 x0 x1 x2 S = some o) (hM : zH D y A0 s H locs S) (hl : lv_has ls 3 [(0, .ref (zh y x0)), (1, .ref (zh y x1)), (2, .int x2)]) : W p l e ({ frames := 5, cells := 0, slots := 0, locals := 118 } : Room) s m args below meth c H locs 0 0 Q (F0 m 3 ls []) := by
  obtain ⟨hx, hb, hml, hown, hts⟩ := id X
  unfold f_X5_readMen_3s at hf
  refine lv_iload_n hx hb dX5_readMen_3 rfl (lv_at hl 2 rfl) ?_
  refine lv_if_lt (tgt := 42) hx hb dX5_readMen_4 (by decide) (fun cc1 => ?_) (fun cc1 => ?_)
  · replace hf := m_ifT hf cc1
    refine lv_iconst (v := (1 : Int32)) hx hb dX5_readMen_42 (by decide) ?_
    obtain ⟨cd, hf⟩ := m_chkE hf
    cases hf
    exact hret H locs _ ls hM (m_nb cd) dX5_readMen_43
  · replace hf := m_ifF hf cc1
    refine lv_iload_n hx hb dX5_readMen_7 rfl (lv_at hl 2 rfl) ?_
    refine lv_bipush (v := (7 : Int32)) hx hb dX5_readMen_8 (by decide) ?_
    refine lv_icmp_ge (tgt := 22) hx hb dX5_readMen_10 (by decide) (fun cc1 => ?_) (fun cc1 => ?_)
    · replace hf := m_ifT hf cc1
      exact w_X5_readMen_22 (x0 := x0) (x1 := x1) (x2 := x2) X hret hself3 hf hM (lv_sub hl [0, 1, 2] rfl)
    · replace hf := m_ifF hf cc1
      refine lv_aload_n hx hb dX5_readMen_13 rfl (lv_at hl 0 rfl) ?_
      refine lv_bipush (v := (47 : Int32)) hx hb dX5_readMen_14 (by decide) ?_
      obtain ⟨ca, hf⟩ := m_chkE hf
      replace ca := z_in hM (by decide) ca
      obtain ⟨o1, ho, hf⟩ := m_calE hf
      refine z_callVi (k := 5) (C := RX5) (T := TX5) (N := 2) (fl := zf_5) X hM rfl zc_5 ca (c_X5_skip ho) gX5_readMen_X5_skip rfl ⟨rfl, rfl⟩ hd_X5_skip ⟨Nat.le_of_ble_eq_true rfl, Nat.le_of_ble_eq_true rfl⟩ rfl hl.1 rfl (Nat.le_of_ble_eq_true rfl) dX5_readMen_16 (fun H locs hM => ?_)
      clear ho
      refine lv_if_eq (tgt := 34) hx hb dX5_readMen_19 (by decide) (fun cc1 => ?_) (fun cc1 => ?_)
      · replace hf := m_ifT hf cc1
        exact w_X5_readMen_34 X hret hf hM (lv_sub hl [] rfl)
      · replace hf := m_ifF hf cc1
        exact w_X5_readMen_22 (x0 := x0) (x1 := x1) (x2 := x2) X hret hself3 hf hM (lv_sub hl [0, 1, 2] rfl)
noncomputable def f_X5_readMen_3 : Nat → Nat → Nat → Int32 → ZS → Option (Int32 × ZS)
  | 0 => fun _ _ _ _ => none
  | n + 1 => f_X5_readMen_3s (f_X5_readMen_3 n)
theorem w_X5_readMen_3 {p : Program} {l : Launch} {e : Env} {s : State} {m : MethodId} {args : Array Value} {below : List Frame} {meth : Method} {c : Code} {Q : State → Prop} {D : va_G} {y : Nat → ClassId} {A0 : Nat → Prop} {o : Int32 × ZS} (X : CallFix p m c cX5_readMen 3 s args wsX5_readMen RX5) (hret : zRi p l e ({ frames := 5, cells := 0, slots := 0, locals := 118 } : Room) s m args below meth c Q cX5_readMen D y A0 .boolean o) (n : Nat) : ∀ (x0 : Nat) (x1 : Nat) (x2 : Int32) (S : ZS) (H : Heap) (locs : List Loc) (ls : Array Slot), f_X5_readMen_3 n x0 x1 x2 S = some o → zH D y A0 s H locs S → lv_has ls 3 [(0, .ref (zh y x0)), (1, .ref (zh y x1)), (2, .int x2)] → W p l e ({ frames := 5, cells := 0, slots := 0, locals := 118 } : Room) s m args below meth c H locs 0 0 Q (F0 m 3 ls []) := by
  induction n with
  | zero => intro x0 x1 x2 S H locs ls hf; cases hf
  | succ n ih => intro x0 x1 x2 S H locs ls hf hM hl; exact ws_X5_readMen_3 X hret (self3 := f_X5_readMen_3 n) ih hf hM hl
noncomputable def f_X5_readMen_0 (x0 : Nat) (x1 : Nat) (S : ZS) : Option (Int32 × ZS) :=
  f_X5_readMen_3 mFuel x0 x1 (7 : Int32) S

set_option maxRecDepth 100000 in
set_option maxHeartbeats 4000000 in
theorem w_X5_readMen_0 {p : Program} {l : Launch} {e : Env} {s : State} {m : MethodId} {args : Array Value} {below : List Frame} {meth : Method} {c : Code} {Q : State → Prop} {D : va_G} {y : Nat → ClassId} {A0 : Nat → Prop} {o : Int32 × ZS} (X : CallFix p m c cX5_readMen 3 s args wsX5_readMen RX5) (hret : zRi p l e ({ frames := 5, cells := 0, slots := 0, locals := 118 } : Room) s m args below meth c Q cX5_readMen D y A0 .boolean o) {x0 : Nat} {x1 : Nat} {S : ZS} {H : Heap} {locs : List Loc} {ls : Array Slot} (hf : f_X5_readMen_0 x0 x1 S = some o) (hM : zH D y A0 s H locs S) (hl : lv_has ls 3 [(0, .ref (zh y x0)), (1, .ref (zh y x1))]) : W p l e ({ frames := 5, cells := 0, slots := 0, locals := 118 } : Room) s m args below meth c H locs 0 0 Q (F0 m 0 ls []) := by
  obtain ⟨hx, hb, hml, hown, hts⟩ := id X
  unfold f_X5_readMen_0 at hf
  refine lv_bipush (v := (7 : Int32)) hx hb dX5_readMen_0 (by decide) ?_
  refine lv_istore_n (lv' := [(2, .int (7 : Int32)), (0, .ref (zh y x0)), (1, .ref (zh y x1))]) hx hb dX5_readMen_2 rfl hl (by decide) rfl (fun ls hl => ?_)
  exact w_X5_readMen_3 X hret _ x0 x1 (7 : Int32) _ _ _ _ hf hM (lv_sub hl [1, 2, 0] rfl)
noncomputable def f_X5_readMen (x0 : Nat) (x1 : Nat) (S : ZS) : Option (Int32 × ZS) := f_X5_readMen_0 x0 x1 S
theorem c_X5_readMen {l : Launch} {D : va_G} {y : Nat → ClassId} {x0 : Nat} {x1 : Nat} {S : ZS} {o : Int32 × ZS} (hf : f_X5_readMen x0 x1 S = some o) : zMi l yX5_readMen wsX5_readMen ({ frames := 5, cells := 0, slots := 0, locals := 118 } : Room) [.ref (zh y x0), .ref (zh y x1)] D y S o :=
  z_entryI (own := RX5) (cc := cX5_readMen) (maxL := 3) (by decide) rfl rfl (Nat.le_of_ble_eq_true rfl) (fun p e s m args below meth c A0 Q H locs ls X hret hM hl => w_X5_readMen_0 X hret hf hM (lv_sub hl [0, 1] rfl))
theorem hd_X5_readSide : yX5_readSide.cls = RX5 ∧ yX5_readSide.cls ≠ "java/lang/invoke/MethodHandle" ∧ yX5_readSide.cls ≠ "java/lang/invoke/VarHandle" ∧ (parseMethodDescriptor yX5_readSide.desc).map (fun d => d.parameters.length) = some 1 := by decide +kernel
theorem fl_X5_readSide_0_3 : Cond.fieldLink RX5 88 "MoveTexts$Board" "side" "I" ∈ wsX5_readSide := by decide +kernel
theorem fl_X5_readSide_5_0 : Cond.fieldLink RX5 12 "MoveTexts$PositionReader" "text" "LMoveTexts$Row;" ∈ wsX5_readSide := by decide +kernel
theorem fl_X5_readSide_5_1 : Cond.fieldLink RX5 18 "MoveTexts$PositionReader" "at" "I" ∈ wsX5_readSide := by decide +kernel
theorem hw_X5_readSide_0 : ∀ w ∈ wsX00, w ∈ wsX5_readSide := by decide +kernel
theorem hw_X5_readSide_5 : ∀ w ∈ wsX50, w ∈ wsX5_readSide := by decide +kernel
noncomputable def f_X5_readSide_48 (t0 : Int32) (S : ZS) : Option (Int32 × ZS) :=
  m_chk (vp_nar .boolean t0 = t0) (some (t0, S))

set_option maxRecDepth 100000 in
set_option maxHeartbeats 4000000 in
theorem w_X5_readSide_48 {p : Program} {l : Launch} {e : Env} {s : State} {m : MethodId} {args : Array Value} {below : List Frame} {meth : Method} {c : Code} {Q : State → Prop} {D : va_G} {y : Nat → ClassId} {A0 : Nat → Prop} {o : Int32 × ZS} (X : CallFix p m c cX5_readSide 2 s args wsX5_readSide RX5) (hret : zRi p l e ({ frames := 2, cells := 0, slots := 0, locals := 42 } : Room) s m args below meth c Q cX5_readSide D y A0 .boolean o) {t0 : Int32} {S : ZS} {H : Heap} {locs : List Loc} {ls : Array Slot} (hf : f_X5_readSide_48 t0 S = some o) (hM : zH D y A0 s H locs S) (hl : lv_has ls 2 []) : W p l e ({ frames := 2, cells := 0, slots := 0, locals := 42 } : Room) s m args below meth c H locs 0 0 Q (F0 m 48 ls [.int t0]) := by
  obtain ⟨hx, hb, hml, hown, hts⟩ := id X
  unfold f_X5_readSide_48 at hf
  obtain ⟨cd, hf⟩ := m_chkE hf
  cases hf
  exact hret H locs _ ls hM (m_nb cd) dX5_readSide_48
noncomputable def f_X5_readSide_43 (S : ZS) : Option (Int32 × ZS) :=
  f_X5_readSide_48 (1 : Int32) S

set_option maxRecDepth 100000 in
set_option maxHeartbeats 4000000 in
theorem w_X5_readSide_43 {p : Program} {l : Launch} {e : Env} {s : State} {m : MethodId} {args : Array Value} {below : List Frame} {meth : Method} {c : Code} {Q : State → Prop} {D : va_G} {y : Nat → ClassId} {A0 : Nat → Prop} {o : Int32 × ZS} (X : CallFix p m c cX5_readSide 2 s args wsX5_readSide RX5) (hret : zRi p l e ({ frames := 2, cells := 0, slots := 0, locals := 42 } : Room) s m args below meth c Q cX5_readSide D y A0 .boolean o) {S : ZS} {H : Heap} {locs : List Loc} {ls : Array Slot} (hf : f_X5_readSide_43  S = some o) (hM : zH D y A0 s H locs S) (hl : lv_has ls 2 []) : W p l e ({ frames := 2, cells := 0, slots := 0, locals := 42 } : Room) s m args below meth c H locs 0 0 Q (F0 m 43 ls []) := by
  obtain ⟨hx, hb, hml, hown, hts⟩ := id X
  unfold f_X5_readSide_43 at hf
  refine lv_iconst (v := (1 : Int32)) hx hb dX5_readSide_43 (by decide) ?_
  refine lv_goto (tgt := 48) hx hb dX5_readSide_44 (by decide) ?_
  exact w_X5_readSide_48 (t0 := (1 : Int32)) X hret hf hM (lv_sub hl [] rfl)
noncomputable def f_X5_readSide_22 (x0 : Nat) (t0 : Int32) (t1 : Nat) (S : ZS) : Option (Int32 × ZS) :=
  m_chk (zK S t1 = 0) (
  m_bnd (zsI S 3 t1 t0) (fun S1 =>
  m_chk (zK S1 x0 = 5) (
  m_cal (f_X5_skip x0 (119 : Int32) S1) (fun o2 =>
  m_if (o2.1 = 0) (
  m_chk (zK o2.2 x0 = 5) (
  m_cal (f_X5_skip x0 (98 : Int32) o2.2) (fun o3 =>
  m_if (o3.1 = 0) (
  f_X5_readSide_48 (0 : Int32) o3.2
  ) (
  f_X5_readSide_43  o3.2
  )))
  ) (
  f_X5_readSide_43  o2.2
  )))))

set_option maxRecDepth 100000 in
set_option maxHeartbeats 4000000 in
theorem w_X5_readSide_22 {p : Program} {l : Launch} {e : Env} {s : State} {m : MethodId} {args : Array Value} {below : List Frame} {meth : Method} {c : Code} {Q : State → Prop} {D : va_G} {y : Nat → ClassId} {A0 : Nat → Prop} {o : Int32 × ZS} (X : CallFix p m c cX5_readSide 2 s args wsX5_readSide RX5) (hret : zRi p l e ({ frames := 2, cells := 0, slots := 0, locals := 42 } : Room) s m args below meth c Q cX5_readSide D y A0 .boolean o) {x0 : Nat} {t0 : Int32} {t1 : Nat} {S : ZS} {H : Heap} {locs : List Loc} {ls : Array Slot} (hf : f_X5_readSide_22 x0 t0 t1 S = some o) (hM : zH D y A0 s H locs S) (hl : lv_has ls 2 [(0, .ref (zh y x0))]) : W p l e ({ frames := 2, cells := 0, slots := 0, locals := 42 } : Room) s m args below meth c H locs 0 0 Q (F0 m 22 ls [.int t0, .ref (zh y t1)]) := by
  obtain ⟨hx, hb, hml, hown, hts⟩ := id X
  unfold f_X5_readSide_22 at hf
  obtain ⟨ca, hf⟩ := m_chkE hf
  replace ca := z_in hM (by decide) ca
  refine z_putI (k := 0) (j := 3) (C := RX0) (T := TX0) (N := 7) (fl := zf_0) (ty := .int) X hw_X5_readSide_0 tyX0_ok nmX0 hM rfl zc_0 ca (by decide) fl_X5_readSide_0_3 rfl (tyX0_ok 3 (by decide)) rfl rfl zi_0_3 (Nat.le_of_ble_eq_true rfl) dX5_readSide_22 (fun H locs hM => ?_)
  clear ca
  obtain ⟨S1, ev, hf⟩ := m_bndE hf
  replace hM := z_hS hM ev
  clear ev
  refine lv_aload_n hx hb dX5_readSide_25 rfl (lv_at hl 0 rfl) ?_
  refine lv_bipush (v := (119 : Int32)) hx hb dX5_readSide_26 (by decide) ?_
  obtain ⟨ca, hf⟩ := m_chkE hf
  replace ca := z_in hM (by decide) ca
  obtain ⟨o2, ho, hf⟩ := m_calE hf
  refine z_callVi (k := 5) (C := RX5) (T := TX5) (N := 2) (fl := zf_5) X hM rfl zc_5 ca (c_X5_skip ho) gX5_readSide_X5_skip rfl ⟨rfl, rfl⟩ hd_X5_skip ⟨Nat.le_of_ble_eq_true rfl, Nat.le_of_ble_eq_true rfl⟩ rfl hl.1 rfl (Nat.le_of_ble_eq_true rfl) dX5_readSide_28 (fun H locs hM => ?_)
  clear ho
  refine lv_if_ne (tgt := 43) hx hb dX5_readSide_31 (by decide) (fun cc1 => ?_) (fun cc1 => ?_)
  · replace hf := m_ifF hf cc1
    exact w_X5_readSide_43 X hret hf hM (lv_sub hl [] rfl)
  · replace hf := m_ifT hf cc1
    refine lv_aload_n hx hb dX5_readSide_34 rfl (lv_at hl 0 rfl) ?_
    refine lv_bipush (v := (98 : Int32)) hx hb dX5_readSide_35 (by decide) ?_
    obtain ⟨ca, hf⟩ := m_chkE hf
    replace ca := z_in hM (by decide) ca
    obtain ⟨o3, ho, hf⟩ := m_calE hf
    refine z_callVi (k := 5) (C := RX5) (T := TX5) (N := 2) (fl := zf_5) X hM rfl zc_5 ca (c_X5_skip ho) gX5_readSide_X5_skip rfl ⟨rfl, rfl⟩ hd_X5_skip ⟨Nat.le_of_ble_eq_true rfl, Nat.le_of_ble_eq_true rfl⟩ rfl hl.1 rfl (Nat.le_of_ble_eq_true rfl) dX5_readSide_37 (fun H locs hM => ?_)
    clear ho
    refine lv_if_eq (tgt := 47) hx hb dX5_readSide_40 (by decide) (fun cc1 => ?_) (fun cc1 => ?_)
    · replace hf := m_ifT hf cc1
      refine lv_iconst (v := (0 : Int32)) hx hb dX5_readSide_47 (by decide) ?_
      exact w_X5_readSide_48 (t0 := (0 : Int32)) X hret hf hM (lv_sub hl [] rfl)
    · replace hf := m_ifF hf cc1
      exact w_X5_readSide_43 X hret hf hM (lv_sub hl [] rfl)
noncomputable def f_X5_readSide_0 (x0 : Nat) (x1 : Nat) (S : ZS) : Option (Int32 × ZS) :=
  m_chk (zK S x0 = 5) (
  m_cal (zP S 0 x0) (fun b1 =>
  m_chk (zK S x0 = 5) (
  m_chk (zK S b1 = 6) (
  m_cal (f_X6_at b1 (zI S 1 x0) S) (fun o2 =>
  m_if (o2.1 = (98 : Int32)) (
  f_X5_readSide_22 x0 (1 : Int32) x1 o2.2
  ) (
  f_X5_readSide_22 x0 (0 : Int32) x1 o2.2
  ))))))

set_option maxRecDepth 100000 in
set_option maxHeartbeats 4000000 in
theorem w_X5_readSide_0 {p : Program} {l : Launch} {e : Env} {s : State} {m : MethodId} {args : Array Value} {below : List Frame} {meth : Method} {c : Code} {Q : State → Prop} {D : va_G} {y : Nat → ClassId} {A0 : Nat → Prop} {o : Int32 × ZS} (X : CallFix p m c cX5_readSide 2 s args wsX5_readSide RX5) (hret : zRi p l e ({ frames := 2, cells := 0, slots := 0, locals := 42 } : Room) s m args below meth c Q cX5_readSide D y A0 .boolean o) {x0 : Nat} {x1 : Nat} {S : ZS} {H : Heap} {locs : List Loc} {ls : Array Slot} (hf : f_X5_readSide_0 x0 x1 S = some o) (hM : zH D y A0 s H locs S) (hl : lv_has ls 2 [(0, .ref (zh y x0)), (1, .ref (zh y x1))]) : W p l e ({ frames := 2, cells := 0, slots := 0, locals := 42 } : Room) s m args below meth c H locs 0 0 Q (F0 m 0 ls []) := by
  obtain ⟨hx, hb, hml, hown, hts⟩ := id X
  unfold f_X5_readSide_0 at hf
  refine lv_aload_n hx hb dX5_readSide_0 rfl (lv_at hl 1 rfl) ?_
  refine lv_aload_n hx hb dX5_readSide_1 rfl (lv_at hl 0 rfl) ?_
  obtain ⟨ca, hf⟩ := m_chkE hf
  replace ca := z_in hM (by decide) ca
  refine z_get (k := 5) (j := 0) (C := RX5) (T := TX5) (N := 2) (fl := zf_5) (v := va_rf ((zP S 0 x0).map (zh y))) X hw_X5_readSide_5 hM rfl zc_5 ca (by decide) fl_X5_readSide_5_0 rfl dX5_readSide_2 ?_
  clear ca
  obtain ⟨b1, hb9, hf⟩ := m_calE hf
  refine z_topr hb9 ?_
  clear hb9
  refine lv_aload_n hx hb dX5_readSide_5 rfl (lv_at hl 0 rfl) ?_
  obtain ⟨ca, hf⟩ := m_chkE hf
  replace ca := z_in hM (by decide) ca
  refine z_get (k := 5) (j := 1) (C := RX5) (T := TX5) (N := 2) (fl := zf_5) (v := .int (zI S 1 x0)) X hw_X5_readSide_5 hM rfl zc_5 ca (by decide) fl_X5_readSide_5_1 rfl dX5_readSide_6 ?_
  clear ca
  obtain ⟨ca, hf⟩ := m_chkE hf
  replace ca := z_in hM (by decide) ca
  obtain ⟨o2, ho, hf⟩ := m_calE hf
  refine z_callVi (k := 6) (C := RX6) (T := TX6) (N := 2) (fl := zf_6) X hM rfl zc_6 ca (c_X6_at ho) gX5_readSide_X6_at rfl ⟨rfl, rfl⟩ hd_X6_at ⟨Nat.le_of_ble_eq_true rfl, Nat.le_of_ble_eq_true rfl⟩ rfl hl.1 rfl (Nat.le_of_ble_eq_true rfl) dX5_readSide_9 (fun H locs hM => ?_)
  clear ho
  refine lv_bipush (v := (98 : Int32)) hx hb dX5_readSide_12 (by decide) ?_
  refine lv_icmp_ne (tgt := 21) hx hb dX5_readSide_14 (by decide) (fun cc1 => ?_) (fun cc1 => ?_)
  · replace hf := m_ifF hf cc1
    refine lv_iconst (v := (0 : Int32)) hx hb dX5_readSide_21 (by decide) ?_
    exact w_X5_readSide_22 (x0 := x0) (t0 := (0 : Int32)) (t1 := x1) X hret hf hM (lv_sub hl [0] rfl)
  · replace hf := m_ifT hf cc1
    refine lv_iconst (v := (1 : Int32)) hx hb dX5_readSide_17 (by decide) ?_
    refine lv_goto (tgt := 22) hx hb dX5_readSide_18 (by decide) ?_
    exact w_X5_readSide_22 (x0 := x0) (t0 := (1 : Int32)) (t1 := x1) X hret hf hM (lv_sub hl [0] rfl)
noncomputable def f_X5_readSide (x0 : Nat) (x1 : Nat) (S : ZS) : Option (Int32 × ZS) := f_X5_readSide_0 x0 x1 S
theorem c_X5_readSide {l : Launch} {D : va_G} {y : Nat → ClassId} {x0 : Nat} {x1 : Nat} {S : ZS} {o : Int32 × ZS} (hf : f_X5_readSide x0 x1 S = some o) : zMi l yX5_readSide wsX5_readSide ({ frames := 2, cells := 0, slots := 0, locals := 42 } : Room) [.ref (zh y x0), .ref (zh y x1)] D y S o :=
  z_entryI (own := RX5) (cc := cX5_readSide) (maxL := 2) (by decide) rfl rfl (Nat.le_of_ble_eq_true rfl) (fun p e s m args below meth c A0 Q H locs ls X hret hM hl => w_X5_readSide_0 X hret hf hM (lv_sub hl [0, 1] rfl))
theorem hd_X5_readRights : yX5_readRights.cls = RX5 ∧ yX5_readRights.cls ≠ "java/lang/invoke/MethodHandle" ∧ yX5_readRights.cls ≠ "java/lang/invoke/VarHandle" ∧ (parseMethodDescriptor yX5_readRights.desc).map (fun d => d.parameters.length) = some 1 := by decide +kernel
theorem fl_X5_readRights_0_4 : Cond.fieldLink RX5 99 "MoveTexts$Board" "rights" "I" ∈ wsX5_readRights := by decide +kernel
theorem hw_X5_readRights_0 : ∀ w ∈ wsX00, w ∈ wsX5_readRights := by decide +kernel
theorem sr_X5_readRights_91 : (RX5, 91, "KQkq", 2) ∈ zSR := by decide +kernel
noncomputable def f_X5_readRights_65 (t0 : Int32) (S : ZS) : Option (Int32 × ZS) :=
  m_chk (vp_nar .boolean t0 = t0) (some (t0, S))

set_option maxRecDepth 100000 in
set_option maxHeartbeats 4000000 in
theorem w_X5_readRights_65 {p : Program} {l : Launch} {e : Env} {s : State} {m : MethodId} {args : Array Value} {below : List Frame} {meth : Method} {c : Code} {Q : State → Prop} {D : va_G} {y : Nat → ClassId} {A0 : Nat → Prop} {o : Int32 × ZS} (X : CallFix p m c cX5_readRights 3 s args wsX5_readRights RX5) (hret : zRi p l e ({ frames := 4, cells := 0, slots := 0, locals := 85 } : Room) s m args below meth c Q cX5_readRights D y A0 .boolean o) {t0 : Int32} {S : ZS} {H : Heap} {locs : List Loc} {ls : Array Slot} (hf : f_X5_readRights_65 t0 S = some o) (hM : zH D y A0 s H locs S) (hl : lv_has ls 3 []) : W p l e ({ frames := 4, cells := 0, slots := 0, locals := 85 } : Room) s m args below meth c H locs 0 0 Q (F0 m 65 ls [.int t0]) := by
  obtain ⟨hx, hb, hml, hown, hts⟩ := id X
  unfold f_X5_readRights_65 at hf
  obtain ⟨cd, hf⟩ := m_chkE hf
  cases hf
  exact hret H locs _ ls hM (m_nb cd) dX5_readRights_65
noncomputable def f_X5_readRights_47 (self13 : Nat → Nat → Int32 → ZS → Option (Int32 × ZS)) (x0 : Nat) (x1 : Nat) (x2 : Int32) (S : ZS) : Option (Int32 × ZS) :=
  m_bnd (x2 + (1 : Int32)) (fun v1 =>
  self13 x0 x1 v1 S)

set_option maxRecDepth 100000 in
set_option maxHeartbeats 4000000 in
theorem w_X5_readRights_47 {p : Program} {l : Launch} {e : Env} {s : State} {m : MethodId} {args : Array Value} {below : List Frame} {meth : Method} {c : Code} {Q : State → Prop} {D : va_G} {y : Nat → ClassId} {A0 : Nat → Prop} {o : Int32 × ZS} (X : CallFix p m c cX5_readRights 3 s args wsX5_readRights RX5) (hret : zRi p l e ({ frames := 4, cells := 0, slots := 0, locals := 85 } : Room) s m args below meth c Q cX5_readRights D y A0 .boolean o) {self13 : Nat → Nat → Int32 → ZS → Option (Int32 × ZS)} (hself13 : ∀ (x0 : Nat) (x1 : Nat) (x2 : Int32) (S : ZS) (H : Heap) (locs : List Loc) (ls : Array Slot), self13 x0 x1 x2 S = some o → zH D y A0 s H locs S → lv_has ls 3 [(0, .ref (zh y x0)), (1, .ref (zh y x1)), (2, .int x2)] → W p l e ({ frames := 4, cells := 0, slots := 0, locals := 85 } : Room) s m args below meth c H locs 0 0 Q (F0 m 13 ls [])) {x0 : Nat} {x1 : Nat} {x2 : Int32} {S : ZS} {H : Heap} {locs : List Loc} {ls : Array Slot} (hf : f_X5_readRights_47 self13 x0 x1 x2 S = some o) (hM : zH D y A0 s H locs S) (hl : lv_has ls 3 [(0, .ref (zh y x0)), (1, .ref (zh y x1)), (2, .int x2)]) : W p l e ({ frames := 4, cells := 0, slots := 0, locals := 85 } : Room) s m args below meth c H locs 0 0 Q (F0 m 47 ls []) := by
  obtain ⟨hx, hb, hml, hown, hts⟩ := id X
  unfold f_X5_readRights_47 at hf
  obtain ⟨v1, ev, hf⟩ := m_bndE hf
  refine lv_iinc (v := v1) (lv' := [(2, .int v1), (0, .ref (zh y x0)), (1, .ref (zh y x1))]) hx hb dX5_readRights_47 hl (k := 2) rfl (by rw [ev]; rfl) (by decide) rfl (fun ls hl => ?_)
  clear ev
  refine lv_goto (tgt := 13) hx hb dX5_readRights_50 (by decide) ?_
  exact hself13 x0 x1 v1 _ _ _ _ hf hM (lv_sub hl [1, 2, 0] rfl)
noncomputable def f_X5_readRights_13s (self13 : Nat → Nat → Int32 → ZS → Option (Int32 × ZS)) (x0 : Nat) (x1 : Nat) (x2 : Int32) (S : ZS) : Option (Int32 × ZS) :=
  m_chk (2 < zSn) (
  m_cal (f_J0_length_8abf5 2 S) (fun o1 =>
  m_if (o1.1 ≤ x2) (
  m_chk (zK o1.2 x1 = 0) (
  m_if ((zI o1.2 4 x1) = 0) (
  f_X5_readRights_65 (0 : Int32) o1.2
  ) (
  f_X5_readRights_65 (1 : Int32) o1.2
  ))
  ) (
  m_chk (2 < zSn) (
  m_cal (f_J0_charAt_5068e 2 x2 o1.2) (fun o2 =>
  m_chk (zK o2.2 x0 = 5) (
  m_cal (f_X5_skip x0 o2.1 o2.2) (fun o3 =>
  m_if (o3.1 = 0) (
  f_X5_readRights_47 self13 x0 x1 x2 o3.2
  ) (
  m_chk (zK o3.2 x1 = 0) (
  m_bnd ((1 : Int32) <<< (x2 &&& 31)) (fun v4 =>
  m_bnd ((zI o3.2 4 x1) ||| v4) (fun v5 =>
  m_chk (zK o3.2 x1 = 0) (
  m_bnd (zsI o3.2 4 x1 v5) (fun S6 =>
  f_X5_readRights_47 self13 x0 x1 x2 S6)))))
  )))))
  )))

set_option maxRecDepth 100000 in
set_option maxHeartbeats 4000000 in
theorem ws_X5_readRights_13 {p : Program} {l : Launch} {e : Env} {s : State} {m : MethodId} {args : Array Value} {below : List Frame} {meth : Method} {c : Code} {Q : State → Prop} {D : va_G} {y : Nat → ClassId} {A0 : Nat → Prop} {o : Int32 × ZS} (X : CallFix p m c cX5_readRights 3 s args wsX5_readRights RX5) (hret : zRi p l e ({ frames := 4, cells := 0, slots := 0, locals := 85 } : Room) s m args below meth c Q cX5_readRights D y A0 .boolean o) {self13 : Nat → Nat → Int32 → ZS → Option (Int32 × ZS)} (hself13 : ∀ (x0 : Nat) (x1 : Nat) (x2 : Int32) (S : ZS) (H : Heap) (locs : List Loc) (ls : Array Slot), self13 x0 x1 x2 S = some o → zH D y A0 s H locs S → lv_has ls 3 [(0, .ref (zh y x0)), (1, .ref (zh y x1)), (2, .int x2)] → W p l e ({ frames := 4, cells := 0, slots := 0, locals := 85 } : Room) s m args below meth c H locs 0 0 Q (F0 m 13 ls [])) {x0 : Nat} {x1 : Nat} {x2 : Int32} {S : ZS} {H : Heap} {locs : List Loc} {ls : Array Slot} (hf : f_X5_readRights_13s self13 x0 x1 x2 S = some o) (hM : zH D y A0 s H locs S) (hl : lv_has ls 3 [(0, .ref (zh y x0)), (1, .ref (zh y x1)), (2, .int x2)]) : W p l e ({ frames := 4, cells := 0, slots := 0, locals := 85 } : Room) s m args below meth c H locs 0 0 Q (F0 m 13 ls []) := by
  obtain ⟨hx, hb, hml, hown, hts⟩ := id X
  unfold f_X5_readRights_13s at hf
  refine lv_iload_n hx hb dX5_readRights_13 rfl (lv_at hl 2 rfl) ?_
  refine z_ldcS X hM sr_X5_readRights_91 dX5_readRights_14 ?_
  obtain ⟨ca, hf⟩ := m_chkE hf
  obtain ⟨o1, ho, hf⟩ := m_calE hf
  refine z_callTi X hM ca (c_J0_length_8abf5 ho) gX5_readRights_J0_length_8abf5 rfl ⟨rfl, rfl⟩ hd_J0_length_8abf5 ⟨Nat.le_of_ble_eq_true rfl, Nat.le_of_ble_eq_true rfl⟩ rfl hl.1 rfl (Nat.le_of_ble_eq_true rfl) dX5_readRights_16 (fun H locs hM => ?_)
  clear ho
  refine lv_icmp_ge (tgt := 53) hx hb dX5_readRights_19 (by decide) (fun cc1 => ?_) (fun cc1 => ?_)
  · replace hf := m_ifT hf cc1
    refine lv_aload_n hx hb dX5_readRights_53 rfl (lv_at hl 1 rfl) ?_
    obtain ⟨ca, hf⟩ := m_chkE hf
    replace ca := z_in hM (by decide) ca
    refine z_get (k := 0) (j := 4) (C := RX0) (T := TX0) (N := 7) (fl := zf_0) (v := .int (zI o1.2 4 x1)) X hw_X5_readRights_0 hM rfl zc_0 ca (by decide) fl_X5_readRights_0_4 rfl dX5_readRights_54 ?_
    clear ca
    refine lv_if_eq (tgt := 64) hx hb dX5_readRights_57 (by decide) (fun cc1 => ?_) (fun cc1 => ?_)
    · replace hf := m_ifT hf cc1
      refine lv_iconst (v := (0 : Int32)) hx hb dX5_readRights_64 (by decide) ?_
      exact w_X5_readRights_65 (t0 := (0 : Int32)) X hret hf hM (lv_sub hl [] rfl)
    · replace hf := m_ifF hf cc1
      refine lv_iconst (v := (1 : Int32)) hx hb dX5_readRights_60 (by decide) ?_
      refine lv_goto (tgt := 65) hx hb dX5_readRights_61 (by decide) ?_
      exact w_X5_readRights_65 (t0 := (1 : Int32)) X hret hf hM (lv_sub hl [] rfl)
  · replace hf := m_ifF hf cc1
    refine lv_aload_n hx hb dX5_readRights_22 rfl (lv_at hl 0 rfl) ?_
    refine z_ldcS X hM sr_X5_readRights_91 dX5_readRights_23 ?_
    refine lv_iload_n hx hb dX5_readRights_25 rfl (lv_at hl 2 rfl) ?_
    obtain ⟨ca, hf⟩ := m_chkE hf
    obtain ⟨o2, ho, hf⟩ := m_calE hf
    refine z_callTi X hM ca (c_J0_charAt_5068e ho) gX5_readRights_J0_charAt_5068e rfl ⟨rfl, rfl⟩ hd_J0_charAt_5068e ⟨Nat.le_of_ble_eq_true rfl, Nat.le_of_ble_eq_true rfl⟩ rfl hl.1 rfl (Nat.le_of_ble_eq_true rfl) dX5_readRights_26 (fun H locs hM => ?_)
    clear ho
    obtain ⟨ca, hf⟩ := m_chkE hf
    replace ca := z_in hM (by decide) ca
    obtain ⟨o3, ho, hf⟩ := m_calE hf
    refine z_callVi (k := 5) (C := RX5) (T := TX5) (N := 2) (fl := zf_5) X hM rfl zc_5 ca (c_X5_skip ho) gX5_readRights_X5_skip rfl ⟨rfl, rfl⟩ hd_X5_skip ⟨Nat.le_of_ble_eq_true rfl, Nat.le_of_ble_eq_true rfl⟩ rfl hl.1 rfl (Nat.le_of_ble_eq_true rfl) dX5_readRights_29 (fun H locs hM => ?_)
    clear ho
    refine lv_if_eq (tgt := 47) hx hb dX5_readRights_32 (by decide) (fun cc1 => ?_) (fun cc1 => ?_)
    · replace hf := m_ifT hf cc1
      exact w_X5_readRights_47 (x0 := x0) (x1 := x1) (x2 := x2) X hret hself13 hf hM (lv_sub hl [0, 1, 2] rfl)
    · replace hf := m_ifF hf cc1
      refine lv_aload_n hx hb dX5_readRights_35 rfl (lv_at hl 1 rfl) ?_
      refine lv_dup hx hb dX5_readRights_36 rfl ?_
      obtain ⟨ca, hf⟩ := m_chkE hf
      replace ca := z_in hM (by decide) ca
      refine z_get (k := 0) (j := 4) (C := RX0) (T := TX0) (N := 7) (fl := zf_0) (v := .int (zI o3.2 4 x1)) X hw_X5_readRights_0 hM rfl zc_0 ca (by decide) fl_X5_readRights_0_4 rfl dX5_readRights_37 ?_
      clear ca
      refine lv_iconst (v := (1 : Int32)) hx hb dX5_readRights_40 (by decide) ?_
      refine lv_iload_n hx hb dX5_readRights_41 rfl (lv_at hl 2 rfl) ?_
      refine lv_ishl hx hb dX5_readRights_42 ?_
      obtain ⟨v4, ev, hf⟩ := m_bndE hf
      refine m_top ev ?_
      clear ev
      refine lv_ior hx hb dX5_readRights_43 ?_
      obtain ⟨v5, ev, hf⟩ := m_bndE hf
      refine m_top ev ?_
      clear ev
      obtain ⟨ca, hf⟩ := m_chkE hf
      replace ca := z_in hM (by decide) ca
      refine z_putI (k := 0) (j := 4) (C := RX0) (T := TX0) (N := 7) (fl := zf_0) (ty := .int) X hw_X5_readRights_0 tyX0_ok nmX0 hM rfl zc_0 ca (by decide) fl_X5_readRights_0_4 rfl (tyX0_ok 4 (by decide)) rfl rfl zi_0_4 (Nat.le_of_ble_eq_true rfl) dX5_readRights_44 (fun H locs hM => ?_)
      clear ca
      obtain ⟨S6, ev, hf⟩ := m_bndE hf
      replace hM := z_hS hM ev
      clear ev
      exact w_X5_readRights_47 (x0 := x0) (x1 := x1) (x2 := x2) X hret hself13 hf hM (lv_sub hl [0, 1, 2] rfl)
noncomputable def f_X5_readRights_13 : Nat → Nat → Nat → Int32 → ZS → Option (Int32 × ZS)
  | 0 => fun _ _ _ _ => none
  | n + 1 => f_X5_readRights_13s (f_X5_readRights_13 n)
theorem w_X5_readRights_13 {p : Program} {l : Launch} {e : Env} {s : State} {m : MethodId} {args : Array Value} {below : List Frame} {meth : Method} {c : Code} {Q : State → Prop} {D : va_G} {y : Nat → ClassId} {A0 : Nat → Prop} {o : Int32 × ZS} (X : CallFix p m c cX5_readRights 3 s args wsX5_readRights RX5) (hret : zRi p l e ({ frames := 4, cells := 0, slots := 0, locals := 85 } : Room) s m args below meth c Q cX5_readRights D y A0 .boolean o) (n : Nat) : ∀ (x0 : Nat) (x1 : Nat) (x2 : Int32) (S : ZS) (H : Heap) (locs : List Loc) (ls : Array Slot), f_X5_readRights_13 n x0 x1 x2 S = some o → zH D y A0 s H locs S → lv_has ls 3 [(0, .ref (zh y x0)), (1, .ref (zh y x1)), (2, .int x2)] → W p l e ({ frames := 4, cells := 0, slots := 0, locals := 85 } : Room) s m args below meth c H locs 0 0 Q (F0 m 13 ls []) := by
  induction n with
  | zero => intro x0 x1 x2 S H locs ls hf; cases hf
  | succ n ih => intro x0 x1 x2 S H locs ls hf hM hl; exact ws_X5_readRights_13 X hret (self13 := f_X5_readRights_13 n) ih hf hM hl
noncomputable def f_X5_readRights_0 (x0 : Nat) (x1 : Nat) (S : ZS) : Option (Int32 × ZS) :=
  m_chk (zK S x0 = 5) (
  m_cal (f_X5_skip x0 (45 : Int32) S) (fun o1 =>
  m_if (o1.1 = 0) (
  f_X5_readRights_13 mFuel x0 x1 (0 : Int32) o1.2
  ) (
  m_chk (vp_nar .boolean (1 : Int32) = (1 : Int32)) (some ((1 : Int32), o1.2))
  )))

set_option maxRecDepth 100000 in
set_option maxHeartbeats 4000000 in
theorem w_X5_readRights_0 {p : Program} {l : Launch} {e : Env} {s : State} {m : MethodId} {args : Array Value} {below : List Frame} {meth : Method} {c : Code} {Q : State → Prop} {D : va_G} {y : Nat → ClassId} {A0 : Nat → Prop} {o : Int32 × ZS} (X : CallFix p m c cX5_readRights 3 s args wsX5_readRights RX5) (hret : zRi p l e ({ frames := 4, cells := 0, slots := 0, locals := 85 } : Room) s m args below meth c Q cX5_readRights D y A0 .boolean o) {x0 : Nat} {x1 : Nat} {S : ZS} {H : Heap} {locs : List Loc} {ls : Array Slot} (hf : f_X5_readRights_0 x0 x1 S = some o) (hM : zH D y A0 s H locs S) (hl : lv_has ls 3 [(0, .ref (zh y x0)), (1, .ref (zh y x1))]) : W p l e ({ frames := 4, cells := 0, slots := 0, locals := 85 } : Room) s m args below meth c H locs 0 0 Q (F0 m 0 ls []) := by
  obtain ⟨hx, hb, hml, hown, hts⟩ := id X
  unfold f_X5_readRights_0 at hf
  refine lv_aload_n hx hb dX5_readRights_0 rfl (lv_at hl 0 rfl) ?_
  refine lv_bipush (v := (45 : Int32)) hx hb dX5_readRights_1 (by decide) ?_
  obtain ⟨ca, hf⟩ := m_chkE hf
  replace ca := z_in hM (by decide) ca
  obtain ⟨o1, ho, hf⟩ := m_calE hf
  refine z_callVi (k := 5) (C := RX5) (T := TX5) (N := 2) (fl := zf_5) X hM rfl zc_5 ca (c_X5_skip ho) gX5_readRights_X5_skip rfl ⟨rfl, rfl⟩ hd_X5_skip ⟨Nat.le_of_ble_eq_true rfl, Nat.le_of_ble_eq_true rfl⟩ rfl hl.1 rfl (Nat.le_of_ble_eq_true rfl) dX5_readRights_3 (fun H locs hM => ?_)
  clear ho
  refine lv_if_eq (tgt := 11) hx hb dX5_readRights_6 (by decide) (fun cc1 => ?_) (fun cc1 => ?_)
  · replace hf := m_ifT hf cc1
    refine lv_iconst (v := (0 : Int32)) hx hb dX5_readRights_11 (by decide) ?_
    refine lv_istore_n (lv' := [(2, .int (0 : Int32)), (0, .ref (zh y x0)), (1, .ref (zh y x1))]) hx hb dX5_readRights_12 rfl hl (by decide) rfl (fun ls hl => ?_)
    exact w_X5_readRights_13 X hret _ x0 x1 (0 : Int32) _ _ _ _ hf hM (lv_sub hl [1, 2, 0] rfl)
  · replace hf := m_ifF hf cc1
    refine lv_iconst (v := (1 : Int32)) hx hb dX5_readRights_9 (by decide) ?_
    obtain ⟨cd, hf⟩ := m_chkE hf
    cases hf
    exact hret H locs _ ls hM (m_nb cd) dX5_readRights_10
noncomputable def f_X5_readRights (x0 : Nat) (x1 : Nat) (S : ZS) : Option (Int32 × ZS) := f_X5_readRights_0 x0 x1 S
theorem c_X5_readRights {l : Launch} {D : va_G} {y : Nat → ClassId} {x0 : Nat} {x1 : Nat} {S : ZS} {o : Int32 × ZS} (hf : f_X5_readRights x0 x1 S = some o) : zMi l yX5_readRights wsX5_readRights ({ frames := 4, cells := 0, slots := 0, locals := 85 } : Room) [.ref (zh y x0), .ref (zh y x1)] D y S o :=
  z_entryI (own := RX5) (cc := cX5_readRights) (maxL := 3) (by decide) rfl rfl (Nat.le_of_ble_eq_true rfl) (fun p e s m args below meth c A0 Q H locs ls X hret hM hl => w_X5_readRights_0 X hret hf hM (lv_sub hl [0, 1] rfl))
theorem hd_X11_isFile : yX11_isFile.cls ≠ "java/lang/invoke/MethodHandle" ∧ yX11_isFile.cls ≠ "java/lang/invoke/VarHandle" ∧ (parseMethodDescriptor yX11_isFile.desc).map (fun d => d.parameters.length) = some 1 := by decide +kernel
noncomputable def f_X11_isFile_17 (t0 : Int32) (S : ZS) : Option (Int32 × ZS) :=
  m_chk (vp_nar .boolean t0 = t0) (some (t0, S))

set_option maxRecDepth 100000 in
set_option maxHeartbeats 4000000 in
theorem w_X11_isFile_17 {p : Program} {l : Launch} {e : Env} {s : State} {m : MethodId} {args : Array Value} {below : List Frame} {meth : Method} {c : Code} {Q : State → Prop} {D : va_G} {y : Nat → ClassId} {A0 : Nat → Prop} {o : Int32 × ZS} (X : CallFix p m c cX11_isFile 1 s args wsX11_isFile RX11) (hret : zRi p l e ({ frames := 0, cells := 0, slots := 0, locals := 0 } : Room) s m args below meth c Q cX11_isFile D y A0 .boolean o) {t0 : Int32} {S : ZS} {H : Heap} {locs : List Loc} {ls : Array Slot} (hf : f_X11_isFile_17 t0 S = some o) (hM : zH D y A0 s H locs S) (hl : lv_has ls 1 []) : W p l e ({ frames := 0, cells := 0, slots := 0, locals := 0 } : Room) s m args below meth c H locs 0 0 Q (F0 m 17 ls [.int t0]) := by
  obtain ⟨hx, hb, hml, hown, hts⟩ := id X
  unfold f_X11_isFile_17 at hf
  obtain ⟨cd, hf⟩ := m_chkE hf
  cases hf
  exact hret H locs _ ls hM (m_nb cd) dX11_isFile_17
noncomputable def f_X11_isFile_16 (S : ZS) : Option (Int32 × ZS) :=
  f_X11_isFile_17 (0 : Int32) S

set_option maxRecDepth 100000 in
set_option maxHeartbeats 4000000 in
theorem w_X11_isFile_16 {p : Program} {l : Launch} {e : Env} {s : State} {m : MethodId} {args : Array Value} {below : List Frame} {meth : Method} {c : Code} {Q : State → Prop} {D : va_G} {y : Nat → ClassId} {A0 : Nat → Prop} {o : Int32 × ZS} (X : CallFix p m c cX11_isFile 1 s args wsX11_isFile RX11) (hret : zRi p l e ({ frames := 0, cells := 0, slots := 0, locals := 0 } : Room) s m args below meth c Q cX11_isFile D y A0 .boolean o) {S : ZS} {H : Heap} {locs : List Loc} {ls : Array Slot} (hf : f_X11_isFile_16  S = some o) (hM : zH D y A0 s H locs S) (hl : lv_has ls 1 []) : W p l e ({ frames := 0, cells := 0, slots := 0, locals := 0 } : Room) s m args below meth c H locs 0 0 Q (F0 m 16 ls []) := by
  obtain ⟨hx, hb, hml, hown, hts⟩ := id X
  unfold f_X11_isFile_16 at hf
  refine lv_iconst (v := (0 : Int32)) hx hb dX11_isFile_16 (by decide) ?_
  exact w_X11_isFile_17 (t0 := (0 : Int32)) X hret hf hM (lv_sub hl [] rfl)
noncomputable def f_X11_isFile_0 (x0 : Int32) (S : ZS) : Option (Int32 × ZS) :=
  m_if (x0 < (97 : Int32)) (
  f_X11_isFile_16  S
  ) (
  m_if ((104 : Int32) < x0) (
  f_X11_isFile_16  S
  ) (
  f_X11_isFile_17 (1 : Int32) S
  )
  )

set_option maxRecDepth 100000 in
set_option maxHeartbeats 4000000 in
theorem w_X11_isFile_0 {p : Program} {l : Launch} {e : Env} {s : State} {m : MethodId} {args : Array Value} {below : List Frame} {meth : Method} {c : Code} {Q : State → Prop} {D : va_G} {y : Nat → ClassId} {A0 : Nat → Prop} {o : Int32 × ZS} (X : CallFix p m c cX11_isFile 1 s args wsX11_isFile RX11) (hret : zRi p l e ({ frames := 0, cells := 0, slots := 0, locals := 0 } : Room) s m args below meth c Q cX11_isFile D y A0 .boolean o) {x0 : Int32} {S : ZS} {H : Heap} {locs : List Loc} {ls : Array Slot} (hf : f_X11_isFile_0 x0 S = some o) (hM : zH D y A0 s H locs S) (hl : lv_has ls 1 [(0, .int x0)]) : W p l e ({ frames := 0, cells := 0, slots := 0, locals := 0 } : Room) s m args below meth c H locs 0 0 Q (F0 m 0 ls []) := by
  obtain ⟨hx, hb, hml, hown, hts⟩ := id X
  unfold f_X11_isFile_0 at hf
  refine lv_iload_n hx hb dX11_isFile_0 rfl (lv_at hl 0 rfl) ?_
  refine lv_bipush (v := (97 : Int32)) hx hb dX11_isFile_1 (by decide) ?_
  refine lv_icmp_lt (tgt := 16) hx hb dX11_isFile_3 (by decide) (fun cc1 => ?_) (fun cc1 => ?_)
  · replace hf := m_ifT hf cc1
    exact w_X11_isFile_16 X hret hf hM (lv_sub hl [] rfl)
  · replace hf := m_ifF hf cc1
    refine lv_iload_n hx hb dX11_isFile_6 rfl (lv_at hl 0 rfl) ?_
    refine lv_bipush (v := (104 : Int32)) hx hb dX11_isFile_7 (by decide) ?_
    refine lv_icmp_gt (tgt := 16) hx hb dX11_isFile_9 (by decide) (fun cc1 => ?_) (fun cc1 => ?_)
    · replace hf := m_ifT hf cc1
      exact w_X11_isFile_16 X hret hf hM (lv_sub hl [] rfl)
    · replace hf := m_ifF hf cc1
      refine lv_iconst (v := (1 : Int32)) hx hb dX11_isFile_12 (by decide) ?_
      refine lv_goto (tgt := 17) hx hb dX11_isFile_13 (by decide) ?_
      exact w_X11_isFile_17 (t0 := (1 : Int32)) X hret hf hM (lv_sub hl [] rfl)
noncomputable def f_X11_isFile (x0 : Int32) (S : ZS) : Option (Int32 × ZS) := f_X11_isFile_0 x0 S
theorem c_X11_isFile {l : Launch} {D : va_G} {y : Nat → ClassId} {x0 : Int32} {S : ZS} {o : Int32 × ZS} (hf : f_X11_isFile x0 S = some o) : zMi l yX11_isFile wsX11_isFile ({ frames := 0, cells := 0, slots := 0, locals := 0 } : Room) [.int x0] D y S o :=
  z_entryI (own := RX11) (cc := cX11_isFile) (maxL := 1) (by decide) rfl rfl (Nat.le_of_ble_eq_true rfl) (fun p e s m args below meth c A0 Q H locs ls X hret hM hl => w_X11_isFile_0 X hret hf hM (lv_sub hl [0] rfl))
theorem hd_X11_squareOf : yX11_squareOf.cls ≠ "java/lang/invoke/MethodHandle" ∧ yX11_squareOf.cls ≠ "java/lang/invoke/VarHandle" ∧ (parseMethodDescriptor yX11_squareOf.desc).map (fun d => d.parameters.length) = some 2 := by decide +kernel
noncomputable def f_X11_squareOf_30 (t0 : Int32) (S : ZS) : Option (Int32 × ZS) :=
  some (t0, S)

set_option maxRecDepth 100000 in
set_option maxHeartbeats 4000000 in
theorem w_X11_squareOf_30 {p : Program} {l : Launch} {e : Env} {s : State} {m : MethodId} {args : Array Value} {below : List Frame} {meth : Method} {c : Code} {Q : State → Prop} {D : va_G} {y : Nat → ClassId} {A0 : Nat → Prop} {o : Int32 × ZS} (X : CallFix p m c cX11_squareOf 2 s args wsX11_squareOf RX11) (hret : zRi p l e ({ frames := 1, cells := 0, slots := 0, locals := 20 } : Room) s m args below meth c Q cX11_squareOf D y A0 .int o) {t0 : Int32} {S : ZS} {H : Heap} {locs : List Loc} {ls : Array Slot} (hf : f_X11_squareOf_30 t0 S = some o) (hM : zH D y A0 s H locs S) (hl : lv_has ls 2 []) : W p l e ({ frames := 1, cells := 0, slots := 0, locals := 20 } : Room) s m args below meth c H locs 0 0 Q (F0 m 30 ls [.int t0]) := by
  obtain ⟨hx, hb, hml, hown, hts⟩ := id X
  unfold f_X11_squareOf_30 at hf
  cases hf
  exact hret H locs _ ls hM rfl dX11_squareOf_30
noncomputable def f_X11_squareOf_29 (S : ZS) : Option (Int32 × ZS) :=
  f_X11_squareOf_30 (-1 : Int32) S

set_option maxRecDepth 100000 in
set_option maxHeartbeats 4000000 in
theorem w_X11_squareOf_29 {p : Program} {l : Launch} {e : Env} {s : State} {m : MethodId} {args : Array Value} {below : List Frame} {meth : Method} {c : Code} {Q : State → Prop} {D : va_G} {y : Nat → ClassId} {A0 : Nat → Prop} {o : Int32 × ZS} (X : CallFix p m c cX11_squareOf 2 s args wsX11_squareOf RX11) (hret : zRi p l e ({ frames := 1, cells := 0, slots := 0, locals := 20 } : Room) s m args below meth c Q cX11_squareOf D y A0 .int o) {S : ZS} {H : Heap} {locs : List Loc} {ls : Array Slot} (hf : f_X11_squareOf_29  S = some o) (hM : zH D y A0 s H locs S) (hl : lv_has ls 2 []) : W p l e ({ frames := 1, cells := 0, slots := 0, locals := 20 } : Room) s m args below meth c H locs 0 0 Q (F0 m 29 ls []) := by
  obtain ⟨hx, hb, hml, hown, hts⟩ := id X
  unfold f_X11_squareOf_29 at hf
  refine lv_iconst (v := (-1 : Int32)) hx hb dX11_squareOf_29 (by decide) ?_
  exact w_X11_squareOf_30 (t0 := (-1 : Int32)) X hret hf hM (lv_sub hl [] rfl)
noncomputable def f_X11_squareOf_0 (x0 : Int32) (x1 : Int32) (S : ZS) : Option (Int32 × ZS) :=
  m_cal (f_X11_isFile x0 S) (fun o1 =>
  m_if (o1.1 = 0) (
  f_X11_squareOf_29  o1.2
  ) (
  m_cal (f_X11_isRank x1 o1.2) (fun o2 =>
  m_if (o2.1 = 0) (
  f_X11_squareOf_29  o2.2
  ) (
  m_bnd (x0 - (97 : Int32)) (fun v3 =>
  m_bnd (x1 - (49 : Int32)) (fun v4 =>
  m_bnd ((8 : Int32) * v4) (fun v5 =>
  m_bnd (v3 + v5) (fun v6 =>
  f_X11_squareOf_30 v6 o2.2))))
  ))
  ))

set_option maxRecDepth 100000 in
set_option maxHeartbeats 4000000 in
theorem w_X11_squareOf_0 {p : Program} {l : Launch} {e : Env} {s : State} {m : MethodId} {args : Array Value} {below : List Frame} {meth : Method} {c : Code} {Q : State → Prop} {D : va_G} {y : Nat → ClassId} {A0 : Nat → Prop} {o : Int32 × ZS} (X : CallFix p m c cX11_squareOf 2 s args wsX11_squareOf RX11) (hret : zRi p l e ({ frames := 1, cells := 0, slots := 0, locals := 20 } : Room) s m args below meth c Q cX11_squareOf D y A0 .int o) {x0 : Int32} {x1 : Int32} {S : ZS} {H : Heap} {locs : List Loc} {ls : Array Slot} (hf : f_X11_squareOf_0 x0 x1 S = some o) (hM : zH D y A0 s H locs S) (hl : lv_has ls 2 [(0, .int x0), (1, .int x1)]) : W p l e ({ frames := 1, cells := 0, slots := 0, locals := 20 } : Room) s m args below meth c H locs 0 0 Q (F0 m 0 ls []) := by
  obtain ⟨hx, hb, hml, hown, hts⟩ := id X
  unfold f_X11_squareOf_0 at hf
  refine lv_iload_n hx hb dX11_squareOf_0 rfl (lv_at hl 0 rfl) ?_
  obtain ⟨o1, ho, hf⟩ := m_calE hf
  refine z_callSi X hM (c_X11_isFile ho) gX11_squareOf_X11_isFile rfl ⟨rfl, rfl⟩ hd_X11_isFile ⟨Nat.le_of_ble_eq_true rfl, Nat.le_of_ble_eq_true rfl⟩ rfl hl.1 rfl (Nat.le_of_ble_eq_true rfl) dX11_squareOf_1 (fun H locs hM => ?_)
  clear ho
  refine lv_if_eq (tgt := 29) hx hb dX11_squareOf_4 (by decide) (fun cc1 => ?_) (fun cc1 => ?_)
  · replace hf := m_ifT hf cc1
    exact w_X11_squareOf_29 X hret hf hM (lv_sub hl [] rfl)
  · replace hf := m_ifF hf cc1
    refine lv_iload_n hx hb dX11_squareOf_7 rfl (lv_at hl 1 rfl) ?_
    obtain ⟨o2, ho, hf⟩ := m_calE hf
    refine z_callSi X hM (c_X11_isRank ho) gX11_squareOf_X11_isRank rfl ⟨rfl, rfl⟩ hd_X11_isRank ⟨Nat.le_of_ble_eq_true rfl, Nat.le_of_ble_eq_true rfl⟩ rfl hl.1 rfl (Nat.le_of_ble_eq_true rfl) dX11_squareOf_8 (fun H locs hM => ?_)
    clear ho
    refine lv_if_eq (tgt := 29) hx hb dX11_squareOf_11 (by decide) (fun cc1 => ?_) (fun cc1 => ?_)
    · replace hf := m_ifT hf cc1
      exact w_X11_squareOf_29 X hret hf hM (lv_sub hl [] rfl)
    · replace hf := m_ifF hf cc1
      refine lv_iload_n hx hb dX11_squareOf_14 rfl (lv_at hl 0 rfl) ?_
      refine lv_bipush (v := (97 : Int32)) hx hb dX11_squareOf_15 (by decide) ?_
      refine lv_isub hx hb dX11_squareOf_17 ?_
      obtain ⟨v3, ev, hf⟩ := m_bndE hf
      refine m_top ev ?_
      clear ev
      refine lv_bipush (v := (8 : Int32)) hx hb dX11_squareOf_18 (by decide) ?_
      refine lv_iload_n hx hb dX11_squareOf_20 rfl (lv_at hl 1 rfl) ?_
      refine lv_bipush (v := (49 : Int32)) hx hb dX11_squareOf_21 (by decide) ?_
      refine lv_isub hx hb dX11_squareOf_23 ?_
      obtain ⟨v4, ev, hf⟩ := m_bndE hf
      refine m_top ev ?_
      clear ev
      refine lv_imul hx hb dX11_squareOf_24 ?_
      obtain ⟨v5, ev, hf⟩ := m_bndE hf
      refine m_top ev ?_
      clear ev
      refine lv_iadd hx hb dX11_squareOf_25 ?_
      obtain ⟨v6, ev, hf⟩ := m_bndE hf
      refine m_top ev ?_
      clear ev
      refine lv_goto (tgt := 30) hx hb dX11_squareOf_26 (by decide) ?_
      exact w_X11_squareOf_30 (t0 := v6) X hret hf hM (lv_sub hl [] rfl)
noncomputable def f_X11_squareOf (x0 : Int32) (x1 : Int32) (S : ZS) : Option (Int32 × ZS) := f_X11_squareOf_0 x0 x1 S
theorem c_X11_squareOf {l : Launch} {D : va_G} {y : Nat → ClassId} {x0 : Int32} {x1 : Int32} {S : ZS} {o : Int32 × ZS} (hf : f_X11_squareOf x0 x1 S = some o) : zMi l yX11_squareOf wsX11_squareOf ({ frames := 1, cells := 0, slots := 0, locals := 20 } : Room) [.int x0, .int x1] D y S o :=
  z_entryI (own := RX11) (cc := cX11_squareOf) (maxL := 2) (by decide) rfl rfl (Nat.le_of_ble_eq_true rfl) (fun p e s m args below meth c A0 Q H locs ls X hret hM hl => w_X11_squareOf_0 X hret hf hM (lv_sub hl [0, 1] rfl))
theorem hd_X5_readPassed : yX5_readPassed.cls = RX5 ∧ yX5_readPassed.cls ≠ "java/lang/invoke/MethodHandle" ∧ yX5_readPassed.cls ≠ "java/lang/invoke/VarHandle" ∧ (parseMethodDescriptor yX5_readPassed.desc).map (fun d => d.parameters.length) = some 1 := by decide +kernel
theorem fl_X5_readPassed_0_5 : Cond.fieldLink RX5 106 "MoveTexts$Board" "passed" "I" ∈ wsX5_readPassed := by decide +kernel
theorem fl_X5_readPassed_5_0 : Cond.fieldLink RX5 12 "MoveTexts$PositionReader" "text" "LMoveTexts$Row;" ∈ wsX5_readPassed := by decide +kernel
theorem fl_X5_readPassed_5_1 : Cond.fieldLink RX5 18 "MoveTexts$PositionReader" "at" "I" ∈ wsX5_readPassed := by decide +kernel
theorem hw_X5_readPassed_0 : ∀ w ∈ wsX00, w ∈ wsX5_readPassed := by decide +kernel
theorem hw_X5_readPassed_5 : ∀ w ∈ wsX50, w ∈ wsX5_readPassed := by decide +kernel
theorem nn_X5_readPassed_102 : ((RX5, 102, yX11_squareOf, "MoveTexts") ∈ zNW ∧ Cond.initialized yX11_squareOf.cls ∈ wsX5_readPassed) ∧ Cond.static yX11_squareOf ∈ wsX5_readPassed := by decide +kernel
noncomputable def f_X5_readPassed_65 (t0 : Int32) (S : ZS) : Option (Int32 × ZS) :=
  m_chk (vp_nar .boolean t0 = t0) (some (t0, S))

set_option maxRecDepth 100000 in
set_option maxHeartbeats 4000000 in
theorem w_X5_readPassed_65 {p : Program} {l : Launch} {e : Env} {s : State} {m : MethodId} {args : Array Value} {below : List Frame} {meth : Method} {c : Code} {Q : State → Prop} {D : va_G} {y : Nat → ClassId} {A0 : Nat → Prop} {o : Int32 × ZS} (X : CallFix p m c cX5_readPassed 2 s args wsX5_readPassed RX5) (hret : zRi p l e ({ frames := 2, cells := 0, slots := 0, locals := 42 } : Room) s m args below meth c Q cX5_readPassed D y A0 .boolean o) {t0 : Int32} {S : ZS} {H : Heap} {locs : List Loc} {ls : Array Slot} (hf : f_X5_readPassed_65 t0 S = some o) (hM : zH D y A0 s H locs S) (hl : lv_has ls 2 []) : W p l e ({ frames := 2, cells := 0, slots := 0, locals := 42 } : Room) s m args below meth c H locs 0 0 Q (F0 m 65 ls [.int t0]) := by
  obtain ⟨hx, hb, hml, hown, hts⟩ := id X
  unfold f_X5_readPassed_65 at hf
  obtain ⟨cd, hf⟩ := m_chkE hf
  cases hf
  exact hret H locs _ ls hM (m_nb cd) dX5_readPassed_65
noncomputable def f_X5_readPassed_0 (x0 : Nat) (x1 : Nat) (S : ZS) : Option (Int32 × ZS) :=
  m_chk (zK S x0 = 5) (
  m_cal (f_X5_skip x0 (45 : Int32) S) (fun o1 =>
  m_if (o1.1 = 0) (
  m_chk (zK o1.2 x0 = 5) (
  m_cal (zP o1.2 0 x0) (fun b2 =>
  m_chk (zK o1.2 x0 = 5) (
  m_chk (zK o1.2 b2 = 6) (
  m_cal (f_X6_at b2 (zI o1.2 1 x0) o1.2) (fun o3 =>
  m_chk (zK o3.2 x0 = 5) (
  m_cal (zP o3.2 0 x0) (fun b4 =>
  m_chk (zK o3.2 x0 = 5) (
  m_bnd ((zI o3.2 1 x0) + (1 : Int32)) (fun v5 =>
  m_chk (zK o3.2 b4 = 6) (
  m_cal (f_X6_at b4 v5 o3.2) (fun o6 =>
  m_cal (f_X11_squareOf o3.1 o6.1 o6.2) (fun o7 =>
  m_chk (zK o7.2 x1 = 0) (
  m_bnd (zsI o7.2 5 x1 o7.1) (fun S8 =>
  m_chk (zK S8 x0 = 5) (
  m_bnd ((zI S8 1 x0) + (2 : Int32)) (fun v9 =>
  m_chk (zK S8 x0 = 5) (
  m_bnd (zsI S8 1 x0 v9) (fun S10 =>
  m_chk (zK S10 x1 = 0) (
  m_if ((zI S10 5 x1) = (-1 : Int32)) (
  f_X5_readPassed_65 (0 : Int32) S10
  ) (
  f_X5_readPassed_65 (1 : Int32) S10
  ))))))))))))))))))))
  ) (
  m_chk (vp_nar .boolean (1 : Int32) = (1 : Int32)) (some ((1 : Int32), o1.2))
  )))

set_option maxRecDepth 100000 in
set_option maxHeartbeats 4000000 in
theorem w_X5_readPassed_0 {p : Program} {l : Launch} {e : Env} {s : State} {m : MethodId} {args : Array Value} {below : List Frame} {meth : Method} {c : Code} {Q : State → Prop} {D : va_G} {y : Nat → ClassId} {A0 : Nat → Prop} {o : Int32 × ZS} (X : CallFix p m c cX5_readPassed 2 s args wsX5_readPassed RX5) (hret : zRi p l e ({ frames := 2, cells := 0, slots := 0, locals := 42 } : Room) s m args below meth c Q cX5_readPassed D y A0 .boolean o) {x0 : Nat} {x1 : Nat} {S : ZS} {H : Heap} {locs : List Loc} {ls : Array Slot} (hf : f_X5_readPassed_0 x0 x1 S = some o) (hM : zH D y A0 s H locs S) (hl : lv_has ls 2 [(0, .ref (zh y x0)), (1, .ref (zh y x1))]) : W p l e ({ frames := 2, cells := 0, slots := 0, locals := 42 } : Room) s m args below meth c H locs 0 0 Q (F0 m 0 ls []) := by
  obtain ⟨hx, hb, hml, hown, hts⟩ := id X
  unfold f_X5_readPassed_0 at hf
  refine lv_aload_n hx hb dX5_readPassed_0 rfl (lv_at hl 0 rfl) ?_
  refine lv_bipush (v := (45 : Int32)) hx hb dX5_readPassed_1 (by decide) ?_
  obtain ⟨ca, hf⟩ := m_chkE hf
  replace ca := z_in hM (by decide) ca
  obtain ⟨o1, ho, hf⟩ := m_calE hf
  refine z_callVi (k := 5) (C := RX5) (T := TX5) (N := 2) (fl := zf_5) X hM rfl zc_5 ca (c_X5_skip ho) gX5_readPassed_X5_skip rfl ⟨rfl, rfl⟩ hd_X5_skip ⟨Nat.le_of_ble_eq_true rfl, Nat.le_of_ble_eq_true rfl⟩ rfl hl.1 rfl (Nat.le_of_ble_eq_true rfl) dX5_readPassed_3 (fun H locs hM => ?_)
  clear ho
  refine lv_if_eq (tgt := 11) hx hb dX5_readPassed_6 (by decide) (fun cc1 => ?_) (fun cc1 => ?_)
  · replace hf := m_ifT hf cc1
    refine lv_aload_n hx hb dX5_readPassed_11 rfl (lv_at hl 1 rfl) ?_
    refine lv_aload_n hx hb dX5_readPassed_12 rfl (lv_at hl 0 rfl) ?_
    obtain ⟨ca, hf⟩ := m_chkE hf
    replace ca := z_in hM (by decide) ca
    refine z_get (k := 5) (j := 0) (C := RX5) (T := TX5) (N := 2) (fl := zf_5) (v := va_rf ((zP o1.2 0 x0).map (zh y))) X hw_X5_readPassed_5 hM rfl zc_5 ca (by decide) fl_X5_readPassed_5_0 rfl dX5_readPassed_13 ?_
    clear ca
    obtain ⟨b2, hb9, hf⟩ := m_calE hf
    refine z_topr hb9 ?_
    clear hb9
    refine lv_aload_n hx hb dX5_readPassed_16 rfl (lv_at hl 0 rfl) ?_
    obtain ⟨ca, hf⟩ := m_chkE hf
    replace ca := z_in hM (by decide) ca
    refine z_get (k := 5) (j := 1) (C := RX5) (T := TX5) (N := 2) (fl := zf_5) (v := .int (zI o1.2 1 x0)) X hw_X5_readPassed_5 hM rfl zc_5 ca (by decide) fl_X5_readPassed_5_1 rfl dX5_readPassed_17 ?_
    clear ca
    obtain ⟨ca, hf⟩ := m_chkE hf
    replace ca := z_in hM (by decide) ca
    obtain ⟨o3, ho, hf⟩ := m_calE hf
    refine z_callVi (k := 6) (C := RX6) (T := TX6) (N := 2) (fl := zf_6) X hM rfl zc_6 ca (c_X6_at ho) gX5_readPassed_X6_at rfl ⟨rfl, rfl⟩ hd_X6_at ⟨Nat.le_of_ble_eq_true rfl, Nat.le_of_ble_eq_true rfl⟩ rfl hl.1 rfl (Nat.le_of_ble_eq_true rfl) dX5_readPassed_20 (fun H locs hM => ?_)
    clear ho
    refine lv_aload_n hx hb dX5_readPassed_23 rfl (lv_at hl 0 rfl) ?_
    obtain ⟨ca, hf⟩ := m_chkE hf
    replace ca := z_in hM (by decide) ca
    refine z_get (k := 5) (j := 0) (C := RX5) (T := TX5) (N := 2) (fl := zf_5) (v := va_rf ((zP o3.2 0 x0).map (zh y))) X hw_X5_readPassed_5 hM rfl zc_5 ca (by decide) fl_X5_readPassed_5_0 rfl dX5_readPassed_24 ?_
    clear ca
    obtain ⟨b4, hb9, hf⟩ := m_calE hf
    refine z_topr hb9 ?_
    clear hb9
    refine lv_aload_n hx hb dX5_readPassed_27 rfl (lv_at hl 0 rfl) ?_
    obtain ⟨ca, hf⟩ := m_chkE hf
    replace ca := z_in hM (by decide) ca
    refine z_get (k := 5) (j := 1) (C := RX5) (T := TX5) (N := 2) (fl := zf_5) (v := .int (zI o3.2 1 x0)) X hw_X5_readPassed_5 hM rfl zc_5 ca (by decide) fl_X5_readPassed_5_1 rfl dX5_readPassed_28 ?_
    clear ca
    refine lv_iconst (v := (1 : Int32)) hx hb dX5_readPassed_31 (by decide) ?_
    refine lv_iadd hx hb dX5_readPassed_32 ?_
    obtain ⟨v5, ev, hf⟩ := m_bndE hf
    refine m_top ev ?_
    clear ev
    obtain ⟨ca, hf⟩ := m_chkE hf
    replace ca := z_in hM (by decide) ca
    obtain ⟨o6, ho, hf⟩ := m_calE hf
    refine z_callVi (k := 6) (C := RX6) (T := TX6) (N := 2) (fl := zf_6) X hM rfl zc_6 ca (c_X6_at ho) gX5_readPassed_X6_at rfl ⟨rfl, rfl⟩ hd_X6_at ⟨Nat.le_of_ble_eq_true rfl, Nat.le_of_ble_eq_true rfl⟩ rfl hl.1 rfl (Nat.le_of_ble_eq_true rfl) dX5_readPassed_33 (fun H locs hM => ?_)
    clear ho
    obtain ⟨o7, ho, hf⟩ := m_calE hf
    refine z_callSNi X hM (c_X11_squareOf ho) gX5_readPassed_X11_squareOf_n102 nn_X5_readPassed_102.1.1 nn_X5_readPassed_102.1.2 nn_X5_readPassed_102.2 rfl ⟨rfl, rfl⟩ hd_X11_squareOf ⟨Nat.le_of_ble_eq_true rfl, Nat.le_of_ble_eq_true rfl⟩ rfl hl.1 rfl (Nat.le_of_ble_eq_true rfl) dX5_readPassed_36 (fun H locs hM => ?_)
    clear ho
    obtain ⟨ca, hf⟩ := m_chkE hf
    replace ca := z_in hM (by decide) ca
    refine z_putI (k := 0) (j := 5) (C := RX0) (T := TX0) (N := 7) (fl := zf_0) (ty := .int) X hw_X5_readPassed_0 tyX0_ok nmX0 hM rfl zc_0 ca (by decide) fl_X5_readPassed_0_5 rfl (tyX0_ok 5 (by decide)) rfl rfl zi_0_5 (Nat.le_of_ble_eq_true rfl) dX5_readPassed_39 (fun H locs hM => ?_)
    clear ca
    obtain ⟨S8, ev, hf⟩ := m_bndE hf
    replace hM := z_hS hM ev
    clear ev
    refine lv_aload_n hx hb dX5_readPassed_42 rfl (lv_at hl 0 rfl) ?_
    refine lv_dup hx hb dX5_readPassed_43 rfl ?_
    obtain ⟨ca, hf⟩ := m_chkE hf
    replace ca := z_in hM (by decide) ca
    refine z_get (k := 5) (j := 1) (C := RX5) (T := TX5) (N := 2) (fl := zf_5) (v := .int (zI S8 1 x0)) X hw_X5_readPassed_5 hM rfl zc_5 ca (by decide) fl_X5_readPassed_5_1 rfl dX5_readPassed_44 ?_
    clear ca
    refine lv_iconst (v := (2 : Int32)) hx hb dX5_readPassed_47 (by decide) ?_
    refine lv_iadd hx hb dX5_readPassed_48 ?_
    obtain ⟨v9, ev, hf⟩ := m_bndE hf
    refine m_top ev ?_
    clear ev
    obtain ⟨ca, hf⟩ := m_chkE hf
    replace ca := z_in hM (by decide) ca
    refine z_putI (k := 5) (j := 1) (C := RX5) (T := TX5) (N := 2) (fl := zf_5) (ty := .int) X hw_X5_readPassed_5 tyX5_ok nmX5 hM rfl zc_5 ca (by decide) fl_X5_readPassed_5_1 rfl (tyX5_ok 1 (by decide)) rfl rfl zi_5_1 (Nat.le_of_ble_eq_true rfl) dX5_readPassed_49 (fun H locs hM => ?_)
    clear ca
    obtain ⟨S10, ev, hf⟩ := m_bndE hf
    replace hM := z_hS hM ev
    clear ev
    refine lv_aload_n hx hb dX5_readPassed_52 rfl (lv_at hl 1 rfl) ?_
    obtain ⟨ca, hf⟩ := m_chkE hf
    replace ca := z_in hM (by decide) ca
    refine z_get (k := 0) (j := 5) (C := RX0) (T := TX0) (N := 7) (fl := zf_0) (v := .int (zI S10 5 x1)) X hw_X5_readPassed_0 hM rfl zc_0 ca (by decide) fl_X5_readPassed_0_5 rfl dX5_readPassed_53 ?_
    clear ca
    refine lv_iconst (v := (-1 : Int32)) hx hb dX5_readPassed_56 (by decide) ?_
    refine lv_icmp_eq (tgt := 64) hx hb dX5_readPassed_57 (by decide) (fun cc1 => ?_) (fun cc1 => ?_)
    · replace hf := m_ifT hf cc1
      refine lv_iconst (v := (0 : Int32)) hx hb dX5_readPassed_64 (by decide) ?_
      exact w_X5_readPassed_65 (t0 := (0 : Int32)) X hret hf hM (lv_sub hl [] rfl)
    · replace hf := m_ifF hf cc1
      refine lv_iconst (v := (1 : Int32)) hx hb dX5_readPassed_60 (by decide) ?_
      refine lv_goto (tgt := 65) hx hb dX5_readPassed_61 (by decide) ?_
      exact w_X5_readPassed_65 (t0 := (1 : Int32)) X hret hf hM (lv_sub hl [] rfl)
  · replace hf := m_ifF hf cc1
    refine lv_iconst (v := (1 : Int32)) hx hb dX5_readPassed_9 (by decide) ?_
    obtain ⟨cd, hf⟩ := m_chkE hf
    cases hf
    exact hret H locs _ ls hM (m_nb cd) dX5_readPassed_10
noncomputable def f_X5_readPassed (x0 : Nat) (x1 : Nat) (S : ZS) : Option (Int32 × ZS) := f_X5_readPassed_0 x0 x1 S
theorem c_X5_readPassed {l : Launch} {D : va_G} {y : Nat → ClassId} {x0 : Nat} {x1 : Nat} {S : ZS} {o : Int32 × ZS} (hf : f_X5_readPassed x0 x1 S = some o) : zMi l yX5_readPassed wsX5_readPassed ({ frames := 2, cells := 0, slots := 0, locals := 42 } : Room) [.ref (zh y x0), .ref (zh y x1)] D y S o :=
  z_entryI (own := RX5) (cc := cX5_readPassed) (maxL := 2) (by decide) rfl rfl (Nat.le_of_ble_eq_true rfl) (fun p e s m args below meth c A0 Q H locs ls X hret hM hl => w_X5_readPassed_0 X hret hf hM (lv_sub hl [0, 1] rfl))
theorem hd_X5_readNumber : yX5_readNumber.cls = RX5 ∧ yX5_readNumber.cls ≠ "java/lang/invoke/MethodHandle" ∧ yX5_readNumber.cls ≠ "java/lang/invoke/VarHandle" ∧ (parseMethodDescriptor yX5_readNumber.desc).map (fun d => d.parameters.length) = some 0 := by decide +kernel
theorem fl_X5_readNumber_5_0 : Cond.fieldLink RX5 12 "MoveTexts$PositionReader" "text" "LMoveTexts$Row;" ∈ wsX5_readNumber := by decide +kernel
theorem fl_X5_readNumber_5_1 : Cond.fieldLink RX5 18 "MoveTexts$PositionReader" "at" "I" ∈ wsX5_readNumber := by decide +kernel
theorem hw_X5_readNumber_5 : ∀ w ∈ wsX50, w ∈ wsX5_readNumber := by decide +kernel
theorem nn_X5_readNumber_109 : ((RX5, 109, yX11_isDigit, "MoveTexts") ∈ zNW ∧ Cond.initialized yX11_isDigit.cls ∈ wsX5_readNumber) ∧ Cond.static yX11_isDigit ∈ wsX5_readNumber := by decide +kernel
noncomputable def f_X5_readNumber_113 (t0 : Int32) (S : ZS) : Option (Int32 × ZS) :=
  some (t0, S)

set_option maxRecDepth 100000 in
set_option maxHeartbeats 4000000 in
theorem w_X5_readNumber_113 {p : Program} {l : Launch} {e : Env} {s : State} {m : MethodId} {args : Array Value} {below : List Frame} {meth : Method} {c : Code} {Q : State → Prop} {D : va_G} {y : Nat → ClassId} {A0 : Nat → Prop} {o : Int32 × ZS} (X : CallFix p m c cX5_readNumber 4 s args wsX5_readNumber RX5) (hret : zRi p l e ({ frames := 1, cells := 0, slots := 0, locals := 21 } : Room) s m args below meth c Q cX5_readNumber D y A0 .int o) {t0 : Int32} {S : ZS} {H : Heap} {locs : List Loc} {ls : Array Slot} (hf : f_X5_readNumber_113 t0 S = some o) (hM : zH D y A0 s H locs S) (hl : lv_has ls 4 []) : W p l e ({ frames := 1, cells := 0, slots := 0, locals := 21 } : Room) s m args below meth c H locs 0 0 Q (F0 m 113 ls [.int t0]) := by
  obtain ⟨hx, hb, hml, hown, hts⟩ := id X
  unfold f_X5_readNumber_113 at hf
  cases hf
  exact hret H locs _ ls hM rfl dX5_readNumber_113
noncomputable def f_X5_readNumber_108 (S : ZS) : Option (Int32 × ZS) :=
  f_X5_readNumber_113 (-1 : Int32) S

set_option maxRecDepth 100000 in
set_option maxHeartbeats 4000000 in
theorem w_X5_readNumber_108 {p : Program} {l : Launch} {e : Env} {s : State} {m : MethodId} {args : Array Value} {below : List Frame} {meth : Method} {c : Code} {Q : State → Prop} {D : va_G} {y : Nat → ClassId} {A0 : Nat → Prop} {o : Int32 × ZS} (X : CallFix p m c cX5_readNumber 4 s args wsX5_readNumber RX5) (hret : zRi p l e ({ frames := 1, cells := 0, slots := 0, locals := 21 } : Room) s m args below meth c Q cX5_readNumber D y A0 .int o) {S : ZS} {H : Heap} {locs : List Loc} {ls : Array Slot} (hf : f_X5_readNumber_108  S = some o) (hM : zH D y A0 s H locs S) (hl : lv_has ls 4 []) : W p l e ({ frames := 1, cells := 0, slots := 0, locals := 21 } : Room) s m args below meth c H locs 0 0 Q (F0 m 108 ls []) := by
  obtain ⟨hx, hb, hml, hown, hts⟩ := id X
  unfold f_X5_readNumber_108 at hf
  refine lv_iconst (v := (-1 : Int32)) hx hb dX5_readNumber_108 (by decide) ?_
  refine lv_goto (tgt := 113) hx hb dX5_readNumber_109 (by decide) ?_
  exact w_X5_readNumber_113 (t0 := (-1 : Int32)) X hret hf hM (lv_sub hl [] rfl)
noncomputable def f_X5_readNumber_95 (x0 : Nat) (x1 : Int32) (x2 : Int32) (t0 : Int32) (S : ZS) : Option (Int32 × ZS) :=
  m_chk (zK S x0 = 5) (
  m_if ((zI S 1 x0) = x1) (
  f_X5_readNumber_108  S
  ) (
  m_if (t0 = 0) (
  f_X5_readNumber_113 x2 S
  ) (
  f_X5_readNumber_108  S
  )
  ))

set_option maxRecDepth 100000 in
set_option maxHeartbeats 4000000 in
theorem w_X5_readNumber_95 {p : Program} {l : Launch} {e : Env} {s : State} {m : MethodId} {args : Array Value} {below : List Frame} {meth : Method} {c : Code} {Q : State → Prop} {D : va_G} {y : Nat → ClassId} {A0 : Nat → Prop} {o : Int32 × ZS} (X : CallFix p m c cX5_readNumber 4 s args wsX5_readNumber RX5) (hret : zRi p l e ({ frames := 1, cells := 0, slots := 0, locals := 21 } : Room) s m args below meth c Q cX5_readNumber D y A0 .int o) {x0 : Nat} {x1 : Int32} {x2 : Int32} {t0 : Int32} {S : ZS} {H : Heap} {locs : List Loc} {ls : Array Slot} (hf : f_X5_readNumber_95 x0 x1 x2 t0 S = some o) (hM : zH D y A0 s H locs S) (hl : lv_has ls 4 [(0, .ref (zh y x0)), (1, .int x1), (2, .int x2)]) : W p l e ({ frames := 1, cells := 0, slots := 0, locals := 21 } : Room) s m args below meth c H locs 0 0 Q (F0 m 95 ls [.int t0]) := by
  obtain ⟨hx, hb, hml, hown, hts⟩ := id X
  unfold f_X5_readNumber_95 at hf
  refine lv_istore_n (lv' := [(3, .int t0), (0, .ref (zh y x0)), (1, .int x1), (2, .int x2)]) hx hb dX5_readNumber_95 rfl hl (by decide) rfl (fun ls hl => ?_)
  refine lv_aload_n hx hb dX5_readNumber_96 rfl (lv_at hl 1 rfl) ?_
  obtain ⟨ca, hf⟩ := m_chkE hf
  replace ca := z_in hM (by decide) ca
  refine z_get (k := 5) (j := 1) (C := RX5) (T := TX5) (N := 2) (fl := zf_5) (v := .int (zI S 1 x0)) X hw_X5_readNumber_5 hM rfl zc_5 ca (by decide) fl_X5_readNumber_5_1 rfl dX5_readNumber_97 ?_
  clear ca
  refine lv_iload_n hx hb dX5_readNumber_100 rfl (lv_at hl 2 rfl) ?_
  refine lv_icmp_eq (tgt := 108) hx hb dX5_readNumber_101 (by decide) (fun cc1 => ?_) (fun cc1 => ?_)
  · replace hf := m_ifT hf cc1
    exact w_X5_readNumber_108 X hret hf hM (lv_sub hl [] rfl)
  · replace hf := m_ifF hf cc1
    refine lv_iload_n hx hb dX5_readNumber_104 rfl (lv_at hl 0 rfl) ?_
    refine lv_if_eq (tgt := 112) hx hb dX5_readNumber_105 (by decide) (fun cc1 => ?_) (fun cc1 => ?_)
    · replace hf := m_ifT hf cc1
      refine lv_iload_n hx hb dX5_readNumber_112 rfl (lv_at hl 3 rfl) ?_
      exact w_X5_readNumber_113 (t0 := x2) X hret hf hM (lv_sub hl [] rfl)
    · replace hf := m_ifF hf cc1
      exact w_X5_readNumber_108 X hret hf hM (lv_sub hl [] rfl)
noncomputable def f_X5_readNumber_94 (x0 : Nat) (x1 : Int32) (x2 : Int32) (S : ZS) : Option (Int32 × ZS) :=
  f_X5_readNumber_95 x0 x1 x2 (0 : Int32) S

set_option maxRecDepth 100000 in
set_option maxHeartbeats 4000000 in
theorem w_X5_readNumber_94 {p : Program} {l : Launch} {e : Env} {s : State} {m : MethodId} {args : Array Value} {below : List Frame} {meth : Method} {c : Code} {Q : State → Prop} {D : va_G} {y : Nat → ClassId} {A0 : Nat → Prop} {o : Int32 × ZS} (X : CallFix p m c cX5_readNumber 4 s args wsX5_readNumber RX5) (hret : zRi p l e ({ frames := 1, cells := 0, slots := 0, locals := 21 } : Room) s m args below meth c Q cX5_readNumber D y A0 .int o) {x0 : Nat} {x1 : Int32} {x2 : Int32} {S : ZS} {H : Heap} {locs : List Loc} {ls : Array Slot} (hf : f_X5_readNumber_94 x0 x1 x2 S = some o) (hM : zH D y A0 s H locs S) (hl : lv_has ls 4 [(0, .ref (zh y x0)), (1, .int x1), (2, .int x2)]) : W p l e ({ frames := 1, cells := 0, slots := 0, locals := 21 } : Room) s m args below meth c H locs 0 0 Q (F0 m 94 ls []) := by
  obtain ⟨hx, hb, hml, hown, hts⟩ := id X
  unfold f_X5_readNumber_94 at hf
  refine lv_iconst (v := (0 : Int32)) hx hb dX5_readNumber_94 (by decide) ?_
  exact w_X5_readNumber_95 (x0 := x0) (x1 := x1) (x2 := x2) (t0 := (0 : Int32)) X hret hf hM (lv_sub hl [0, 1, 2] rfl)
noncomputable def f_X5_readNumber_67 (x0 : Nat) (x1 : Int32) (x2 : Int32) (S : ZS) : Option (Int32 × ZS) :=
  m_chk (zK S x0 = 5) (
  m_cal (zP S 0 x0) (fun b1 =>
  m_chk (zK S b1 = 6) (
  m_cal (f_X6_at b1 x1 S) (fun o2 =>
  m_if (o2.1 = (48 : Int32)) (
  m_chk (zK o2.2 x0 = 5) (
  m_bnd (x1 + (1 : Int32)) (fun v3 =>
  m_if ((zI o2.2 1 x0) ≤ v3) (
  f_X5_readNumber_94 x0 x1 x2 o2.2
  ) (
  f_X5_readNumber_95 x0 x1 x2 (1 : Int32) o2.2
  )))
  ) (
  f_X5_readNumber_94 x0 x1 x2 o2.2
  )))))

set_option maxRecDepth 100000 in
set_option maxHeartbeats 4000000 in
theorem w_X5_readNumber_67 {p : Program} {l : Launch} {e : Env} {s : State} {m : MethodId} {args : Array Value} {below : List Frame} {meth : Method} {c : Code} {Q : State → Prop} {D : va_G} {y : Nat → ClassId} {A0 : Nat → Prop} {o : Int32 × ZS} (X : CallFix p m c cX5_readNumber 4 s args wsX5_readNumber RX5) (hret : zRi p l e ({ frames := 1, cells := 0, slots := 0, locals := 21 } : Room) s m args below meth c Q cX5_readNumber D y A0 .int o) {x0 : Nat} {x1 : Int32} {x2 : Int32} {S : ZS} {H : Heap} {locs : List Loc} {ls : Array Slot} (hf : f_X5_readNumber_67 x0 x1 x2 S = some o) (hM : zH D y A0 s H locs S) (hl : lv_has ls 4 [(0, .ref (zh y x0)), (1, .int x1), (2, .int x2)]) : W p l e ({ frames := 1, cells := 0, slots := 0, locals := 21 } : Room) s m args below meth c H locs 0 0 Q (F0 m 67 ls []) := by
  obtain ⟨hx, hb, hml, hown, hts⟩ := id X
  unfold f_X5_readNumber_67 at hf
  refine lv_aload_n hx hb dX5_readNumber_67 rfl (lv_at hl 0 rfl) ?_
  obtain ⟨ca, hf⟩ := m_chkE hf
  replace ca := z_in hM (by decide) ca
  refine z_get (k := 5) (j := 0) (C := RX5) (T := TX5) (N := 2) (fl := zf_5) (v := va_rf ((zP S 0 x0).map (zh y))) X hw_X5_readNumber_5 hM rfl zc_5 ca (by decide) fl_X5_readNumber_5_0 rfl dX5_readNumber_68 ?_
  clear ca
  obtain ⟨b1, hb9, hf⟩ := m_calE hf
  refine z_topr hb9 ?_
  clear hb9
  refine lv_iload_n hx hb dX5_readNumber_71 rfl (lv_at hl 1 rfl) ?_
  obtain ⟨ca, hf⟩ := m_chkE hf
  replace ca := z_in hM (by decide) ca
  obtain ⟨o2, ho, hf⟩ := m_calE hf
  refine z_callVi (k := 6) (C := RX6) (T := TX6) (N := 2) (fl := zf_6) X hM rfl zc_6 ca (c_X6_at ho) gX5_readNumber_X6_at rfl ⟨rfl, rfl⟩ hd_X6_at ⟨Nat.le_of_ble_eq_true rfl, Nat.le_of_ble_eq_true rfl⟩ rfl hl.1 rfl (Nat.le_of_ble_eq_true rfl) dX5_readNumber_72 (fun H locs hM => ?_)
  clear ho
  refine lv_bipush (v := (48 : Int32)) hx hb dX5_readNumber_75 (by decide) ?_
  refine lv_icmp_ne (tgt := 94) hx hb dX5_readNumber_77 (by decide) (fun cc1 => ?_) (fun cc1 => ?_)
  · replace hf := m_ifF hf cc1
    exact w_X5_readNumber_94 (x0 := x0) (x1 := x1) (x2 := x2) X hret hf hM (lv_sub hl [0, 1, 2] rfl)
  · replace hf := m_ifT hf cc1
    refine lv_aload_n hx hb dX5_readNumber_80 rfl (lv_at hl 0 rfl) ?_
    obtain ⟨ca, hf⟩ := m_chkE hf
    replace ca := z_in hM (by decide) ca
    refine z_get (k := 5) (j := 1) (C := RX5) (T := TX5) (N := 2) (fl := zf_5) (v := .int (zI o2.2 1 x0)) X hw_X5_readNumber_5 hM rfl zc_5 ca (by decide) fl_X5_readNumber_5_1 rfl dX5_readNumber_81 ?_
    clear ca
    refine lv_iload_n hx hb dX5_readNumber_84 rfl (lv_at hl 1 rfl) ?_
    refine lv_iconst (v := (1 : Int32)) hx hb dX5_readNumber_85 (by decide) ?_
    refine lv_iadd hx hb dX5_readNumber_86 ?_
    obtain ⟨v3, ev, hf⟩ := m_bndE hf
    refine m_top ev ?_
    clear ev
    refine lv_icmp_le (tgt := 94) hx hb dX5_readNumber_87 (by decide) (fun cc1 => ?_) (fun cc1 => ?_)
    · replace hf := m_ifT hf cc1
      exact w_X5_readNumber_94 (x0 := x0) (x1 := x1) (x2 := x2) X hret hf hM (lv_sub hl [0, 1, 2] rfl)
    · replace hf := m_ifF hf cc1
      refine lv_iconst (v := (1 : Int32)) hx hb dX5_readNumber_90 (by decide) ?_
      refine lv_goto (tgt := 95) hx hb dX5_readNumber_91 (by decide) ?_
      exact w_X5_readNumber_95 (x0 := x0) (x1 := x1) (x2 := x2) (t0 := (1 : Int32)) X hret hf hM (lv_sub hl [0, 1, 2] rfl)
noncomputable def f_X5_readNumber_7s (self7 : Nat → Int32 → Int32 → ZS → Option (Int32 × ZS)) (x0 : Nat) (x1 : Int32) (x2 : Int32) (S : ZS) : Option (Int32 × ZS) :=
  m_chk (zK S x0 = 5) (
  m_bnd (x1 + (3 : Int32)) (fun v1 =>
  m_if (v1 ≤ (zI S 1 x0)) (
  f_X5_readNumber_67 x0 x1 x2 S
  ) (
  m_chk (zK S x0 = 5) (
  m_cal (zP S 0 x0) (fun b2 =>
  m_chk (zK S x0 = 5) (
  m_chk (zK S b2 = 6) (
  m_cal (f_X6_at b2 (zI S 1 x0) S) (fun o3 =>
  m_cal (f_X11_isDigit o3.1 o3.2) (fun o4 =>
  m_if (o4.1 = 0) (
  f_X5_readNumber_67 x0 x1 x2 o4.2
  ) (
  m_bnd ((10 : Int32) * x2) (fun v5 =>
  m_chk (zK o4.2 x0 = 5) (
  m_cal (zP o4.2 0 x0) (fun b6 =>
  m_chk (zK o4.2 x0 = 5) (
  m_chk (zK o4.2 b6 = 6) (
  m_cal (f_X6_at b6 (zI o4.2 1 x0) o4.2) (fun o7 =>
  m_bnd (v5 + o7.1) (fun v8 =>
  m_bnd (v8 - (48 : Int32)) (fun v9 =>
  m_chk (zK o7.2 x0 = 5) (
  m_bnd ((zI o7.2 1 x0) + (1 : Int32)) (fun v10 =>
  m_chk (zK o7.2 x0 = 5) (
  m_bnd (zsI o7.2 1 x0 v10) (fun S11 =>
  self7 x0 x1 v9 S11))))))))))))
  )))))))
  )))

set_option maxRecDepth 100000 in
set_option maxHeartbeats 4000000 in
theorem ws_X5_readNumber_7 {p : Program} {l : Launch} {e : Env} {s : State} {m : MethodId} {args : Array Value} {below : List Frame} {meth : Method} {c : Code} {Q : State → Prop} {D : va_G} {y : Nat → ClassId} {A0 : Nat → Prop} {o : Int32 × ZS} (X : CallFix p m c cX5_readNumber 4 s args wsX5_readNumber RX5) (hret : zRi p l e ({ frames := 1, cells := 0, slots := 0, locals := 21 } : Room) s m args below meth c Q cX5_readNumber D y A0 .int o) {self7 : Nat → Int32 → Int32 → ZS → Option (Int32 × ZS)} (hself7 : ∀ (x0 : Nat) (x1 : Int32) (x2 : Int32) (S : ZS) (H : Heap) (locs : List Loc) (ls : Array Slot), self7 x0 x1 x2 S = some o → zH D y A0 s H locs S → lv_has ls 4 [(0, .ref (zh y x0)), (1, .int x1), (2, .int x2)] → W p l e ({ frames := 1, cells := 0, slots := 0, locals := 21 } : Room) s m args below meth c H locs 0 0 Q (F0 m 7 ls [])) {x0 : Nat} {x1 : Int32} {x2 : Int32} {S : ZS} {H : Heap} {locs : List Loc} {ls : Array Slot} (hf : f_X5_readNumber_7s self7 x0 x1 x2 S = some o) (hM : zH D y A0 s H locs S) (hl : lv_has ls 4 [(0, .ref (zh y x0)), (1, .int x1), (2, .int x2)]) : W p l e ({ frames := 1, cells := 0, slots := 0, locals := 21 } : Room) s m args below meth c H locs 0 0 Q (F0 m 7 ls []) := by
  obtain ⟨hx, hb, hml, hown, hts⟩ := id X
  unfold f_X5_readNumber_7s at hf
  refine lv_aload_n hx hb dX5_readNumber_7 rfl (lv_at hl 0 rfl) ?_
  obtain ⟨ca, hf⟩ := m_chkE hf
  replace ca := z_in hM (by decide) ca
  refine z_get (k := 5) (j := 1) (C := RX5) (T := TX5) (N := 2) (fl := zf_5) (v := .int (zI S 1 x0)) X hw_X5_readNumber_5 hM rfl zc_5 ca (by decide) fl_X5_readNumber_5_1 rfl dX5_readNumber_8 ?_
  clear ca
  refine lv_iload_n hx hb dX5_readNumber_11 rfl (lv_at hl 1 rfl) ?_
  refine lv_iconst (v := (3 : Int32)) hx hb dX5_readNumber_12 (by decide) ?_
  refine lv_iadd hx hb dX5_readNumber_13 ?_
  obtain ⟨v1, ev, hf⟩ := m_bndE hf
  refine m_top ev ?_
  clear ev
  refine lv_icmp_ge (tgt := 67) hx hb dX5_readNumber_14 (by decide) (fun cc1 => ?_) (fun cc1 => ?_)
  · replace hf := m_ifT hf cc1
    exact w_X5_readNumber_67 (x0 := x0) (x1 := x1) (x2 := x2) X hret hf hM (lv_sub hl [0, 1, 2] rfl)
  · replace hf := m_ifF hf cc1
    refine lv_aload_n hx hb dX5_readNumber_17 rfl (lv_at hl 0 rfl) ?_
    obtain ⟨ca, hf⟩ := m_chkE hf
    replace ca := z_in hM (by decide) ca
    refine z_get (k := 5) (j := 0) (C := RX5) (T := TX5) (N := 2) (fl := zf_5) (v := va_rf ((zP S 0 x0).map (zh y))) X hw_X5_readNumber_5 hM rfl zc_5 ca (by decide) fl_X5_readNumber_5_0 rfl dX5_readNumber_18 ?_
    clear ca
    obtain ⟨b2, hb9, hf⟩ := m_calE hf
    refine z_topr hb9 ?_
    clear hb9
    refine lv_aload_n hx hb dX5_readNumber_21 rfl (lv_at hl 0 rfl) ?_
    obtain ⟨ca, hf⟩ := m_chkE hf
    replace ca := z_in hM (by decide) ca
    refine z_get (k := 5) (j := 1) (C := RX5) (T := TX5) (N := 2) (fl := zf_5) (v := .int (zI S 1 x0)) X hw_X5_readNumber_5 hM rfl zc_5 ca (by decide) fl_X5_readNumber_5_1 rfl dX5_readNumber_22 ?_
    clear ca
    obtain ⟨ca, hf⟩ := m_chkE hf
    replace ca := z_in hM (by decide) ca
    obtain ⟨o3, ho, hf⟩ := m_calE hf
    refine z_callVi (k := 6) (C := RX6) (T := TX6) (N := 2) (fl := zf_6) X hM rfl zc_6 ca (c_X6_at ho) gX5_readNumber_X6_at rfl ⟨rfl, rfl⟩ hd_X6_at ⟨Nat.le_of_ble_eq_true rfl, Nat.le_of_ble_eq_true rfl⟩ rfl hl.1 rfl (Nat.le_of_ble_eq_true rfl) dX5_readNumber_25 (fun H locs hM => ?_)
    clear ho
    obtain ⟨o4, ho, hf⟩ := m_calE hf
    refine z_callSNi X hM (c_X11_isDigit ho) gX5_readNumber_X11_isDigit_n109 nn_X5_readNumber_109.1.1 nn_X5_readNumber_109.1.2 nn_X5_readNumber_109.2 rfl ⟨rfl, rfl⟩ hd_X11_isDigit ⟨Nat.le_of_ble_eq_true rfl, Nat.le_of_ble_eq_true rfl⟩ rfl hl.1 rfl (Nat.le_of_ble_eq_true rfl) dX5_readNumber_28 (fun H locs hM => ?_)
    clear ho
    refine lv_if_eq (tgt := 67) hx hb dX5_readNumber_31 (by decide) (fun cc1 => ?_) (fun cc1 => ?_)
    · replace hf := m_ifT hf cc1
      exact w_X5_readNumber_67 (x0 := x0) (x1 := x1) (x2 := x2) X hret hf hM (lv_sub hl [0, 1, 2] rfl)
    · replace hf := m_ifF hf cc1
      refine lv_bipush (v := (10 : Int32)) hx hb dX5_readNumber_34 (by decide) ?_
      refine lv_iload_n hx hb dX5_readNumber_36 rfl (lv_at hl 2 rfl) ?_
      refine lv_imul hx hb dX5_readNumber_37 ?_
      obtain ⟨v5, ev, hf⟩ := m_bndE hf
      refine m_top ev ?_
      clear ev
      refine lv_aload_n hx hb dX5_readNumber_38 rfl (lv_at hl 0 rfl) ?_
      obtain ⟨ca, hf⟩ := m_chkE hf
      replace ca := z_in hM (by decide) ca
      refine z_get (k := 5) (j := 0) (C := RX5) (T := TX5) (N := 2) (fl := zf_5) (v := va_rf ((zP o4.2 0 x0).map (zh y))) X hw_X5_readNumber_5 hM rfl zc_5 ca (by decide) fl_X5_readNumber_5_0 rfl dX5_readNumber_39 ?_
      clear ca
      obtain ⟨b6, hb9, hf⟩ := m_calE hf
      refine z_topr hb9 ?_
      clear hb9
      refine lv_aload_n hx hb dX5_readNumber_42 rfl (lv_at hl 0 rfl) ?_
      obtain ⟨ca, hf⟩ := m_chkE hf
      replace ca := z_in hM (by decide) ca
      refine z_get (k := 5) (j := 1) (C := RX5) (T := TX5) (N := 2) (fl := zf_5) (v := .int (zI o4.2 1 x0)) X hw_X5_readNumber_5 hM rfl zc_5 ca (by decide) fl_X5_readNumber_5_1 rfl dX5_readNumber_43 ?_
      clear ca
      obtain ⟨ca, hf⟩ := m_chkE hf
      replace ca := z_in hM (by decide) ca
      obtain ⟨o7, ho, hf⟩ := m_calE hf
      refine z_callVi (k := 6) (C := RX6) (T := TX6) (N := 2) (fl := zf_6) X hM rfl zc_6 ca (c_X6_at ho) gX5_readNumber_X6_at rfl ⟨rfl, rfl⟩ hd_X6_at ⟨Nat.le_of_ble_eq_true rfl, Nat.le_of_ble_eq_true rfl⟩ rfl hl.1 rfl (Nat.le_of_ble_eq_true rfl) dX5_readNumber_46 (fun H locs hM => ?_)
      clear ho
      refine lv_iadd hx hb dX5_readNumber_49 ?_
      obtain ⟨v8, ev, hf⟩ := m_bndE hf
      refine m_top ev ?_
      clear ev
      refine lv_bipush (v := (48 : Int32)) hx hb dX5_readNumber_50 (by decide) ?_
      refine lv_isub hx hb dX5_readNumber_52 ?_
      obtain ⟨v9, ev, hf⟩ := m_bndE hf
      refine m_top ev ?_
      clear ev
      refine lv_istore_n (lv' := [(2, .int v9), (0, .ref (zh y x0)), (1, .int x1)]) hx hb dX5_readNumber_53 rfl hl (by decide) rfl (fun ls hl => ?_)
      refine lv_aload_n hx hb dX5_readNumber_54 rfl (lv_at hl 1 rfl) ?_
      refine lv_dup hx hb dX5_readNumber_55 rfl ?_
      obtain ⟨ca, hf⟩ := m_chkE hf
      replace ca := z_in hM (by decide) ca
      refine z_get (k := 5) (j := 1) (C := RX5) (T := TX5) (N := 2) (fl := zf_5) (v := .int (zI o7.2 1 x0)) X hw_X5_readNumber_5 hM rfl zc_5 ca (by decide) fl_X5_readNumber_5_1 rfl dX5_readNumber_56 ?_
      clear ca
      refine lv_iconst (v := (1 : Int32)) hx hb dX5_readNumber_59 (by decide) ?_
      refine lv_iadd hx hb dX5_readNumber_60 ?_
      obtain ⟨v10, ev, hf⟩ := m_bndE hf
      refine m_top ev ?_
      clear ev
      obtain ⟨ca, hf⟩ := m_chkE hf
      replace ca := z_in hM (by decide) ca
      refine z_putI (k := 5) (j := 1) (C := RX5) (T := TX5) (N := 2) (fl := zf_5) (ty := .int) X hw_X5_readNumber_5 tyX5_ok nmX5 hM rfl zc_5 ca (by decide) fl_X5_readNumber_5_1 rfl (tyX5_ok 1 (by decide)) rfl rfl zi_5_1 (Nat.le_of_ble_eq_true rfl) dX5_readNumber_61 (fun H locs hM => ?_)
      clear ca
      obtain ⟨S11, ev, hf⟩ := m_bndE hf
      replace hM := z_hS hM ev
      clear ev
      refine lv_goto (tgt := 7) hx hb dX5_readNumber_64 (by decide) ?_
      exact hself7 x0 x1 v9 _ _ _ _ hf hM (lv_sub hl [1, 2, 0] rfl)
noncomputable def f_X5_readNumber_7 : Nat → Nat → Int32 → Int32 → ZS → Option (Int32 × ZS)
  | 0 => fun _ _ _ _ => none
  | n + 1 => f_X5_readNumber_7s (f_X5_readNumber_7 n)
theorem w_X5_readNumber_7 {p : Program} {l : Launch} {e : Env} {s : State} {m : MethodId} {args : Array Value} {below : List Frame} {meth : Method} {c : Code} {Q : State → Prop} {D : va_G} {y : Nat → ClassId} {A0 : Nat → Prop} {o : Int32 × ZS} (X : CallFix p m c cX5_readNumber 4 s args wsX5_readNumber RX5) (hret : zRi p l e ({ frames := 1, cells := 0, slots := 0, locals := 21 } : Room) s m args below meth c Q cX5_readNumber D y A0 .int o) (n : Nat) : ∀ (x0 : Nat) (x1 : Int32) (x2 : Int32) (S : ZS) (H : Heap) (locs : List Loc) (ls : Array Slot), f_X5_readNumber_7 n x0 x1 x2 S = some o → zH D y A0 s H locs S → lv_has ls 4 [(0, .ref (zh y x0)), (1, .int x1), (2, .int x2)] → W p l e ({ frames := 1, cells := 0, slots := 0, locals := 21 } : Room) s m args below meth c H locs 0 0 Q (F0 m 7 ls []) := by
  induction n with
  | zero => intro x0 x1 x2 S H locs ls hf; cases hf
  | succ n ih => intro x0 x1 x2 S H locs ls hf hM hl; exact ws_X5_readNumber_7 X hret (self7 := f_X5_readNumber_7 n) ih hf hM hl
noncomputable def f_X5_readNumber_0 (x0 : Nat) (S : ZS) : Option (Int32 × ZS) :=
  m_chk (zK S x0 = 5) (
  f_X5_readNumber_7 mFuel x0 (zI S 1 x0) (0 : Int32) S)

set_option maxRecDepth 100000 in
set_option maxHeartbeats 4000000 in
theorem w_X5_readNumber_0 {p : Program} {l : Launch} {e : Env} {s : State} {m : MethodId} {args : Array Value} {below : List Frame} {meth : Method} {c : Code} {Q : State → Prop} {D : va_G} {y : Nat → ClassId} {A0 : Nat → Prop} {o : Int32 × ZS} (X : CallFix p m c cX5_readNumber 4 s args wsX5_readNumber RX5) (hret : zRi p l e ({ frames := 1, cells := 0, slots := 0, locals := 21 } : Room) s m args below meth c Q cX5_readNumber D y A0 .int o) {x0 : Nat} {S : ZS} {H : Heap} {locs : List Loc} {ls : Array Slot} (hf : f_X5_readNumber_0 x0 S = some o) (hM : zH D y A0 s H locs S) (hl : lv_has ls 4 [(0, .ref (zh y x0))]) : W p l e ({ frames := 1, cells := 0, slots := 0, locals := 21 } : Room) s m args below meth c H locs 0 0 Q (F0 m 0 ls []) := by
  obtain ⟨hx, hb, hml, hown, hts⟩ := id X
  unfold f_X5_readNumber_0 at hf
  refine lv_aload_n hx hb dX5_readNumber_0 rfl (lv_at hl 0 rfl) ?_
  obtain ⟨ca, hf⟩ := m_chkE hf
  replace ca := z_in hM (by decide) ca
  refine z_get (k := 5) (j := 1) (C := RX5) (T := TX5) (N := 2) (fl := zf_5) (v := .int (zI S 1 x0)) X hw_X5_readNumber_5 hM rfl zc_5 ca (by decide) fl_X5_readNumber_5_1 rfl dX5_readNumber_1 ?_
  clear ca
  refine lv_istore_n (lv' := [(1, .int (zI S 1 x0)), (0, .ref (zh y x0))]) hx hb dX5_readNumber_4 rfl hl (by decide) rfl (fun ls hl => ?_)
  refine lv_iconst (v := (0 : Int32)) hx hb dX5_readNumber_5 (by decide) ?_
  refine lv_istore_n (lv' := [(2, .int (0 : Int32)), (1, .int (zI S 1 x0)), (0, .ref (zh y x0))]) hx hb dX5_readNumber_6 rfl hl (by decide) rfl (fun ls hl => ?_)
  exact w_X5_readNumber_7 X hret _ x0 (zI S 1 x0) (0 : Int32) _ _ _ _ hf hM (lv_sub hl [2, 1, 0] rfl)
noncomputable def f_X5_readNumber (x0 : Nat) (S : ZS) : Option (Int32 × ZS) := f_X5_readNumber_0 x0 S
theorem c_X5_readNumber {l : Launch} {D : va_G} {y : Nat → ClassId} {x0 : Nat} {S : ZS} {o : Int32 × ZS} (hf : f_X5_readNumber x0 S = some o) : zMi l yX5_readNumber wsX5_readNumber ({ frames := 1, cells := 0, slots := 0, locals := 21 } : Room) [.ref (zh y x0)] D y S o :=
  z_entryI (own := RX5) (cc := cX5_readNumber) (maxL := 4) (by decide) rfl rfl (Nat.le_of_ble_eq_true rfl) (fun p e s m args below meth c A0 Q H locs ls X hret hM hl => w_X5_readNumber_0 X hret hf hM (lv_sub hl [0] rfl))
theorem hd_X5_readMoveNumber : yX5_readMoveNumber.cls = RX5 ∧ yX5_readMoveNumber.cls ≠ "java/lang/invoke/MethodHandle" ∧ yX5_readMoveNumber.cls ≠ "java/lang/invoke/VarHandle" ∧ (parseMethodDescriptor yX5_readMoveNumber.desc).map (fun d => d.parameters.length) = some 1 := by decide +kernel
theorem fl_X5_readMoveNumber_0_6 : Cond.fieldLink RX5 112 "MoveTexts$Board" "number" "I" ∈ wsX5_readMoveNumber := by decide +kernel
theorem hw_X5_readMoveNumber_0 : ∀ w ∈ wsX00, w ∈ wsX5_readMoveNumber := by decide +kernel
noncomputable def f_X5_readMoveNumber_20 (t0 : Int32) (S : ZS) : Option (Int32 × ZS) :=
  m_chk (vp_nar .boolean t0 = t0) (some (t0, S))

set_option maxRecDepth 100000 in
set_option maxHeartbeats 4000000 in
theorem w_X5_readMoveNumber_20 {p : Program} {l : Launch} {e : Env} {s : State} {m : MethodId} {args : Array Value} {below : List Frame} {meth : Method} {c : Code} {Q : State → Prop} {D : va_G} {y : Nat → ClassId} {A0 : Nat → Prop} {o : Int32 × ZS} (X : CallFix p m c cX5_readMoveNumber 2 s args wsX5_readMoveNumber RX5) (hret : zRi p l e ({ frames := 2, cells := 0, slots := 0, locals := 44 } : Room) s m args below meth c Q cX5_readMoveNumber D y A0 .boolean o) {t0 : Int32} {S : ZS} {H : Heap} {locs : List Loc} {ls : Array Slot} (hf : f_X5_readMoveNumber_20 t0 S = some o) (hM : zH D y A0 s H locs S) (hl : lv_has ls 2 []) : W p l e ({ frames := 2, cells := 0, slots := 0, locals := 44 } : Room) s m args below meth c H locs 0 0 Q (F0 m 20 ls [.int t0]) := by
  obtain ⟨hx, hb, hml, hown, hts⟩ := id X
  unfold f_X5_readMoveNumber_20 at hf
  obtain ⟨cd, hf⟩ := m_chkE hf
  cases hf
  exact hret H locs _ ls hM (m_nb cd) dX5_readMoveNumber_20
noncomputable def f_X5_readMoveNumber_0 (x0 : Nat) (x1 : Nat) (S : ZS) : Option (Int32 × ZS) :=
  m_chk (zK S x0 = 5) (
  m_cal (f_X5_readNumber x0 S) (fun o1 =>
  m_chk (zK o1.2 x1 = 0) (
  m_bnd (zsI o1.2 6 x1 o1.1) (fun S2 =>
  m_chk (zK S2 x1 = 0) (
  m_if ((zI S2 6 x1) ≤ 0) (
  f_X5_readMoveNumber_20 (0 : Int32) S2
  ) (
  f_X5_readMoveNumber_20 (1 : Int32) S2
  ))))))

set_option maxRecDepth 100000 in
set_option maxHeartbeats 4000000 in
theorem w_X5_readMoveNumber_0 {p : Program} {l : Launch} {e : Env} {s : State} {m : MethodId} {args : Array Value} {below : List Frame} {meth : Method} {c : Code} {Q : State → Prop} {D : va_G} {y : Nat → ClassId} {A0 : Nat → Prop} {o : Int32 × ZS} (X : CallFix p m c cX5_readMoveNumber 2 s args wsX5_readMoveNumber RX5) (hret : zRi p l e ({ frames := 2, cells := 0, slots := 0, locals := 44 } : Room) s m args below meth c Q cX5_readMoveNumber D y A0 .boolean o) {x0 : Nat} {x1 : Nat} {S : ZS} {H : Heap} {locs : List Loc} {ls : Array Slot} (hf : f_X5_readMoveNumber_0 x0 x1 S = some o) (hM : zH D y A0 s H locs S) (hl : lv_has ls 2 [(0, .ref (zh y x0)), (1, .ref (zh y x1))]) : W p l e ({ frames := 2, cells := 0, slots := 0, locals := 44 } : Room) s m args below meth c H locs 0 0 Q (F0 m 0 ls []) := by
  obtain ⟨hx, hb, hml, hown, hts⟩ := id X
  unfold f_X5_readMoveNumber_0 at hf
  refine lv_aload_n hx hb dX5_readMoveNumber_0 rfl (lv_at hl 1 rfl) ?_
  refine lv_aload_n hx hb dX5_readMoveNumber_1 rfl (lv_at hl 0 rfl) ?_
  obtain ⟨ca, hf⟩ := m_chkE hf
  replace ca := z_in hM (by decide) ca
  obtain ⟨o1, ho, hf⟩ := m_calE hf
  refine z_callVi (k := 5) (C := RX5) (T := TX5) (N := 2) (fl := zf_5) X hM rfl zc_5 ca (c_X5_readNumber ho) gX5_readMoveNumber_X5_readNumber rfl ⟨rfl, rfl⟩ hd_X5_readNumber ⟨Nat.le_of_ble_eq_true rfl, Nat.le_of_ble_eq_true rfl⟩ rfl hl.1 rfl (Nat.le_of_ble_eq_true rfl) dX5_readMoveNumber_2 (fun H locs hM => ?_)
  clear ho
  obtain ⟨ca, hf⟩ := m_chkE hf
  replace ca := z_in hM (by decide) ca
  refine z_putI (k := 0) (j := 6) (C := RX0) (T := TX0) (N := 7) (fl := zf_0) (ty := .int) X hw_X5_readMoveNumber_0 tyX0_ok nmX0 hM rfl zc_0 ca (by decide) fl_X5_readMoveNumber_0_6 rfl (tyX0_ok 6 (by decide)) rfl rfl zi_0_6 (Nat.le_of_ble_eq_true rfl) dX5_readMoveNumber_5 (fun H locs hM => ?_)
  clear ca
  obtain ⟨S2, ev, hf⟩ := m_bndE hf
  replace hM := z_hS hM ev
  clear ev
  refine lv_aload_n hx hb dX5_readMoveNumber_8 rfl (lv_at hl 1 rfl) ?_
  obtain ⟨ca, hf⟩ := m_chkE hf
  replace ca := z_in hM (by decide) ca
  refine z_get (k := 0) (j := 6) (C := RX0) (T := TX0) (N := 7) (fl := zf_0) (v := .int (zI S2 6 x1)) X hw_X5_readMoveNumber_0 hM rfl zc_0 ca (by decide) fl_X5_readMoveNumber_0_6 rfl dX5_readMoveNumber_9 ?_
  clear ca
  refine lv_if_le (tgt := 19) hx hb dX5_readMoveNumber_12 (by decide) (fun cc1 => ?_) (fun cc1 => ?_)
  · replace hf := m_ifT hf cc1
    refine lv_iconst (v := (0 : Int32)) hx hb dX5_readMoveNumber_19 (by decide) ?_
    exact w_X5_readMoveNumber_20 (t0 := (0 : Int32)) X hret hf hM (lv_sub hl [] rfl)
  · replace hf := m_ifF hf cc1
    refine lv_iconst (v := (1 : Int32)) hx hb dX5_readMoveNumber_15 (by decide) ?_
    refine lv_goto (tgt := 20) hx hb dX5_readMoveNumber_16 (by decide) ?_
    exact w_X5_readMoveNumber_20 (t0 := (1 : Int32)) X hret hf hM (lv_sub hl [] rfl)
noncomputable def f_X5_readMoveNumber (x0 : Nat) (x1 : Nat) (S : ZS) : Option (Int32 × ZS) := f_X5_readMoveNumber_0 x0 x1 S
theorem c_X5_readMoveNumber {l : Launch} {D : va_G} {y : Nat → ClassId} {x0 : Nat} {x1 : Nat} {S : ZS} {o : Int32 × ZS} (hf : f_X5_readMoveNumber x0 x1 S = some o) : zMi l yX5_readMoveNumber wsX5_readMoveNumber ({ frames := 2, cells := 0, slots := 0, locals := 44 } : Room) [.ref (zh y x0), .ref (zh y x1)] D y S o :=
  z_entryI (own := RX5) (cc := cX5_readMoveNumber) (maxL := 2) (by decide) rfl rfl (Nat.le_of_ble_eq_true rfl) (fun p e s m args below meth c A0 Q H locs ls X hret hM hl => w_X5_readMoveNumber_0 X hret hf hM (lv_sub hl [0, 1] rfl))
theorem hd_X5_hasSoundMen : yX5_hasSoundMen.cls ≠ "java/lang/invoke/MethodHandle" ∧ yX5_hasSoundMen.cls ≠ "java/lang/invoke/VarHandle" ∧ (parseMethodDescriptor yX5_hasSoundMen.desc).map (fun d => d.parameters.length) = some 1 := by decide +kernel
theorem fl_X5_hasSoundMen_0_0 : Cond.fieldLink RX5 115 "MoveTexts$Board" "men" "[I" ∈ wsX5_hasSoundMen := by decide +kernel
theorem fl_X5_hasSoundMen_0_3 : Cond.fieldLink RX5 88 "MoveTexts$Board" "side" "I" ∈ wsX5_hasSoundMen := by decide +kernel
theorem hw_X5_hasSoundMen_0 : ∀ w ∈ wsX00, w ∈ wsX5_hasSoundMen := by decide +kernel
noncomputable def f_X5_hasSoundMen_115 (t0 : Int32) (S : ZS) : Option (Int32 × ZS) :=
  m_chk (vp_nar .boolean t0 = t0) (some (t0, S))

set_option maxRecDepth 100000 in
set_option maxHeartbeats 4000000 in
theorem w_X5_hasSoundMen_115 {p : Program} {l : Launch} {e : Env} {s : State} {m : MethodId} {args : Array Value} {below : List Frame} {meth : Method} {c : Code} {Q : State → Prop} {D : va_G} {y : Nat → ClassId} {A0 : Nat → Prop} {o : Int32 × ZS} (X : CallFix p m c cX5_hasSoundMen 4 s args wsX5_hasSoundMen RX5) (hret : zRi p l e ({ frames := 2, cells := 0, slots := 0, locals := 55 } : Room) s m args below meth c Q cX5_hasSoundMen D y A0 .boolean o) {t0 : Int32} {S : ZS} {H : Heap} {locs : List Loc} {ls : Array Slot} (hf : f_X5_hasSoundMen_115 t0 S = some o) (hM : zH D y A0 s H locs S) (hl : lv_has ls 4 []) : W p l e ({ frames := 2, cells := 0, slots := 0, locals := 55 } : Room) s m args below meth c H locs 0 0 Q (F0 m 115 ls [.int t0]) := by
  obtain ⟨hx, hb, hml, hown, hts⟩ := id X
  unfold f_X5_hasSoundMen_115 at hf
  obtain ⟨cd, hf⟩ := m_chkE hf
  cases hf
  exact hret H locs _ ls hM (m_nb cd) dX5_hasSoundMen_115
noncomputable def f_X5_hasSoundMen_114 (S : ZS) : Option (Int32 × ZS) :=
  f_X5_hasSoundMen_115 (0 : Int32) S

set_option maxRecDepth 100000 in
set_option maxHeartbeats 4000000 in
theorem w_X5_hasSoundMen_114 {p : Program} {l : Launch} {e : Env} {s : State} {m : MethodId} {args : Array Value} {below : List Frame} {meth : Method} {c : Code} {Q : State → Prop} {D : va_G} {y : Nat → ClassId} {A0 : Nat → Prop} {o : Int32 × ZS} (X : CallFix p m c cX5_hasSoundMen 4 s args wsX5_hasSoundMen RX5) (hret : zRi p l e ({ frames := 2, cells := 0, slots := 0, locals := 55 } : Room) s m args below meth c Q cX5_hasSoundMen D y A0 .boolean o) {S : ZS} {H : Heap} {locs : List Loc} {ls : Array Slot} (hf : f_X5_hasSoundMen_114  S = some o) (hM : zH D y A0 s H locs S) (hl : lv_has ls 4 []) : W p l e ({ frames := 2, cells := 0, slots := 0, locals := 55 } : Room) s m args below meth c H locs 0 0 Q (F0 m 114 ls []) := by
  obtain ⟨hx, hb, hml, hown, hts⟩ := id X
  unfold f_X5_hasSoundMen_114 at hf
  refine lv_iconst (v := (0 : Int32)) hx hb dX5_hasSoundMen_114 (by decide) ?_
  exact w_X5_hasSoundMen_115 (t0 := (0 : Int32)) X hret hf hM (lv_sub hl [] rfl)
noncomputable def f_X5_hasSoundMen_73 (self6 : Nat → Int32 → Int32 → Int32 → ZS → Option (Int32 × ZS)) (x0 : Nat) (x1 : Int32) (x2 : Int32) (x3 : Int32) (S : ZS) : Option (Int32 × ZS) :=
  m_bnd (x3 + (1 : Int32)) (fun v1 =>
  self6 x0 x1 x2 v1 S)

set_option maxRecDepth 100000 in
set_option maxHeartbeats 4000000 in
theorem w_X5_hasSoundMen_73 {p : Program} {l : Launch} {e : Env} {s : State} {m : MethodId} {args : Array Value} {below : List Frame} {meth : Method} {c : Code} {Q : State → Prop} {D : va_G} {y : Nat → ClassId} {A0 : Nat → Prop} {o : Int32 × ZS} (X : CallFix p m c cX5_hasSoundMen 4 s args wsX5_hasSoundMen RX5) (hret : zRi p l e ({ frames := 2, cells := 0, slots := 0, locals := 55 } : Room) s m args below meth c Q cX5_hasSoundMen D y A0 .boolean o) {self6 : Nat → Int32 → Int32 → Int32 → ZS → Option (Int32 × ZS)} (hself6 : ∀ (x0 : Nat) (x1 : Int32) (x2 : Int32) (x3 : Int32) (S : ZS) (H : Heap) (locs : List Loc) (ls : Array Slot), self6 x0 x1 x2 x3 S = some o → zH D y A0 s H locs S → lv_has ls 4 [(0, .ref (zh y x0)), (1, .int x1), (2, .int x2), (3, .int x3)] → W p l e ({ frames := 2, cells := 0, slots := 0, locals := 55 } : Room) s m args below meth c H locs 0 0 Q (F0 m 6 ls [])) {x0 : Nat} {x1 : Int32} {x2 : Int32} {x3 : Int32} {S : ZS} {H : Heap} {locs : List Loc} {ls : Array Slot} (hf : f_X5_hasSoundMen_73 self6 x0 x1 x2 x3 S = some o) (hM : zH D y A0 s H locs S) (hl : lv_has ls 4 [(0, .ref (zh y x0)), (1, .int x1), (2, .int x2), (3, .int x3)]) : W p l e ({ frames := 2, cells := 0, slots := 0, locals := 55 } : Room) s m args below meth c H locs 0 0 Q (F0 m 73 ls []) := by
  obtain ⟨hx, hb, hml, hown, hts⟩ := id X
  unfold f_X5_hasSoundMen_73 at hf
  obtain ⟨v1, ev, hf⟩ := m_bndE hf
  refine lv_iinc (v := v1) (lv' := [(3, .int v1), (0, .ref (zh y x0)), (1, .int x1), (2, .int x2)]) hx hb dX5_hasSoundMen_73 hl (k := 3) rfl (by rw [ev]; rfl) (by decide) rfl (fun ls hl => ?_)
  clear ev
  refine lv_goto (tgt := 6) hx hb dX5_hasSoundMen_76 (by decide) ?_
  exact hself6 x0 x1 x2 v1 _ _ _ _ hf hM (lv_sub hl [1, 2, 3, 0] rfl)
noncomputable def f_X5_hasSoundMen_71 (S : ZS) : Option (Int32 × ZS) :=
  m_chk (vp_nar .boolean (0 : Int32) = (0 : Int32)) (some ((0 : Int32), S))

set_option maxRecDepth 100000 in
set_option maxHeartbeats 4000000 in
theorem w_X5_hasSoundMen_71 {p : Program} {l : Launch} {e : Env} {s : State} {m : MethodId} {args : Array Value} {below : List Frame} {meth : Method} {c : Code} {Q : State → Prop} {D : va_G} {y : Nat → ClassId} {A0 : Nat → Prop} {o : Int32 × ZS} (X : CallFix p m c cX5_hasSoundMen 4 s args wsX5_hasSoundMen RX5) (hret : zRi p l e ({ frames := 2, cells := 0, slots := 0, locals := 55 } : Room) s m args below meth c Q cX5_hasSoundMen D y A0 .boolean o) {S : ZS} {H : Heap} {locs : List Loc} {ls : Array Slot} (hf : f_X5_hasSoundMen_71  S = some o) (hM : zH D y A0 s H locs S) (hl : lv_has ls 4 []) : W p l e ({ frames := 2, cells := 0, slots := 0, locals := 55 } : Room) s m args below meth c H locs 0 0 Q (F0 m 71 ls []) := by
  obtain ⟨hx, hb, hml, hown, hts⟩ := id X
  unfold f_X5_hasSoundMen_71 at hf
  refine lv_iconst (v := (0 : Int32)) hx hb dX5_hasSoundMen_71 (by decide) ?_
  obtain ⟨cd, hf⟩ := m_chkE hf
  cases hf
  exact hret H locs _ ls hM (m_nb cd) dX5_hasSoundMen_72
noncomputable def f_X5_hasSoundMen_48 (self6 : Nat → Int32 → Int32 → Int32 → ZS → Option (Int32 × ZS)) (x0 : Nat) (x1 : Int32) (x3 : Int32) (t0 : Int32) (t1 : Int32) (S : ZS) : Option (Int32 × ZS) :=
  m_bnd (t1 + t0) (fun v1 =>
  m_chk (zK S x0 = 0) (
  m_cal (f_X0_kindAt x0 x3 S) (fun o2 =>
  m_if (o2.1 = (1 : Int32)) (
  m_if (x3 < (8 : Int32)) (
  f_X5_hasSoundMen_71  o2.2
  ) (
  m_if (x3 < (56 : Int32)) (
  f_X5_hasSoundMen_73 self6 x0 x1 v1 x3 o2.2
  ) (
  f_X5_hasSoundMen_71  o2.2
  )
  )
  ) (
  f_X5_hasSoundMen_73 self6 x0 x1 v1 x3 o2.2
  ))))

set_option maxRecDepth 100000 in
set_option maxHeartbeats 4000000 in
theorem w_X5_hasSoundMen_48 {p : Program} {l : Launch} {e : Env} {s : State} {m : MethodId} {args : Array Value} {below : List Frame} {meth : Method} {c : Code} {Q : State → Prop} {D : va_G} {y : Nat → ClassId} {A0 : Nat → Prop} {o : Int32 × ZS} (X : CallFix p m c cX5_hasSoundMen 4 s args wsX5_hasSoundMen RX5) (hret : zRi p l e ({ frames := 2, cells := 0, slots := 0, locals := 55 } : Room) s m args below meth c Q cX5_hasSoundMen D y A0 .boolean o) {self6 : Nat → Int32 → Int32 → Int32 → ZS → Option (Int32 × ZS)} (hself6 : ∀ (x0 : Nat) (x1 : Int32) (x2 : Int32) (x3 : Int32) (S : ZS) (H : Heap) (locs : List Loc) (ls : Array Slot), self6 x0 x1 x2 x3 S = some o → zH D y A0 s H locs S → lv_has ls 4 [(0, .ref (zh y x0)), (1, .int x1), (2, .int x2), (3, .int x3)] → W p l e ({ frames := 2, cells := 0, slots := 0, locals := 55 } : Room) s m args below meth c H locs 0 0 Q (F0 m 6 ls [])) {x0 : Nat} {x1 : Int32} {x3 : Int32} {t0 : Int32} {t1 : Int32} {S : ZS} {H : Heap} {locs : List Loc} {ls : Array Slot} (hf : f_X5_hasSoundMen_48 self6 x0 x1 x3 t0 t1 S = some o) (hM : zH D y A0 s H locs S) (hl : lv_has ls 4 [(0, .ref (zh y x0)), (1, .int x1), (3, .int x3)]) : W p l e ({ frames := 2, cells := 0, slots := 0, locals := 55 } : Room) s m args below meth c H locs 0 0 Q (F0 m 48 ls [.int t0, .int t1]) := by
  obtain ⟨hx, hb, hml, hown, hts⟩ := id X
  unfold f_X5_hasSoundMen_48 at hf
  refine lv_iadd hx hb dX5_hasSoundMen_48 ?_
  obtain ⟨v1, ev, hf⟩ := m_bndE hf
  refine m_top ev ?_
  clear ev
  refine lv_istore_n (lv' := [(2, .int v1), (0, .ref (zh y x0)), (1, .int x1), (3, .int x3)]) hx hb dX5_hasSoundMen_49 rfl hl (by decide) rfl (fun ls hl => ?_)
  refine lv_aload_n hx hb dX5_hasSoundMen_50 rfl (lv_at hl 1 rfl) ?_
  refine lv_iload_n hx hb dX5_hasSoundMen_51 rfl (lv_at hl 3 rfl) ?_
  obtain ⟨ca, hf⟩ := m_chkE hf
  replace ca := z_in hM (by decide) ca
  obtain ⟨o2, ho, hf⟩ := m_calE hf
  refine z_callVi (k := 0) (C := RX0) (T := TX0) (N := 7) (fl := zf_0) X hM rfl zc_0 ca (c_X0_kindAt ho) gX5_hasSoundMen_X0_kindAt rfl ⟨rfl, rfl⟩ hd_X0_kindAt ⟨Nat.le_of_ble_eq_true rfl, Nat.le_of_ble_eq_true rfl⟩ rfl hl.1 rfl (Nat.le_of_ble_eq_true rfl) dX5_hasSoundMen_52 (fun H locs hM => ?_)
  clear ho
  refine lv_iconst (v := (1 : Int32)) hx hb dX5_hasSoundMen_55 (by decide) ?_
  refine lv_icmp_ne (tgt := 73) hx hb dX5_hasSoundMen_56 (by decide) (fun cc1 => ?_) (fun cc1 => ?_)
  · replace hf := m_ifF hf cc1
    exact w_X5_hasSoundMen_73 (x0 := x0) (x1 := x1) (x2 := v1) (x3 := x3) X hret hself6 hf hM (lv_sub hl [1, 2, 0, 3] rfl)
  · replace hf := m_ifT hf cc1
    refine lv_iload_n hx hb dX5_hasSoundMen_59 rfl (lv_at hl 3 rfl) ?_
    refine lv_bipush (v := (8 : Int32)) hx hb dX5_hasSoundMen_60 (by decide) ?_
    refine lv_icmp_lt (tgt := 71) hx hb dX5_hasSoundMen_62 (by decide) (fun cc1 => ?_) (fun cc1 => ?_)
    · replace hf := m_ifT hf cc1
      exact w_X5_hasSoundMen_71 X hret hf hM (lv_sub hl [] rfl)
    · replace hf := m_ifF hf cc1
      refine lv_iload_n hx hb dX5_hasSoundMen_65 rfl (lv_at hl 3 rfl) ?_
      refine lv_bipush (v := (56 : Int32)) hx hb dX5_hasSoundMen_66 (by decide) ?_
      refine lv_icmp_lt (tgt := 73) hx hb dX5_hasSoundMen_68 (by decide) (fun cc1 => ?_) (fun cc1 => ?_)
      · replace hf := m_ifT hf cc1
        exact w_X5_hasSoundMen_73 (x0 := x0) (x1 := x1) (x2 := v1) (x3 := x3) X hret hself6 hf hM (lv_sub hl [1, 2, 0, 3] rfl)
      · replace hf := m_ifF hf cc1
        exact w_X5_hasSoundMen_71 X hret hf hM (lv_sub hl [] rfl)
noncomputable def f_X5_hasSoundMen_29 (self6 : Nat → Int32 → Int32 → Int32 → ZS → Option (Int32 × ZS)) (x0 : Nat) (x2 : Int32) (x3 : Int32) (t0 : Int32) (t1 : Int32) (S : ZS) : Option (Int32 × ZS) :=
  m_bnd (t1 + t0) (fun v1 =>
  m_chk (zK S x0 = 0) (
  m_cal (zP S 0 x0) (fun b2 =>
  m_chk (zK S b2 = 14) (
  m_chk (¬ (x3 < 0 ∨ zN S b2 ≤ (x3).toNatClampNeg)) (
  m_bnd (zA S b2 (x3).toNatClampNeg) (fun v3 =>
  m_if (v3 = (14 : Int32)) (
  f_X5_hasSoundMen_48 self6 x0 v1 x3 (1 : Int32) x2 S
  ) (
  f_X5_hasSoundMen_48 self6 x0 v1 x3 (0 : Int32) x2 S
  )))))))

set_option maxRecDepth 100000 in
set_option maxHeartbeats 4000000 in
theorem w_X5_hasSoundMen_29 {p : Program} {l : Launch} {e : Env} {s : State} {m : MethodId} {args : Array Value} {below : List Frame} {meth : Method} {c : Code} {Q : State → Prop} {D : va_G} {y : Nat → ClassId} {A0 : Nat → Prop} {o : Int32 × ZS} (X : CallFix p m c cX5_hasSoundMen 4 s args wsX5_hasSoundMen RX5) (hret : zRi p l e ({ frames := 2, cells := 0, slots := 0, locals := 55 } : Room) s m args below meth c Q cX5_hasSoundMen D y A0 .boolean o) {self6 : Nat → Int32 → Int32 → Int32 → ZS → Option (Int32 × ZS)} (hself6 : ∀ (x0 : Nat) (x1 : Int32) (x2 : Int32) (x3 : Int32) (S : ZS) (H : Heap) (locs : List Loc) (ls : Array Slot), self6 x0 x1 x2 x3 S = some o → zH D y A0 s H locs S → lv_has ls 4 [(0, .ref (zh y x0)), (1, .int x1), (2, .int x2), (3, .int x3)] → W p l e ({ frames := 2, cells := 0, slots := 0, locals := 55 } : Room) s m args below meth c H locs 0 0 Q (F0 m 6 ls [])) {x0 : Nat} {x2 : Int32} {x3 : Int32} {t0 : Int32} {t1 : Int32} {S : ZS} {H : Heap} {locs : List Loc} {ls : Array Slot} (hf : f_X5_hasSoundMen_29 self6 x0 x2 x3 t0 t1 S = some o) (hM : zH D y A0 s H locs S) (hl : lv_has ls 4 [(0, .ref (zh y x0)), (2, .int x2), (3, .int x3)]) : W p l e ({ frames := 2, cells := 0, slots := 0, locals := 55 } : Room) s m args below meth c H locs 0 0 Q (F0 m 29 ls [.int t0, .int t1]) := by
  obtain ⟨hx, hb, hml, hown, hts⟩ := id X
  unfold f_X5_hasSoundMen_29 at hf
  refine lv_iadd hx hb dX5_hasSoundMen_29 ?_
  obtain ⟨v1, ev, hf⟩ := m_bndE hf
  refine m_top ev ?_
  clear ev
  refine lv_istore_n (lv' := [(1, .int v1), (0, .ref (zh y x0)), (2, .int x2), (3, .int x3)]) hx hb dX5_hasSoundMen_30 rfl hl (by decide) rfl (fun ls hl => ?_)
  refine lv_iload_n hx hb dX5_hasSoundMen_31 rfl (lv_at hl 2 rfl) ?_
  refine lv_aload_n hx hb dX5_hasSoundMen_32 rfl (lv_at hl 1 rfl) ?_
  obtain ⟨ca, hf⟩ := m_chkE hf
  replace ca := z_in hM (by decide) ca
  refine z_get (k := 0) (j := 0) (C := RX0) (T := TX0) (N := 7) (fl := zf_0) (v := va_rf ((zP S 0 x0).map (zh y))) X hw_X5_hasSoundMen_0 hM rfl zc_0 ca (by decide) fl_X5_hasSoundMen_0_0 rfl dX5_hasSoundMen_33 ?_
  clear ca
  obtain ⟨b2, hb9, hf⟩ := m_calE hf
  refine z_topr hb9 ?_
  clear hb9
  refine lv_iload_n hx hb dX5_hasSoundMen_36 rfl (lv_at hl 3 rfl) ?_
  obtain ⟨ca, hf⟩ := m_chkE hf
  replace ca := z_in hM (by decide) ca
  obtain ⟨cd, hf⟩ := m_chkE hf
  refine z_iald X hM ca cd dX5_hasSoundMen_37 ?_
  clear ca cd
  obtain ⟨v3, ev, hf⟩ := m_bndE hf
  refine m_top ev ?_
  clear ev
  refine lv_bipush (v := (14 : Int32)) hx hb dX5_hasSoundMen_38 (by decide) ?_
  refine lv_icmp_ne (tgt := 47) hx hb dX5_hasSoundMen_40 (by decide) (fun cc1 => ?_) (fun cc1 => ?_)
  · replace hf := m_ifF hf cc1
    refine lv_iconst (v := (0 : Int32)) hx hb dX5_hasSoundMen_47 (by decide) ?_
    exact w_X5_hasSoundMen_48 (x0 := x0) (x1 := v1) (x3 := x3) (t0 := (0 : Int32)) (t1 := x2) X hret hself6 hf hM (lv_sub hl [1, 0, 3] rfl)
  · replace hf := m_ifT hf cc1
    refine lv_iconst (v := (1 : Int32)) hx hb dX5_hasSoundMen_43 (by decide) ?_
    refine lv_goto (tgt := 48) hx hb dX5_hasSoundMen_44 (by decide) ?_
    exact w_X5_hasSoundMen_48 (x0 := x0) (x1 := v1) (x3 := x3) (t0 := (1 : Int32)) (t1 := x2) X hret hself6 hf hM (lv_sub hl [1, 0, 3] rfl)
noncomputable def f_X5_hasSoundMen_6s (self6 : Nat → Int32 → Int32 → Int32 → ZS → Option (Int32 × ZS)) (x0 : Nat) (x1 : Int32) (x2 : Int32) (x3 : Int32) (S : ZS) : Option (Int32 × ZS) :=
  m_if ((64 : Int32) ≤ x3) (
  m_if (x1 = (1 : Int32)) (
  m_if (x2 = (1 : Int32)) (
  m_chk (zK S x0 = 0) (
  m_bnd ((1 : Int32) - (zI S 3 x0)) (fun v1 =>
  m_chk (zK S x0 = 0) (
  m_cal (f_X0_kingOf x0 v1 S) (fun o2 =>
  m_chk (zK o2.2 x0 = 0) (
  m_chk (zK o2.2 x0 = 0) (
  m_cal (f_X0_attacked x0 o2.1 (zI o2.2 3 x0) o2.2) (fun o3 =>
  m_if (o3.1 = 0) (
  f_X5_hasSoundMen_115 (1 : Int32) o3.2
  ) (
  f_X5_hasSoundMen_114  o3.2
  ))))))))
  ) (
  f_X5_hasSoundMen_114  S
  )
  ) (
  f_X5_hasSoundMen_114  S
  )
  ) (
  m_chk (zK S x0 = 0) (
  m_cal (zP S 0 x0) (fun b4 =>
  m_chk (zK S b4 = 14) (
  m_chk (¬ (x3 < 0 ∨ zN S b4 ≤ (x3).toNatClampNeg)) (
  m_bnd (zA S b4 (x3).toNatClampNeg) (fun v5 =>
  m_if (v5 = (6 : Int32)) (
  f_X5_hasSoundMen_29 self6 x0 x2 x3 (1 : Int32) x1 S
  ) (
  f_X5_hasSoundMen_29 self6 x0 x2 x3 (0 : Int32) x1 S
  ))))))
  )

set_option maxRecDepth 100000 in
set_option maxHeartbeats 4000000 in
theorem ws_X5_hasSoundMen_6 {p : Program} {l : Launch} {e : Env} {s : State} {m : MethodId} {args : Array Value} {below : List Frame} {meth : Method} {c : Code} {Q : State → Prop} {D : va_G} {y : Nat → ClassId} {A0 : Nat → Prop} {o : Int32 × ZS} (X : CallFix p m c cX5_hasSoundMen 4 s args wsX5_hasSoundMen RX5) (hret : zRi p l e ({ frames := 2, cells := 0, slots := 0, locals := 55 } : Room) s m args below meth c Q cX5_hasSoundMen D y A0 .boolean o) {self6 : Nat → Int32 → Int32 → Int32 → ZS → Option (Int32 × ZS)} (hself6 : ∀ (x0 : Nat) (x1 : Int32) (x2 : Int32) (x3 : Int32) (S : ZS) (H : Heap) (locs : List Loc) (ls : Array Slot), self6 x0 x1 x2 x3 S = some o → zH D y A0 s H locs S → lv_has ls 4 [(0, .ref (zh y x0)), (1, .int x1), (2, .int x2), (3, .int x3)] → W p l e ({ frames := 2, cells := 0, slots := 0, locals := 55 } : Room) s m args below meth c H locs 0 0 Q (F0 m 6 ls [])) {x0 : Nat} {x1 : Int32} {x2 : Int32} {x3 : Int32} {S : ZS} {H : Heap} {locs : List Loc} {ls : Array Slot} (hf : f_X5_hasSoundMen_6s self6 x0 x1 x2 x3 S = some o) (hM : zH D y A0 s H locs S) (hl : lv_has ls 4 [(0, .ref (zh y x0)), (1, .int x1), (2, .int x2), (3, .int x3)]) : W p l e ({ frames := 2, cells := 0, slots := 0, locals := 55 } : Room) s m args below meth c H locs 0 0 Q (F0 m 6 ls []) := by
  obtain ⟨hx, hb, hml, hown, hts⟩ := id X
  unfold f_X5_hasSoundMen_6s at hf
  refine lv_iload_n hx hb dX5_hasSoundMen_6 rfl (lv_at hl 3 rfl) ?_
  refine lv_bipush (v := (64 : Int32)) hx hb dX5_hasSoundMen_7 (by decide) ?_
  refine lv_icmp_ge (tgt := 79) hx hb dX5_hasSoundMen_9 (by decide) (fun cc1 => ?_) (fun cc1 => ?_)
  · replace hf := m_ifT hf cc1
    refine lv_iload_n hx hb dX5_hasSoundMen_79 rfl (lv_at hl 1 rfl) ?_
    refine lv_iconst (v := (1 : Int32)) hx hb dX5_hasSoundMen_80 (by decide) ?_
    refine lv_icmp_ne (tgt := 114) hx hb dX5_hasSoundMen_81 (by decide) (fun cc1 => ?_) (fun cc1 => ?_)
    · replace hf := m_ifF hf cc1
      exact w_X5_hasSoundMen_114 X hret hf hM (lv_sub hl [] rfl)
    · replace hf := m_ifT hf cc1
      refine lv_iload_n hx hb dX5_hasSoundMen_84 rfl (lv_at hl 2 rfl) ?_
      refine lv_iconst (v := (1 : Int32)) hx hb dX5_hasSoundMen_85 (by decide) ?_
      refine lv_icmp_ne (tgt := 114) hx hb dX5_hasSoundMen_86 (by decide) (fun cc1 => ?_) (fun cc1 => ?_)
      · replace hf := m_ifF hf cc1
        exact w_X5_hasSoundMen_114 X hret hf hM (lv_sub hl [] rfl)
      · replace hf := m_ifT hf cc1
        refine lv_aload_n hx hb dX5_hasSoundMen_89 rfl (lv_at hl 0 rfl) ?_
        refine lv_aload_n hx hb dX5_hasSoundMen_90 rfl (lv_at hl 0 rfl) ?_
        refine lv_iconst (v := (1 : Int32)) hx hb dX5_hasSoundMen_91 (by decide) ?_
        refine lv_aload_n hx hb dX5_hasSoundMen_92 rfl (lv_at hl 0 rfl) ?_
        obtain ⟨ca, hf⟩ := m_chkE hf
        replace ca := z_in hM (by decide) ca
        refine z_get (k := 0) (j := 3) (C := RX0) (T := TX0) (N := 7) (fl := zf_0) (v := .int (zI S 3 x0)) X hw_X5_hasSoundMen_0 hM rfl zc_0 ca (by decide) fl_X5_hasSoundMen_0_3 rfl dX5_hasSoundMen_93 ?_
        clear ca
        refine lv_isub hx hb dX5_hasSoundMen_96 ?_
        obtain ⟨v1, ev, hf⟩ := m_bndE hf
        refine m_top ev ?_
        clear ev
        obtain ⟨ca, hf⟩ := m_chkE hf
        replace ca := z_in hM (by decide) ca
        obtain ⟨o2, ho, hf⟩ := m_calE hf
        refine z_callVi (k := 0) (C := RX0) (T := TX0) (N := 7) (fl := zf_0) X hM rfl zc_0 ca (c_X0_kingOf ho) gX5_hasSoundMen_X0_kingOf rfl ⟨rfl, rfl⟩ hd_X0_kingOf ⟨Nat.le_of_ble_eq_true rfl, Nat.le_of_ble_eq_true rfl⟩ rfl hl.1 rfl (Nat.le_of_ble_eq_true rfl) dX5_hasSoundMen_97 (fun H locs hM => ?_)
        clear ho
        refine lv_aload_n hx hb dX5_hasSoundMen_100 rfl (lv_at hl 0 rfl) ?_
        obtain ⟨ca, hf⟩ := m_chkE hf
        replace ca := z_in hM (by decide) ca
        refine z_get (k := 0) (j := 3) (C := RX0) (T := TX0) (N := 7) (fl := zf_0) (v := .int (zI o2.2 3 x0)) X hw_X5_hasSoundMen_0 hM rfl zc_0 ca (by decide) fl_X5_hasSoundMen_0_3 rfl dX5_hasSoundMen_101 ?_
        clear ca
        obtain ⟨ca, hf⟩ := m_chkE hf
        replace ca := z_in hM (by decide) ca
        obtain ⟨o3, ho, hf⟩ := m_calE hf
        refine z_callVi (k := 0) (C := RX0) (T := TX0) (N := 7) (fl := zf_0) X hM rfl zc_0 ca (c_X0_attacked ho) gX5_hasSoundMen_X0_attacked rfl ⟨rfl, rfl⟩ hd_X0_attacked ⟨Nat.le_of_ble_eq_true rfl, Nat.le_of_ble_eq_true rfl⟩ rfl hl.1 rfl (Nat.le_of_ble_eq_true rfl) dX5_hasSoundMen_104 (fun H locs hM => ?_)
        clear ho
        refine lv_if_ne (tgt := 114) hx hb dX5_hasSoundMen_107 (by decide) (fun cc1 => ?_) (fun cc1 => ?_)
        · replace hf := m_ifF hf cc1
          exact w_X5_hasSoundMen_114 X hret hf hM (lv_sub hl [] rfl)
        · replace hf := m_ifT hf cc1
          refine lv_iconst (v := (1 : Int32)) hx hb dX5_hasSoundMen_110 (by decide) ?_
          refine lv_goto (tgt := 115) hx hb dX5_hasSoundMen_111 (by decide) ?_
          exact w_X5_hasSoundMen_115 (t0 := (1 : Int32)) X hret hf hM (lv_sub hl [] rfl)
  · replace hf := m_ifF hf cc1
    refine lv_iload_n hx hb dX5_hasSoundMen_12 rfl (lv_at hl 1 rfl) ?_
    refine lv_aload_n hx hb dX5_hasSoundMen_13 rfl (lv_at hl 0 rfl) ?_
    obtain ⟨ca, hf⟩ := m_chkE hf
    replace ca := z_in hM (by decide) ca
    refine z_get (k := 0) (j := 0) (C := RX0) (T := TX0) (N := 7) (fl := zf_0) (v := va_rf ((zP S 0 x0).map (zh y))) X hw_X5_hasSoundMen_0 hM rfl zc_0 ca (by decide) fl_X5_hasSoundMen_0_0 rfl dX5_hasSoundMen_14 ?_
    clear ca
    obtain ⟨b4, hb9, hf⟩ := m_calE hf
    refine z_topr hb9 ?_
    clear hb9
    refine lv_iload_n hx hb dX5_hasSoundMen_17 rfl (lv_at hl 3 rfl) ?_
    obtain ⟨ca, hf⟩ := m_chkE hf
    replace ca := z_in hM (by decide) ca
    obtain ⟨cd, hf⟩ := m_chkE hf
    refine z_iald X hM ca cd dX5_hasSoundMen_18 ?_
    clear ca cd
    obtain ⟨v5, ev, hf⟩ := m_bndE hf
    refine m_top ev ?_
    clear ev
    refine lv_bipush (v := (6 : Int32)) hx hb dX5_hasSoundMen_19 (by decide) ?_
    refine lv_icmp_ne (tgt := 28) hx hb dX5_hasSoundMen_21 (by decide) (fun cc1 => ?_) (fun cc1 => ?_)
    · replace hf := m_ifF hf cc1
      refine lv_iconst (v := (0 : Int32)) hx hb dX5_hasSoundMen_28 (by decide) ?_
      exact w_X5_hasSoundMen_29 (x0 := x0) (x2 := x2) (x3 := x3) (t0 := (0 : Int32)) (t1 := x1) X hret hself6 hf hM (lv_sub hl [0, 2, 3] rfl)
    · replace hf := m_ifT hf cc1
      refine lv_iconst (v := (1 : Int32)) hx hb dX5_hasSoundMen_24 (by decide) ?_
      refine lv_goto (tgt := 29) hx hb dX5_hasSoundMen_25 (by decide) ?_
      exact w_X5_hasSoundMen_29 (x0 := x0) (x2 := x2) (x3 := x3) (t0 := (1 : Int32)) (t1 := x1) X hret hself6 hf hM (lv_sub hl [0, 2, 3] rfl)
noncomputable def f_X5_hasSoundMen_6 : Nat → Nat → Int32 → Int32 → Int32 → ZS → Option (Int32 × ZS)
  | 0 => fun _ _ _ _ _ => none
  | n + 1 => f_X5_hasSoundMen_6s (f_X5_hasSoundMen_6 n)
theorem w_X5_hasSoundMen_6 {p : Program} {l : Launch} {e : Env} {s : State} {m : MethodId} {args : Array Value} {below : List Frame} {meth : Method} {c : Code} {Q : State → Prop} {D : va_G} {y : Nat → ClassId} {A0 : Nat → Prop} {o : Int32 × ZS} (X : CallFix p m c cX5_hasSoundMen 4 s args wsX5_hasSoundMen RX5) (hret : zRi p l e ({ frames := 2, cells := 0, slots := 0, locals := 55 } : Room) s m args below meth c Q cX5_hasSoundMen D y A0 .boolean o) (n : Nat) : ∀ (x0 : Nat) (x1 : Int32) (x2 : Int32) (x3 : Int32) (S : ZS) (H : Heap) (locs : List Loc) (ls : Array Slot), f_X5_hasSoundMen_6 n x0 x1 x2 x3 S = some o → zH D y A0 s H locs S → lv_has ls 4 [(0, .ref (zh y x0)), (1, .int x1), (2, .int x2), (3, .int x3)] → W p l e ({ frames := 2, cells := 0, slots := 0, locals := 55 } : Room) s m args below meth c H locs 0 0 Q (F0 m 6 ls []) := by
  induction n with
  | zero => intro x0 x1 x2 x3 S H locs ls hf; cases hf
  | succ n ih => intro x0 x1 x2 x3 S H locs ls hf hM hl; exact ws_X5_hasSoundMen_6 X hret (self6 := f_X5_hasSoundMen_6 n) ih hf hM hl
noncomputable def f_X5_hasSoundMen_0 (x0 : Nat) (S : ZS) : Option (Int32 × ZS) :=
  f_X5_hasSoundMen_6 mFuel x0 (0 : Int32) (0 : Int32) (0 : Int32) S

set_option maxRecDepth 100000 in
set_option maxHeartbeats 4000000 in
theorem w_X5_hasSoundMen_0 {p : Program} {l : Launch} {e : Env} {s : State} {m : MethodId} {args : Array Value} {below : List Frame} {meth : Method} {c : Code} {Q : State → Prop} {D : va_G} {y : Nat → ClassId} {A0 : Nat → Prop} {o : Int32 × ZS} (X : CallFix p m c cX5_hasSoundMen 4 s args wsX5_hasSoundMen RX5) (hret : zRi p l e ({ frames := 2, cells := 0, slots := 0, locals := 55 } : Room) s m args below meth c Q cX5_hasSoundMen D y A0 .boolean o) {x0 : Nat} {S : ZS} {H : Heap} {locs : List Loc} {ls : Array Slot} (hf : f_X5_hasSoundMen_0 x0 S = some o) (hM : zH D y A0 s H locs S) (hl : lv_has ls 4 [(0, .ref (zh y x0))]) : W p l e ({ frames := 2, cells := 0, slots := 0, locals := 55 } : Room) s m args below meth c H locs 0 0 Q (F0 m 0 ls []) := by
  obtain ⟨hx, hb, hml, hown, hts⟩ := id X
  unfold f_X5_hasSoundMen_0 at hf
  refine lv_iconst (v := (0 : Int32)) hx hb dX5_hasSoundMen_0 (by decide) ?_
  refine lv_istore_n (lv' := [(1, .int (0 : Int32)), (0, .ref (zh y x0))]) hx hb dX5_hasSoundMen_1 rfl hl (by decide) rfl (fun ls hl => ?_)
  refine lv_iconst (v := (0 : Int32)) hx hb dX5_hasSoundMen_2 (by decide) ?_
  refine lv_istore_n (lv' := [(2, .int (0 : Int32)), (1, .int (0 : Int32)), (0, .ref (zh y x0))]) hx hb dX5_hasSoundMen_3 rfl hl (by decide) rfl (fun ls hl => ?_)
  refine lv_iconst (v := (0 : Int32)) hx hb dX5_hasSoundMen_4 (by decide) ?_
  refine lv_istore_n (lv' := [(3, .int (0 : Int32)), (2, .int (0 : Int32)), (1, .int (0 : Int32)), (0, .ref (zh y x0))]) hx hb dX5_hasSoundMen_5 rfl hl (by decide) rfl (fun ls hl => ?_)
  exact w_X5_hasSoundMen_6 X hret _ x0 (0 : Int32) (0 : Int32) (0 : Int32) _ _ _ _ hf hM (lv_sub hl [3, 2, 1, 0] rfl)
noncomputable def f_X5_hasSoundMen (x0 : Nat) (S : ZS) : Option (Int32 × ZS) := f_X5_hasSoundMen_0 x0 S
theorem c_X5_hasSoundMen {l : Launch} {D : va_G} {y : Nat → ClassId} {x0 : Nat} {S : ZS} {o : Int32 × ZS} (hf : f_X5_hasSoundMen x0 S = some o) : zMi l yX5_hasSoundMen wsX5_hasSoundMen ({ frames := 2, cells := 0, slots := 0, locals := 55 } : Room) [.ref (zh y x0)] D y S o :=
  z_entryI (own := RX5) (cc := cX5_hasSoundMen) (maxL := 4) (by decide) rfl rfl (Nat.le_of_ble_eq_true rfl) (fun p e s m args below meth c A0 Q H locs ls X hret hM hl => w_X5_hasSoundMen_0 X hret hf hM (lv_sub hl [0] rfl))
theorem hd_X5_hasSoundRights : yX5_hasSoundRights.cls ≠ "java/lang/invoke/MethodHandle" ∧ yX5_hasSoundRights.cls ≠ "java/lang/invoke/VarHandle" ∧ (parseMethodDescriptor yX5_hasSoundRights.desc).map (fun d => d.parameters.length) = some 1 := by decide +kernel
theorem fl_X5_hasSoundRights_0_0 : Cond.fieldLink RX5 115 "MoveTexts$Board" "men" "[I" ∈ wsX5_hasSoundRights := by decide +kernel
theorem fl_X5_hasSoundRights_0_4 : Cond.fieldLink RX5 99 "MoveTexts$Board" "rights" "I" ∈ wsX5_hasSoundRights := by decide +kernel
theorem hw_X5_hasSoundRights_0 : ∀ w ∈ wsX00, w ∈ wsX5_hasSoundRights := by decide +kernel
theorem sr_X5_hasSoundRights_91 : (RX5, 91, "KQkq", 2) ∈ zSR := by decide +kernel
noncomputable def f_X5_hasSoundRights_92 (self2 : Nat → Int32 → ZS → Option (Int32 × ZS)) (x0 : Nat) (x1 : Int32) (S : ZS) : Option (Int32 × ZS) :=
  m_bnd (x1 + (1 : Int32)) (fun v1 =>
  self2 x0 v1 S)

set_option maxRecDepth 100000 in
set_option maxHeartbeats 4000000 in
theorem w_X5_hasSoundRights_92 {p : Program} {l : Launch} {e : Env} {s : State} {m : MethodId} {args : Array Value} {below : List Frame} {meth : Method} {c : Code} {Q : State → Prop} {D : va_G} {y : Nat → ClassId} {A0 : Nat → Prop} {o : Int32 × ZS} (X : CallFix p m c cX5_hasSoundRights 5 s args wsX5_hasSoundRights RX5) (hret : zRi p l e ({ frames := 2, cells := 0, slots := 0, locals := 40 } : Room) s m args below meth c Q cX5_hasSoundRights D y A0 .boolean o) {self2 : Nat → Int32 → ZS → Option (Int32 × ZS)} (hself2 : ∀ (x0 : Nat) (x1 : Int32) (S : ZS) (H : Heap) (locs : List Loc) (ls : Array Slot), self2 x0 x1 S = some o → zH D y A0 s H locs S → lv_has ls 5 [(0, .ref (zh y x0)), (1, .int x1)] → W p l e ({ frames := 2, cells := 0, slots := 0, locals := 40 } : Room) s m args below meth c H locs 0 0 Q (F0 m 2 ls [])) {x0 : Nat} {x1 : Int32} {S : ZS} {H : Heap} {locs : List Loc} {ls : Array Slot} (hf : f_X5_hasSoundRights_92 self2 x0 x1 S = some o) (hM : zH D y A0 s H locs S) (hl : lv_has ls 5 [(0, .ref (zh y x0)), (1, .int x1)]) : W p l e ({ frames := 2, cells := 0, slots := 0, locals := 40 } : Room) s m args below meth c H locs 0 0 Q (F0 m 92 ls []) := by
  obtain ⟨hx, hb, hml, hown, hts⟩ := id X
  unfold f_X5_hasSoundRights_92 at hf
  obtain ⟨v1, ev, hf⟩ := m_bndE hf
  refine lv_iinc (v := v1) (lv' := [(1, .int v1), (0, .ref (zh y x0))]) hx hb dX5_hasSoundRights_92 hl (k := 1) rfl (by rw [ev]; rfl) (by decide) rfl (fun ls hl => ?_)
  clear ev
  refine lv_goto (tgt := 2) hx hb dX5_hasSoundRights_95 (by decide) ?_
  exact hself2 x0 v1 _ _ _ _ hf hM (lv_sub hl [1, 0] rfl)
noncomputable def f_X5_hasSoundRights_90 (S : ZS) : Option (Int32 × ZS) :=
  m_chk (vp_nar .boolean (0 : Int32) = (0 : Int32)) (some ((0 : Int32), S))

set_option maxRecDepth 100000 in
set_option maxHeartbeats 4000000 in
theorem w_X5_hasSoundRights_90 {p : Program} {l : Launch} {e : Env} {s : State} {m : MethodId} {args : Array Value} {below : List Frame} {meth : Method} {c : Code} {Q : State → Prop} {D : va_G} {y : Nat → ClassId} {A0 : Nat → Prop} {o : Int32 × ZS} (X : CallFix p m c cX5_hasSoundRights 5 s args wsX5_hasSoundRights RX5) (hret : zRi p l e ({ frames := 2, cells := 0, slots := 0, locals := 40 } : Room) s m args below meth c Q cX5_hasSoundRights D y A0 .boolean o) {S : ZS} {H : Heap} {locs : List Loc} {ls : Array Slot} (hf : f_X5_hasSoundRights_90  S = some o) (hM : zH D y A0 s H locs S) (hl : lv_has ls 5 []) : W p l e ({ frames := 2, cells := 0, slots := 0, locals := 40 } : Room) s m args below meth c H locs 0 0 Q (F0 m 90 ls []) := by
  obtain ⟨hx, hb, hml, hown, hts⟩ := id X
  unfold f_X5_hasSoundRights_90 at hf
  refine lv_iconst (v := (0 : Int32)) hx hb dX5_hasSoundRights_90 (by decide) ?_
  obtain ⟨cd, hf⟩ := m_chkE hf
  cases hf
  exact hret H locs _ ls hM (m_nb cd) dX5_hasSoundRights_91
noncomputable def f_X5_hasSoundRights_50 (self2 : Nat → Int32 → ZS → Option (Int32 × ZS)) (x0 : Nat) (x1 : Int32) (x2 : Int32) (x3 : Int32) (t0 : Int32) (S : ZS) : Option (Int32 × ZS) :=
  m_chk (zK S x0 = 0) (
  m_bnd ((zI S 4 x0) >>> (x1 &&& 31)) (fun v1 =>
  m_bnd (v1 &&& (1 : Int32)) (fun v2 =>
  m_if (v2 = (1 : Int32)) (
  m_chk (zK S x0 = 0) (
  m_cal (zP S 0 x0) (fun b3 =>
  m_chk (zK S b3 = 14) (
  m_chk (¬ (x3 < 0 ∨ zN S b3 ≤ (x3).toNatClampNeg)) (
  m_bnd (zA S b3 (x3).toNatClampNeg) (fun v4 =>
  m_bnd ((6 : Int32) + x2) (fun v5 =>
  m_if (v4 = v5) (
  m_chk (zK S x0 = 0) (
  m_cal (zP S 0 x0) (fun b6 =>
  m_chk (zK S b6 = 14) (
  m_chk (¬ (t0 < 0 ∨ zN S b6 ≤ (t0).toNatClampNeg)) (
  m_bnd (zA S b6 (t0).toNatClampNeg) (fun v7 =>
  m_bnd ((4 : Int32) + x2) (fun v8 =>
  m_if (v7 = v8) (
  f_X5_hasSoundRights_92 self2 x0 x1 S
  ) (
  f_X5_hasSoundRights_90  S
  )))))))
  ) (
  f_X5_hasSoundRights_90  S
  )))))))
  ) (
  f_X5_hasSoundRights_92 self2 x0 x1 S
  ))))

set_option maxRecDepth 100000 in
set_option maxHeartbeats 4000000 in
theorem w_X5_hasSoundRights_50 {p : Program} {l : Launch} {e : Env} {s : State} {m : MethodId} {args : Array Value} {below : List Frame} {meth : Method} {c : Code} {Q : State → Prop} {D : va_G} {y : Nat → ClassId} {A0 : Nat → Prop} {o : Int32 × ZS} (X : CallFix p m c cX5_hasSoundRights 5 s args wsX5_hasSoundRights RX5) (hret : zRi p l e ({ frames := 2, cells := 0, slots := 0, locals := 40 } : Room) s m args below meth c Q cX5_hasSoundRights D y A0 .boolean o) {self2 : Nat → Int32 → ZS → Option (Int32 × ZS)} (hself2 : ∀ (x0 : Nat) (x1 : Int32) (S : ZS) (H : Heap) (locs : List Loc) (ls : Array Slot), self2 x0 x1 S = some o → zH D y A0 s H locs S → lv_has ls 5 [(0, .ref (zh y x0)), (1, .int x1)] → W p l e ({ frames := 2, cells := 0, slots := 0, locals := 40 } : Room) s m args below meth c H locs 0 0 Q (F0 m 2 ls [])) {x0 : Nat} {x1 : Int32} {x2 : Int32} {x3 : Int32} {t0 : Int32} {S : ZS} {H : Heap} {locs : List Loc} {ls : Array Slot} (hf : f_X5_hasSoundRights_50 self2 x0 x1 x2 x3 t0 S = some o) (hM : zH D y A0 s H locs S) (hl : lv_has ls 5 [(0, .ref (zh y x0)), (1, .int x1), (2, .int x2), (3, .int x3)]) : W p l e ({ frames := 2, cells := 0, slots := 0, locals := 40 } : Room) s m args below meth c H locs 0 0 Q (F0 m 50 ls [.int t0]) := by
  obtain ⟨hx, hb, hml, hown, hts⟩ := id X
  unfold f_X5_hasSoundRights_50 at hf
  refine lv_istore (lv' := [(4, .int t0), (0, .ref (zh y x0)), (1, .int x1), (2, .int x2), (3, .int x3)]) hx hb dX5_hasSoundRights_50 hl (by decide) rfl (fun ls hl => ?_)
  refine lv_aload_n hx hb dX5_hasSoundRights_52 rfl (lv_at hl 1 rfl) ?_
  obtain ⟨ca, hf⟩ := m_chkE hf
  replace ca := z_in hM (by decide) ca
  refine z_get (k := 0) (j := 4) (C := RX0) (T := TX0) (N := 7) (fl := zf_0) (v := .int (zI S 4 x0)) X hw_X5_hasSoundRights_0 hM rfl zc_0 ca (by decide) fl_X5_hasSoundRights_0_4 rfl dX5_hasSoundRights_53 ?_
  clear ca
  refine lv_iload_n hx hb dX5_hasSoundRights_56 rfl (lv_at hl 2 rfl) ?_
  refine lv_ishr hx hb dX5_hasSoundRights_57 ?_
  obtain ⟨v1, ev, hf⟩ := m_bndE hf
  refine m_top ev ?_
  clear ev
  refine lv_iconst (v := (1 : Int32)) hx hb dX5_hasSoundRights_58 (by decide) ?_
  refine lv_iand hx hb dX5_hasSoundRights_59 ?_
  obtain ⟨v2, ev, hf⟩ := m_bndE hf
  refine m_top ev ?_
  clear ev
  refine lv_iconst (v := (1 : Int32)) hx hb dX5_hasSoundRights_60 (by decide) ?_
  refine lv_icmp_ne (tgt := 92) hx hb dX5_hasSoundRights_61 (by decide) (fun cc1 => ?_) (fun cc1 => ?_)
  · replace hf := m_ifF hf cc1
    exact w_X5_hasSoundRights_92 (x0 := x0) (x1 := x1) X hret hself2 hf hM (lv_sub hl [1, 2] rfl)
  · replace hf := m_ifT hf cc1
    refine lv_aload_n hx hb dX5_hasSoundRights_64 rfl (lv_at hl 1 rfl) ?_
    obtain ⟨ca, hf⟩ := m_chkE hf
    replace ca := z_in hM (by decide) ca
    refine z_get (k := 0) (j := 0) (C := RX0) (T := TX0) (N := 7) (fl := zf_0) (v := va_rf ((zP S 0 x0).map (zh y))) X hw_X5_hasSoundRights_0 hM rfl zc_0 ca (by decide) fl_X5_hasSoundRights_0_0 rfl dX5_hasSoundRights_65 ?_
    clear ca
    obtain ⟨b3, hb9, hf⟩ := m_calE hf
    refine z_topr hb9 ?_
    clear hb9
    refine lv_iload_n hx hb dX5_hasSoundRights_68 rfl (lv_at hl 4 rfl) ?_
    obtain ⟨ca, hf⟩ := m_chkE hf
    replace ca := z_in hM (by decide) ca
    obtain ⟨cd, hf⟩ := m_chkE hf
    refine z_iald X hM ca cd dX5_hasSoundRights_69 ?_
    clear ca cd
    obtain ⟨v4, ev, hf⟩ := m_bndE hf
    refine m_top ev ?_
    clear ev
    refine lv_bipush (v := (6 : Int32)) hx hb dX5_hasSoundRights_70 (by decide) ?_
    refine lv_iload_n hx hb dX5_hasSoundRights_72 rfl (lv_at hl 3 rfl) ?_
    refine lv_iadd hx hb dX5_hasSoundRights_73 ?_
    obtain ⟨v5, ev, hf⟩ := m_bndE hf
    refine m_top ev ?_
    clear ev
    refine lv_icmp_ne (tgt := 90) hx hb dX5_hasSoundRights_74 (by decide) (fun cc1 => ?_) (fun cc1 => ?_)
    · replace hf := m_ifF hf cc1
      exact w_X5_hasSoundRights_90 X hret hf hM (lv_sub hl [] rfl)
    · replace hf := m_ifT hf cc1
      refine lv_aload_n hx hb dX5_hasSoundRights_77 rfl (lv_at hl 1 rfl) ?_
      obtain ⟨ca, hf⟩ := m_chkE hf
      replace ca := z_in hM (by decide) ca
      refine z_get (k := 0) (j := 0) (C := RX0) (T := TX0) (N := 7) (fl := zf_0) (v := va_rf ((zP S 0 x0).map (zh y))) X hw_X5_hasSoundRights_0 hM rfl zc_0 ca (by decide) fl_X5_hasSoundRights_0_0 rfl dX5_hasSoundRights_78 ?_
      clear ca
      obtain ⟨b6, hb9, hf⟩ := m_calE hf
      refine z_topr hb9 ?_
      clear hb9
      refine lv_iload hx hb dX5_hasSoundRights_81 (lv_at hl 0 rfl) ?_
      obtain ⟨ca, hf⟩ := m_chkE hf
      replace ca := z_in hM (by decide) ca
      obtain ⟨cd, hf⟩ := m_chkE hf
      refine z_iald X hM ca cd dX5_hasSoundRights_83 ?_
      clear ca cd
      obtain ⟨v7, ev, hf⟩ := m_bndE hf
      refine m_top ev ?_
      clear ev
      refine lv_iconst (v := (4 : Int32)) hx hb dX5_hasSoundRights_84 (by decide) ?_
      refine lv_iload_n hx hb dX5_hasSoundRights_85 rfl (lv_at hl 3 rfl) ?_
      refine lv_iadd hx hb dX5_hasSoundRights_86 ?_
      obtain ⟨v8, ev, hf⟩ := m_bndE hf
      refine m_top ev ?_
      clear ev
      refine lv_icmp_eq (tgt := 92) hx hb dX5_hasSoundRights_87 (by decide) (fun cc1 => ?_) (fun cc1 => ?_)
      · replace hf := m_ifT hf cc1
        exact w_X5_hasSoundRights_92 (x0 := x0) (x1 := x1) X hret hself2 hf hM (lv_sub hl [1, 2] rfl)
      · replace hf := m_ifF hf cc1
        exact w_X5_hasSoundRights_90 X hret hf hM (lv_sub hl [] rfl)
noncomputable def f_X5_hasSoundRights_34 (self2 : Nat → Int32 → ZS → Option (Int32 × ZS)) (x0 : Nat) (x1 : Int32) (x2 : Int32) (t0 : Int32) (S : ZS) : Option (Int32 × ZS) :=
  m_bnd (x1 - x1 / (2 : Int32) * (2 : Int32)) (fun v1 =>
  m_if (v1 = 0) (
  m_bnd (t0 + (3 : Int32)) (fun v3 =>
  f_X5_hasSoundRights_50 self2 x0 x1 x2 t0 v3 S)
  ) (
  m_bnd (t0 - (4 : Int32)) (fun v2 =>
  f_X5_hasSoundRights_50 self2 x0 x1 x2 t0 v2 S)
  ))

set_option maxRecDepth 100000 in
set_option maxHeartbeats 4000000 in
theorem w_X5_hasSoundRights_34 {p : Program} {l : Launch} {e : Env} {s : State} {m : MethodId} {args : Array Value} {below : List Frame} {meth : Method} {c : Code} {Q : State → Prop} {D : va_G} {y : Nat → ClassId} {A0 : Nat → Prop} {o : Int32 × ZS} (X : CallFix p m c cX5_hasSoundRights 5 s args wsX5_hasSoundRights RX5) (hret : zRi p l e ({ frames := 2, cells := 0, slots := 0, locals := 40 } : Room) s m args below meth c Q cX5_hasSoundRights D y A0 .boolean o) {self2 : Nat → Int32 → ZS → Option (Int32 × ZS)} (hself2 : ∀ (x0 : Nat) (x1 : Int32) (S : ZS) (H : Heap) (locs : List Loc) (ls : Array Slot), self2 x0 x1 S = some o → zH D y A0 s H locs S → lv_has ls 5 [(0, .ref (zh y x0)), (1, .int x1)] → W p l e ({ frames := 2, cells := 0, slots := 0, locals := 40 } : Room) s m args below meth c H locs 0 0 Q (F0 m 2 ls [])) {x0 : Nat} {x1 : Int32} {x2 : Int32} {t0 : Int32} {S : ZS} {H : Heap} {locs : List Loc} {ls : Array Slot} (hf : f_X5_hasSoundRights_34 self2 x0 x1 x2 t0 S = some o) (hM : zH D y A0 s H locs S) (hl : lv_has ls 5 [(0, .ref (zh y x0)), (1, .int x1), (2, .int x2)]) : W p l e ({ frames := 2, cells := 0, slots := 0, locals := 40 } : Room) s m args below meth c H locs 0 0 Q (F0 m 34 ls [.int t0]) := by
  obtain ⟨hx, hb, hml, hown, hts⟩ := id X
  unfold f_X5_hasSoundRights_34 at hf
  refine lv_istore_n (lv' := [(3, .int t0), (0, .ref (zh y x0)), (1, .int x1), (2, .int x2)]) hx hb dX5_hasSoundRights_34 rfl hl (by decide) rfl (fun ls hl => ?_)
  refine lv_iload_n hx hb dX5_hasSoundRights_35 rfl (lv_at hl 2 rfl) ?_
  refine lv_iconst (v := (2 : Int32)) hx hb dX5_hasSoundRights_36 (by decide) ?_
  refine lv_irem hx hb dX5_hasSoundRights_37 (by decide) ?_
  obtain ⟨v1, ev, hf⟩ := m_bndE hf
  refine m_top ev ?_
  clear ev
  refine lv_if_ne (tgt := 47) hx hb dX5_hasSoundRights_38 (by decide) (fun cc1 => ?_) (fun cc1 => ?_)
  · replace hf := m_ifF hf cc1
    refine lv_iload_n hx hb dX5_hasSoundRights_47 rfl (lv_at hl 0 rfl) ?_
    refine lv_iconst (v := (4 : Int32)) hx hb dX5_hasSoundRights_48 (by decide) ?_
    refine lv_isub hx hb dX5_hasSoundRights_49 ?_
    obtain ⟨v2, ev, hf⟩ := m_bndE hf
    refine m_top ev ?_
    clear ev
    exact w_X5_hasSoundRights_50 (x0 := x0) (x1 := x1) (x2 := x2) (x3 := t0) (t0 := v2) X hret hself2 hf hM (lv_sub hl [1, 2, 3, 0] rfl)
  · replace hf := m_ifT hf cc1
    refine lv_iload_n hx hb dX5_hasSoundRights_41 rfl (lv_at hl 0 rfl) ?_
    refine lv_iconst (v := (3 : Int32)) hx hb dX5_hasSoundRights_42 (by decide) ?_
    refine lv_iadd hx hb dX5_hasSoundRights_43 ?_
    obtain ⟨v3, ev, hf⟩ := m_bndE hf
    refine m_top ev ?_
    clear ev
    refine lv_goto (tgt := 50) hx hb dX5_hasSoundRights_44 (by decide) ?_
    exact w_X5_hasSoundRights_50 (x0 := x0) (x1 := x1) (x2 := x2) (x3 := t0) (t0 := v3) X hret hself2 hf hM (lv_sub hl [1, 2, 3, 0] rfl)
noncomputable def f_X5_hasSoundRights_22 (self2 : Nat → Int32 → ZS → Option (Int32 × ZS)) (x0 : Nat) (x1 : Int32) (t0 : Int32) (S : ZS) : Option (Int32 × ZS) :=
  m_if ((2 : Int32) ≤ x1) (
  f_X5_hasSoundRights_34 self2 x0 x1 t0 (60 : Int32) S
  ) (
  f_X5_hasSoundRights_34 self2 x0 x1 t0 (4 : Int32) S
  )

set_option maxRecDepth 100000 in
set_option maxHeartbeats 4000000 in
theorem w_X5_hasSoundRights_22 {p : Program} {l : Launch} {e : Env} {s : State} {m : MethodId} {args : Array Value} {below : List Frame} {meth : Method} {c : Code} {Q : State → Prop} {D : va_G} {y : Nat → ClassId} {A0 : Nat → Prop} {o : Int32 × ZS} (X : CallFix p m c cX5_hasSoundRights 5 s args wsX5_hasSoundRights RX5) (hret : zRi p l e ({ frames := 2, cells := 0, slots := 0, locals := 40 } : Room) s m args below meth c Q cX5_hasSoundRights D y A0 .boolean o) {self2 : Nat → Int32 → ZS → Option (Int32 × ZS)} (hself2 : ∀ (x0 : Nat) (x1 : Int32) (S : ZS) (H : Heap) (locs : List Loc) (ls : Array Slot), self2 x0 x1 S = some o → zH D y A0 s H locs S → lv_has ls 5 [(0, .ref (zh y x0)), (1, .int x1)] → W p l e ({ frames := 2, cells := 0, slots := 0, locals := 40 } : Room) s m args below meth c H locs 0 0 Q (F0 m 2 ls [])) {x0 : Nat} {x1 : Int32} {t0 : Int32} {S : ZS} {H : Heap} {locs : List Loc} {ls : Array Slot} (hf : f_X5_hasSoundRights_22 self2 x0 x1 t0 S = some o) (hM : zH D y A0 s H locs S) (hl : lv_has ls 5 [(0, .ref (zh y x0)), (1, .int x1)]) : W p l e ({ frames := 2, cells := 0, slots := 0, locals := 40 } : Room) s m args below meth c H locs 0 0 Q (F0 m 22 ls [.int t0]) := by
  obtain ⟨hx, hb, hml, hown, hts⟩ := id X
  unfold f_X5_hasSoundRights_22 at hf
  refine lv_istore_n (lv' := [(2, .int t0), (0, .ref (zh y x0)), (1, .int x1)]) hx hb dX5_hasSoundRights_22 rfl hl (by decide) rfl (fun ls hl => ?_)
  refine lv_iload_n hx hb dX5_hasSoundRights_23 rfl (lv_at hl 2 rfl) ?_
  refine lv_iconst (v := (2 : Int32)) hx hb dX5_hasSoundRights_24 (by decide) ?_
  refine lv_icmp_ge (tgt := 32) hx hb dX5_hasSoundRights_25 (by decide) (fun cc1 => ?_) (fun cc1 => ?_)
  · replace hf := m_ifT hf cc1
    refine lv_bipush (v := (60 : Int32)) hx hb dX5_hasSoundRights_32 (by decide) ?_
    exact w_X5_hasSoundRights_34 (x0 := x0) (x1 := x1) (x2 := t0) (t0 := (60 : Int32)) X hret hself2 hf hM (lv_sub hl [1, 2, 0] rfl)
  · replace hf := m_ifF hf cc1
    refine lv_iconst (v := (4 : Int32)) hx hb dX5_hasSoundRights_28 (by decide) ?_
    refine lv_goto (tgt := 34) hx hb dX5_hasSoundRights_29 (by decide) ?_
    exact w_X5_hasSoundRights_34 (x0 := x0) (x1 := x1) (x2 := t0) (t0 := (4 : Int32)) X hret hself2 hf hM (lv_sub hl [1, 2, 0] rfl)
noncomputable def f_X5_hasSoundRights_2s (self2 : Nat → Int32 → ZS → Option (Int32 × ZS)) (x0 : Nat) (x1 : Int32) (S : ZS) : Option (Int32 × ZS) :=
  m_chk (2 < zSn) (
  m_cal (f_J0_length_8abf5 2 S) (fun o1 =>
  m_if (o1.1 ≤ x1) (
  m_chk (vp_nar .boolean (1 : Int32) = (1 : Int32)) (some ((1 : Int32), o1.2))
  ) (
  m_if ((2 : Int32) ≤ x1) (
  f_X5_hasSoundRights_22 self2 x0 x1 (8 : Int32) o1.2
  ) (
  f_X5_hasSoundRights_22 self2 x0 x1 (0 : Int32) o1.2
  )
  )))

set_option maxRecDepth 100000 in
set_option maxHeartbeats 4000000 in
theorem ws_X5_hasSoundRights_2 {p : Program} {l : Launch} {e : Env} {s : State} {m : MethodId} {args : Array Value} {below : List Frame} {meth : Method} {c : Code} {Q : State → Prop} {D : va_G} {y : Nat → ClassId} {A0 : Nat → Prop} {o : Int32 × ZS} (X : CallFix p m c cX5_hasSoundRights 5 s args wsX5_hasSoundRights RX5) (hret : zRi p l e ({ frames := 2, cells := 0, slots := 0, locals := 40 } : Room) s m args below meth c Q cX5_hasSoundRights D y A0 .boolean o) {self2 : Nat → Int32 → ZS → Option (Int32 × ZS)} (hself2 : ∀ (x0 : Nat) (x1 : Int32) (S : ZS) (H : Heap) (locs : List Loc) (ls : Array Slot), self2 x0 x1 S = some o → zH D y A0 s H locs S → lv_has ls 5 [(0, .ref (zh y x0)), (1, .int x1)] → W p l e ({ frames := 2, cells := 0, slots := 0, locals := 40 } : Room) s m args below meth c H locs 0 0 Q (F0 m 2 ls [])) {x0 : Nat} {x1 : Int32} {S : ZS} {H : Heap} {locs : List Loc} {ls : Array Slot} (hf : f_X5_hasSoundRights_2s self2 x0 x1 S = some o) (hM : zH D y A0 s H locs S) (hl : lv_has ls 5 [(0, .ref (zh y x0)), (1, .int x1)]) : W p l e ({ frames := 2, cells := 0, slots := 0, locals := 40 } : Room) s m args below meth c H locs 0 0 Q (F0 m 2 ls []) := by
  obtain ⟨hx, hb, hml, hown, hts⟩ := id X
  unfold f_X5_hasSoundRights_2s at hf
  refine lv_iload_n hx hb dX5_hasSoundRights_2 rfl (lv_at hl 1 rfl) ?_
  refine z_ldcS X hM sr_X5_hasSoundRights_91 dX5_hasSoundRights_3 ?_
  obtain ⟨ca, hf⟩ := m_chkE hf
  obtain ⟨o1, ho, hf⟩ := m_calE hf
  refine z_callTi X hM ca (c_J0_length_8abf5 ho) gX5_hasSoundRights_J0_length_8abf5 rfl ⟨rfl, rfl⟩ hd_J0_length_8abf5 ⟨Nat.le_of_ble_eq_true rfl, Nat.le_of_ble_eq_true rfl⟩ rfl hl.1 rfl (Nat.le_of_ble_eq_true rfl) dX5_hasSoundRights_5 (fun H locs hM => ?_)
  clear ho
  refine lv_icmp_ge (tgt := 98) hx hb dX5_hasSoundRights_8 (by decide) (fun cc1 => ?_) (fun cc1 => ?_)
  · replace hf := m_ifT hf cc1
    refine lv_iconst (v := (1 : Int32)) hx hb dX5_hasSoundRights_98 (by decide) ?_
    obtain ⟨cd, hf⟩ := m_chkE hf
    cases hf
    exact hret H locs _ ls hM (m_nb cd) dX5_hasSoundRights_99
  · replace hf := m_ifF hf cc1
    refine lv_iload_n hx hb dX5_hasSoundRights_11 rfl (lv_at hl 1 rfl) ?_
    refine lv_iconst (v := (2 : Int32)) hx hb dX5_hasSoundRights_12 (by decide) ?_
    refine lv_icmp_ge (tgt := 20) hx hb dX5_hasSoundRights_13 (by decide) (fun cc1 => ?_) (fun cc1 => ?_)
    · replace hf := m_ifT hf cc1
      refine lv_bipush (v := (8 : Int32)) hx hb dX5_hasSoundRights_20 (by decide) ?_
      exact w_X5_hasSoundRights_22 (x0 := x0) (x1 := x1) (t0 := (8 : Int32)) X hret hself2 hf hM (lv_sub hl [0, 1] rfl)
    · replace hf := m_ifF hf cc1
      refine lv_iconst (v := (0 : Int32)) hx hb dX5_hasSoundRights_16 (by decide) ?_
      refine lv_goto (tgt := 22) hx hb dX5_hasSoundRights_17 (by decide) ?_
      exact w_X5_hasSoundRights_22 (x0 := x0) (x1 := x1) (t0 := (0 : Int32)) X hret hself2 hf hM (lv_sub hl [0, 1] rfl)
noncomputable def f_X5_hasSoundRights_2 : Nat → Nat → Int32 → ZS → Option (Int32 × ZS)
  | 0 => fun _ _ _ => none
  | n + 1 => f_X5_hasSoundRights_2s (f_X5_hasSoundRights_2 n)
theorem w_X5_hasSoundRights_2 {p : Program} {l : Launch} {e : Env} {s : State} {m : MethodId} {args : Array Value} {below : List Frame} {meth : Method} {c : Code} {Q : State → Prop} {D : va_G} {y : Nat → ClassId} {A0 : Nat → Prop} {o : Int32 × ZS} (X : CallFix p m c cX5_hasSoundRights 5 s args wsX5_hasSoundRights RX5) (hret : zRi p l e ({ frames := 2, cells := 0, slots := 0, locals := 40 } : Room) s m args below meth c Q cX5_hasSoundRights D y A0 .boolean o) (n : Nat) : ∀ (x0 : Nat) (x1 : Int32) (S : ZS) (H : Heap) (locs : List Loc) (ls : Array Slot), f_X5_hasSoundRights_2 n x0 x1 S = some o → zH D y A0 s H locs S → lv_has ls 5 [(0, .ref (zh y x0)), (1, .int x1)] → W p l e ({ frames := 2, cells := 0, slots := 0, locals := 40 } : Room) s m args below meth c H locs 0 0 Q (F0 m 2 ls []) := by
  induction n with
  | zero => intro x0 x1 S H locs ls hf; cases hf
  | succ n ih => intro x0 x1 S H locs ls hf hM hl; exact ws_X5_hasSoundRights_2 X hret (self2 := f_X5_hasSoundRights_2 n) ih hf hM hl
noncomputable def f_X5_hasSoundRights_0 (x0 : Nat) (S : ZS) : Option (Int32 × ZS) :=
  f_X5_hasSoundRights_2 mFuel x0 (0 : Int32) S

set_option maxRecDepth 100000 in
set_option maxHeartbeats 4000000 in
theorem w_X5_hasSoundRights_0 {p : Program} {l : Launch} {e : Env} {s : State} {m : MethodId} {args : Array Value} {below : List Frame} {meth : Method} {c : Code} {Q : State → Prop} {D : va_G} {y : Nat → ClassId} {A0 : Nat → Prop} {o : Int32 × ZS} (X : CallFix p m c cX5_hasSoundRights 5 s args wsX5_hasSoundRights RX5) (hret : zRi p l e ({ frames := 2, cells := 0, slots := 0, locals := 40 } : Room) s m args below meth c Q cX5_hasSoundRights D y A0 .boolean o) {x0 : Nat} {S : ZS} {H : Heap} {locs : List Loc} {ls : Array Slot} (hf : f_X5_hasSoundRights_0 x0 S = some o) (hM : zH D y A0 s H locs S) (hl : lv_has ls 5 [(0, .ref (zh y x0))]) : W p l e ({ frames := 2, cells := 0, slots := 0, locals := 40 } : Room) s m args below meth c H locs 0 0 Q (F0 m 0 ls []) := by
  obtain ⟨hx, hb, hml, hown, hts⟩ := id X
  unfold f_X5_hasSoundRights_0 at hf
  refine lv_iconst (v := (0 : Int32)) hx hb dX5_hasSoundRights_0 (by decide) ?_
  refine lv_istore_n (lv' := [(1, .int (0 : Int32)), (0, .ref (zh y x0))]) hx hb dX5_hasSoundRights_1 rfl hl (by decide) rfl (fun ls hl => ?_)
  exact w_X5_hasSoundRights_2 X hret _ x0 (0 : Int32) _ _ _ _ hf hM (lv_sub hl [1, 0] rfl)
noncomputable def f_X5_hasSoundRights (x0 : Nat) (S : ZS) : Option (Int32 × ZS) := f_X5_hasSoundRights_0 x0 S
theorem c_X5_hasSoundRights {l : Launch} {D : va_G} {y : Nat → ClassId} {x0 : Nat} {S : ZS} {o : Int32 × ZS} (hf : f_X5_hasSoundRights x0 S = some o) : zMi l yX5_hasSoundRights wsX5_hasSoundRights ({ frames := 2, cells := 0, slots := 0, locals := 40 } : Room) [.ref (zh y x0)] D y S o :=
  z_entryI (own := RX5) (cc := cX5_hasSoundRights) (maxL := 5) (by decide) rfl rfl (Nat.le_of_ble_eq_true rfl) (fun p e s m args below meth c A0 Q H locs ls X hret hM hl => w_X5_hasSoundRights_0 X hret hf hM (lv_sub hl [0] rfl))
theorem hd_X5_hasSoundPassed : yX5_hasSoundPassed.cls ≠ "java/lang/invoke/MethodHandle" ∧ yX5_hasSoundPassed.cls ≠ "java/lang/invoke/VarHandle" ∧ (parseMethodDescriptor yX5_hasSoundPassed.desc).map (fun d => d.parameters.length) = some 1 := by decide +kernel
theorem fl_X5_hasSoundPassed_0_0 : Cond.fieldLink RX5 115 "MoveTexts$Board" "men" "[I" ∈ wsX5_hasSoundPassed := by decide +kernel
theorem fl_X5_hasSoundPassed_0_3 : Cond.fieldLink RX5 88 "MoveTexts$Board" "side" "I" ∈ wsX5_hasSoundPassed := by decide +kernel
theorem fl_X5_hasSoundPassed_0_5 : Cond.fieldLink RX5 106 "MoveTexts$Board" "passed" "I" ∈ wsX5_hasSoundPassed := by decide +kernel
theorem hw_X5_hasSoundPassed_0 : ∀ w ∈ wsX00, w ∈ wsX5_hasSoundPassed := by decide +kernel
noncomputable def f_X5_hasSoundPassed_49 (S : ZS) : Option (Int32 × ZS) :=
  m_chk (vp_nar .boolean (0 : Int32) = (0 : Int32)) (some ((0 : Int32), S))

set_option maxRecDepth 100000 in
set_option maxHeartbeats 4000000 in
theorem w_X5_hasSoundPassed_49 {p : Program} {l : Launch} {e : Env} {s : State} {m : MethodId} {args : Array Value} {below : List Frame} {meth : Method} {c : Code} {Q : State → Prop} {D : va_G} {y : Nat → ClassId} {A0 : Nat → Prop} {o : Int32 × ZS} (X : CallFix p m c cX5_hasSoundPassed 4 s args wsX5_hasSoundPassed RX5) (hret : zRi p l e ({ frames := 1, cells := 0, slots := 0, locals := 24 } : Room) s m args below meth c Q cX5_hasSoundPassed D y A0 .boolean o) {S : ZS} {H : Heap} {locs : List Loc} {ls : Array Slot} (hf : f_X5_hasSoundPassed_49  S = some o) (hM : zH D y A0 s H locs S) (hl : lv_has ls 4 []) : W p l e ({ frames := 1, cells := 0, slots := 0, locals := 24 } : Room) s m args below meth c H locs 0 0 Q (F0 m 49 ls []) := by
  obtain ⟨hx, hb, hml, hown, hts⟩ := id X
  unfold f_X5_hasSoundPassed_49 at hf
  refine lv_iconst (v := (0 : Int32)) hx hb dX5_hasSoundPassed_49 (by decide) ?_
  obtain ⟨cd, hf⟩ := m_chkE hf
  cases hf
  exact hret H locs _ ls hM (m_nb cd) dX5_hasSoundPassed_50
noncomputable def f_X5_hasSoundPassed_113 (t0 : Int32) (S : ZS) : Option (Int32 × ZS) :=
  m_chk (vp_nar .boolean t0 = t0) (some (t0, S))

set_option maxRecDepth 100000 in
set_option maxHeartbeats 4000000 in
theorem w_X5_hasSoundPassed_113 {p : Program} {l : Launch} {e : Env} {s : State} {m : MethodId} {args : Array Value} {below : List Frame} {meth : Method} {c : Code} {Q : State → Prop} {D : va_G} {y : Nat → ClassId} {A0 : Nat → Prop} {o : Int32 × ZS} (X : CallFix p m c cX5_hasSoundPassed 4 s args wsX5_hasSoundPassed RX5) (hret : zRi p l e ({ frames := 1, cells := 0, slots := 0, locals := 24 } : Room) s m args below meth c Q cX5_hasSoundPassed D y A0 .boolean o) {t0 : Int32} {S : ZS} {H : Heap} {locs : List Loc} {ls : Array Slot} (hf : f_X5_hasSoundPassed_113 t0 S = some o) (hM : zH D y A0 s H locs S) (hl : lv_has ls 4 []) : W p l e ({ frames := 1, cells := 0, slots := 0, locals := 24 } : Room) s m args below meth c H locs 0 0 Q (F0 m 113 ls [.int t0]) := by
  obtain ⟨hx, hb, hml, hown, hts⟩ := id X
  unfold f_X5_hasSoundPassed_113 at hf
  obtain ⟨cd, hf⟩ := m_chkE hf
  cases hf
  exact hret H locs _ ls hM (m_nb cd) dX5_hasSoundPassed_113
noncomputable def f_X5_hasSoundPassed_112 (S : ZS) : Option (Int32 × ZS) :=
  f_X5_hasSoundPassed_113 (0 : Int32) S

set_option maxRecDepth 100000 in
set_option maxHeartbeats 4000000 in
theorem w_X5_hasSoundPassed_112 {p : Program} {l : Launch} {e : Env} {s : State} {m : MethodId} {args : Array Value} {below : List Frame} {meth : Method} {c : Code} {Q : State → Prop} {D : va_G} {y : Nat → ClassId} {A0 : Nat → Prop} {o : Int32 × ZS} (X : CallFix p m c cX5_hasSoundPassed 4 s args wsX5_hasSoundPassed RX5) (hret : zRi p l e ({ frames := 1, cells := 0, slots := 0, locals := 24 } : Room) s m args below meth c Q cX5_hasSoundPassed D y A0 .boolean o) {S : ZS} {H : Heap} {locs : List Loc} {ls : Array Slot} (hf : f_X5_hasSoundPassed_112  S = some o) (hM : zH D y A0 s H locs S) (hl : lv_has ls 4 []) : W p l e ({ frames := 1, cells := 0, slots := 0, locals := 24 } : Room) s m args below meth c H locs 0 0 Q (F0 m 112 ls []) := by
  obtain ⟨hx, hb, hml, hown, hts⟩ := id X
  unfold f_X5_hasSoundPassed_112 at hf
  refine lv_iconst (v := (0 : Int32)) hx hb dX5_hasSoundPassed_112 (by decide) ?_
  exact w_X5_hasSoundPassed_113 (t0 := (0 : Int32)) X hret hf hM (lv_sub hl [] rfl)
noncomputable def f_X5_hasSoundPassed_62 (x0 : Nat) (x1 : Int32) (t0 : Int32) (S : ZS) : Option (Int32 × ZS) :=
  m_chk (zK S x0 = 0) (
  m_cal (zP S 0 x0) (fun b1 =>
  m_bnd (x1 + t0) (fun v2 =>
  m_chk (zK S b1 = 14) (
  m_chk (¬ (v2 < 0 ∨ zN S b1 ≤ (v2).toNatClampNeg)) (
  m_bnd (zA S b1 (v2).toNatClampNeg) (fun v3 =>
  m_chk (zK S x0 = 0) (
  m_bnd ((1 : Int32) - (zI S 3 x0)) (fun v4 =>
  m_bnd ((8 : Int32) * v4) (fun v5 =>
  m_bnd ((1 : Int32) + v5) (fun v6 =>
  m_if (v3 = v6) (
  m_chk (zK S x0 = 0) (
  m_cal (zP S 0 x0) (fun b7 =>
  m_bnd (x1 - t0) (fun v8 =>
  m_chk (zK S b7 = 14) (
  m_chk (¬ (v8 < 0 ∨ zN S b7 ≤ (v8).toNatClampNeg)) (
  m_bnd (zA S b7 (v8).toNatClampNeg) (fun v9 =>
  m_if (v9 = 0) (
  m_chk (zK S x0 = 0) (
  m_chk (zK S x0 = 0) (
  m_cal (f_X0_pawnAttacks x0 x1 (zI S 3 x0) S) (fun o10 =>
  m_if (o10.1 = 0) (
  f_X5_hasSoundPassed_112  o10.2
  ) (
  f_X5_hasSoundPassed_113 (1 : Int32) o10.2
  ))))
  ) (
  f_X5_hasSoundPassed_112  S
  )))))))
  ) (
  f_X5_hasSoundPassed_112  S
  )))))))))))

set_option maxRecDepth 100000 in
set_option maxHeartbeats 4000000 in
theorem w_X5_hasSoundPassed_62 {p : Program} {l : Launch} {e : Env} {s : State} {m : MethodId} {args : Array Value} {below : List Frame} {meth : Method} {c : Code} {Q : State → Prop} {D : va_G} {y : Nat → ClassId} {A0 : Nat → Prop} {o : Int32 × ZS} (X : CallFix p m c cX5_hasSoundPassed 4 s args wsX5_hasSoundPassed RX5) (hret : zRi p l e ({ frames := 1, cells := 0, slots := 0, locals := 24 } : Room) s m args below meth c Q cX5_hasSoundPassed D y A0 .boolean o) {x0 : Nat} {x1 : Int32} {t0 : Int32} {S : ZS} {H : Heap} {locs : List Loc} {ls : Array Slot} (hf : f_X5_hasSoundPassed_62 x0 x1 t0 S = some o) (hM : zH D y A0 s H locs S) (hl : lv_has ls 4 [(0, .ref (zh y x0)), (1, .int x1)]) : W p l e ({ frames := 1, cells := 0, slots := 0, locals := 24 } : Room) s m args below meth c H locs 0 0 Q (F0 m 62 ls [.int t0]) := by
  obtain ⟨hx, hb, hml, hown, hts⟩ := id X
  unfold f_X5_hasSoundPassed_62 at hf
  refine lv_istore_n (lv' := [(3, .int t0), (0, .ref (zh y x0)), (1, .int x1)]) hx hb dX5_hasSoundPassed_62 rfl hl (by decide) rfl (fun ls hl => ?_)
  refine lv_aload_n hx hb dX5_hasSoundPassed_63 rfl (lv_at hl 1 rfl) ?_
  obtain ⟨ca, hf⟩ := m_chkE hf
  replace ca := z_in hM (by decide) ca
  refine z_get (k := 0) (j := 0) (C := RX0) (T := TX0) (N := 7) (fl := zf_0) (v := va_rf ((zP S 0 x0).map (zh y))) X hw_X5_hasSoundPassed_0 hM rfl zc_0 ca (by decide) fl_X5_hasSoundPassed_0_0 rfl dX5_hasSoundPassed_64 ?_
  clear ca
  obtain ⟨b1, hb9, hf⟩ := m_calE hf
  refine z_topr hb9 ?_
  clear hb9
  refine lv_iload_n hx hb dX5_hasSoundPassed_67 rfl (lv_at hl 2 rfl) ?_
  refine lv_iload_n hx hb dX5_hasSoundPassed_68 rfl (lv_at hl 0 rfl) ?_
  refine lv_iadd hx hb dX5_hasSoundPassed_69 ?_
  obtain ⟨v2, ev, hf⟩ := m_bndE hf
  refine m_top ev ?_
  clear ev
  obtain ⟨ca, hf⟩ := m_chkE hf
  replace ca := z_in hM (by decide) ca
  obtain ⟨cd, hf⟩ := m_chkE hf
  refine z_iald X hM ca cd dX5_hasSoundPassed_70 ?_
  clear ca cd
  obtain ⟨v3, ev, hf⟩ := m_bndE hf
  refine m_top ev ?_
  clear ev
  refine lv_iconst (v := (1 : Int32)) hx hb dX5_hasSoundPassed_71 (by decide) ?_
  refine lv_bipush (v := (8 : Int32)) hx hb dX5_hasSoundPassed_72 (by decide) ?_
  refine lv_iconst (v := (1 : Int32)) hx hb dX5_hasSoundPassed_74 (by decide) ?_
  refine lv_aload_n hx hb dX5_hasSoundPassed_75 rfl (lv_at hl 1 rfl) ?_
  obtain ⟨ca, hf⟩ := m_chkE hf
  replace ca := z_in hM (by decide) ca
  refine z_get (k := 0) (j := 3) (C := RX0) (T := TX0) (N := 7) (fl := zf_0) (v := .int (zI S 3 x0)) X hw_X5_hasSoundPassed_0 hM rfl zc_0 ca (by decide) fl_X5_hasSoundPassed_0_3 rfl dX5_hasSoundPassed_76 ?_
  clear ca
  refine lv_isub hx hb dX5_hasSoundPassed_79 ?_
  obtain ⟨v4, ev, hf⟩ := m_bndE hf
  refine m_top ev ?_
  clear ev
  refine lv_imul hx hb dX5_hasSoundPassed_80 ?_
  obtain ⟨v5, ev, hf⟩ := m_bndE hf
  refine m_top ev ?_
  clear ev
  refine lv_iadd hx hb dX5_hasSoundPassed_81 ?_
  obtain ⟨v6, ev, hf⟩ := m_bndE hf
  refine m_top ev ?_
  clear ev
  refine lv_icmp_ne (tgt := 112) hx hb dX5_hasSoundPassed_82 (by decide) (fun cc1 => ?_) (fun cc1 => ?_)
  · replace hf := m_ifF hf cc1
    exact w_X5_hasSoundPassed_112 X hret hf hM (lv_sub hl [] rfl)
  · replace hf := m_ifT hf cc1
    refine lv_aload_n hx hb dX5_hasSoundPassed_85 rfl (lv_at hl 1 rfl) ?_
    obtain ⟨ca, hf⟩ := m_chkE hf
    replace ca := z_in hM (by decide) ca
    refine z_get (k := 0) (j := 0) (C := RX0) (T := TX0) (N := 7) (fl := zf_0) (v := va_rf ((zP S 0 x0).map (zh y))) X hw_X5_hasSoundPassed_0 hM rfl zc_0 ca (by decide) fl_X5_hasSoundPassed_0_0 rfl dX5_hasSoundPassed_86 ?_
    clear ca
    obtain ⟨b7, hb9, hf⟩ := m_calE hf
    refine z_topr hb9 ?_
    clear hb9
    refine lv_iload_n hx hb dX5_hasSoundPassed_89 rfl (lv_at hl 2 rfl) ?_
    refine lv_iload_n hx hb dX5_hasSoundPassed_90 rfl (lv_at hl 0 rfl) ?_
    refine lv_isub hx hb dX5_hasSoundPassed_91 ?_
    obtain ⟨v8, ev, hf⟩ := m_bndE hf
    refine m_top ev ?_
    clear ev
    obtain ⟨ca, hf⟩ := m_chkE hf
    replace ca := z_in hM (by decide) ca
    obtain ⟨cd, hf⟩ := m_chkE hf
    refine z_iald X hM ca cd dX5_hasSoundPassed_92 ?_
    clear ca cd
    obtain ⟨v9, ev, hf⟩ := m_bndE hf
    refine m_top ev ?_
    clear ev
    refine lv_if_ne (tgt := 112) hx hb dX5_hasSoundPassed_93 (by decide) (fun cc1 => ?_) (fun cc1 => ?_)
    · replace hf := m_ifF hf cc1
      exact w_X5_hasSoundPassed_112 X hret hf hM (lv_sub hl [] rfl)
    · replace hf := m_ifT hf cc1
      refine lv_aload_n hx hb dX5_hasSoundPassed_96 rfl (lv_at hl 1 rfl) ?_
      refine lv_iload_n hx hb dX5_hasSoundPassed_97 rfl (lv_at hl 2 rfl) ?_
      refine lv_aload_n hx hb dX5_hasSoundPassed_98 rfl (lv_at hl 1 rfl) ?_
      obtain ⟨ca, hf⟩ := m_chkE hf
      replace ca := z_in hM (by decide) ca
      refine z_get (k := 0) (j := 3) (C := RX0) (T := TX0) (N := 7) (fl := zf_0) (v := .int (zI S 3 x0)) X hw_X5_hasSoundPassed_0 hM rfl zc_0 ca (by decide) fl_X5_hasSoundPassed_0_3 rfl dX5_hasSoundPassed_99 ?_
      clear ca
      obtain ⟨ca, hf⟩ := m_chkE hf
      replace ca := z_in hM (by decide) ca
      obtain ⟨o10, ho, hf⟩ := m_calE hf
      refine z_callVi (k := 0) (C := RX0) (T := TX0) (N := 7) (fl := zf_0) X hM rfl zc_0 ca (c_X0_pawnAttacks ho) gX5_hasSoundPassed_X0_pawnAttacks rfl ⟨rfl, rfl⟩ hd_X0_pawnAttacks ⟨Nat.le_of_ble_eq_true rfl, Nat.le_of_ble_eq_true rfl⟩ rfl hl.1 rfl (Nat.le_of_ble_eq_true rfl) dX5_hasSoundPassed_102 (fun H locs hM => ?_)
      clear ho
      refine lv_if_eq (tgt := 112) hx hb dX5_hasSoundPassed_105 (by decide) (fun cc1 => ?_) (fun cc1 => ?_)
      · replace hf := m_ifT hf cc1
        exact w_X5_hasSoundPassed_112 X hret hf hM (lv_sub hl [] rfl)
      · replace hf := m_ifF hf cc1
        refine lv_iconst (v := (1 : Int32)) hx hb dX5_hasSoundPassed_108 (by decide) ?_
        refine lv_goto (tgt := 113) hx hb dX5_hasSoundPassed_109 (by decide) ?_
        exact w_X5_hasSoundPassed_113 (t0 := (1 : Int32)) X hret hf hM (lv_sub hl [] rfl)
noncomputable def f_X5_hasSoundPassed_37 (x0 : Nat) (x1 : Int32) (x2 : Int32) (t0 : Int32) (t1 : Int32) (S : ZS) : Option (Int32 × ZS) :=
  m_if (t1 = t0) (
  m_chk (zK S x0 = 0) (
  m_cal (zP S 0 x0) (fun b1 =>
  m_chk (zK S b1 = 14) (
  m_chk (¬ (x1 < 0 ∨ zN S b1 ≤ (x1).toNatClampNeg)) (
  m_bnd (zA S b1 (x1).toNatClampNeg) (fun v2 =>
  m_if (v2 = 0) (
  m_if (x2 = 0) (
  f_X5_hasSoundPassed_62 x0 x1 (8 : Int32) S
  ) (
  f_X5_hasSoundPassed_62 x0 x1 (-8 : Int32) S
  )
  ) (
  f_X5_hasSoundPassed_49  S
  ))))))
  ) (
  f_X5_hasSoundPassed_49  S
  )

set_option maxRecDepth 100000 in
set_option maxHeartbeats 4000000 in
theorem w_X5_hasSoundPassed_37 {p : Program} {l : Launch} {e : Env} {s : State} {m : MethodId} {args : Array Value} {below : List Frame} {meth : Method} {c : Code} {Q : State → Prop} {D : va_G} {y : Nat → ClassId} {A0 : Nat → Prop} {o : Int32 × ZS} (X : CallFix p m c cX5_hasSoundPassed 4 s args wsX5_hasSoundPassed RX5) (hret : zRi p l e ({ frames := 1, cells := 0, slots := 0, locals := 24 } : Room) s m args below meth c Q cX5_hasSoundPassed D y A0 .boolean o) {x0 : Nat} {x1 : Int32} {x2 : Int32} {t0 : Int32} {t1 : Int32} {S : ZS} {H : Heap} {locs : List Loc} {ls : Array Slot} (hf : f_X5_hasSoundPassed_37 x0 x1 x2 t0 t1 S = some o) (hM : zH D y A0 s H locs S) (hl : lv_has ls 4 [(0, .ref (zh y x0)), (1, .int x1), (2, .int x2)]) : W p l e ({ frames := 1, cells := 0, slots := 0, locals := 24 } : Room) s m args below meth c H locs 0 0 Q (F0 m 37 ls [.int t0, .int t1]) := by
  obtain ⟨hx, hb, hml, hown, hts⟩ := id X
  unfold f_X5_hasSoundPassed_37 at hf
  refine lv_icmp_ne (tgt := 49) hx hb dX5_hasSoundPassed_37 (by decide) (fun cc1 => ?_) (fun cc1 => ?_)
  · replace hf := m_ifF hf cc1
    exact w_X5_hasSoundPassed_49 X hret hf hM (lv_sub hl [] rfl)
  · replace hf := m_ifT hf cc1
    refine lv_aload_n hx hb dX5_hasSoundPassed_40 rfl (lv_at hl 0 rfl) ?_
    obtain ⟨ca, hf⟩ := m_chkE hf
    replace ca := z_in hM (by decide) ca
    refine z_get (k := 0) (j := 0) (C := RX0) (T := TX0) (N := 7) (fl := zf_0) (v := va_rf ((zP S 0 x0).map (zh y))) X hw_X5_hasSoundPassed_0 hM rfl zc_0 ca (by decide) fl_X5_hasSoundPassed_0_0 rfl dX5_hasSoundPassed_41 ?_
    clear ca
    obtain ⟨b1, hb9, hf⟩ := m_calE hf
    refine z_topr hb9 ?_
    clear hb9
    refine lv_iload_n hx hb dX5_hasSoundPassed_44 rfl (lv_at hl 1 rfl) ?_
    obtain ⟨ca, hf⟩ := m_chkE hf
    replace ca := z_in hM (by decide) ca
    obtain ⟨cd, hf⟩ := m_chkE hf
    refine z_iald X hM ca cd dX5_hasSoundPassed_45 ?_
    clear ca cd
    obtain ⟨v2, ev, hf⟩ := m_bndE hf
    refine m_top ev ?_
    clear ev
    refine lv_if_eq (tgt := 51) hx hb dX5_hasSoundPassed_46 (by decide) (fun cc1 => ?_) (fun cc1 => ?_)
    · replace hf := m_ifT hf cc1
      refine lv_iload_n hx hb dX5_hasSoundPassed_51 rfl (lv_at hl 2 rfl) ?_
      refine lv_if_eq (tgt := 60) hx hb dX5_hasSoundPassed_52 (by decide) (fun cc1 => ?_) (fun cc1 => ?_)
      · replace hf := m_ifT hf cc1
        refine lv_bipush (v := (8 : Int32)) hx hb dX5_hasSoundPassed_60 (by decide) ?_
        exact w_X5_hasSoundPassed_62 (x0 := x0) (x1 := x1) (t0 := (8 : Int32)) X hret hf hM (lv_sub hl [0, 1] rfl)
      · replace hf := m_ifF hf cc1
        refine lv_bipush (v := (-8 : Int32)) hx hb dX5_hasSoundPassed_55 (by decide) ?_
        refine lv_goto (tgt := 62) hx hb dX5_hasSoundPassed_57 (by decide) ?_
        exact w_X5_hasSoundPassed_62 (x0 := x0) (x1 := x1) (t0 := (-8 : Int32)) X hret hf hM (lv_sub hl [0, 1] rfl)
    · replace hf := m_ifF hf cc1
      exact w_X5_hasSoundPassed_49 X hret hf hM (lv_sub hl [] rfl)
noncomputable def f_X5_hasSoundPassed_24 (x0 : Nat) (x1 : Int32) (t0 : Int32) (S : ZS) : Option (Int32 × ZS) :=
  m_bnd (x1 >>> ((3 : Int32) &&& 31)) (fun v1 =>
  m_if (t0 = 0) (
  f_X5_hasSoundPassed_37 x0 x1 t0 (2 : Int32) v1 S
  ) (
  f_X5_hasSoundPassed_37 x0 x1 t0 (5 : Int32) v1 S
  ))

set_option maxRecDepth 100000 in
set_option maxHeartbeats 4000000 in
theorem w_X5_hasSoundPassed_24 {p : Program} {l : Launch} {e : Env} {s : State} {m : MethodId} {args : Array Value} {below : List Frame} {meth : Method} {c : Code} {Q : State → Prop} {D : va_G} {y : Nat → ClassId} {A0 : Nat → Prop} {o : Int32 × ZS} (X : CallFix p m c cX5_hasSoundPassed 4 s args wsX5_hasSoundPassed RX5) (hret : zRi p l e ({ frames := 1, cells := 0, slots := 0, locals := 24 } : Room) s m args below meth c Q cX5_hasSoundPassed D y A0 .boolean o) {x0 : Nat} {x1 : Int32} {t0 : Int32} {S : ZS} {H : Heap} {locs : List Loc} {ls : Array Slot} (hf : f_X5_hasSoundPassed_24 x0 x1 t0 S = some o) (hM : zH D y A0 s H locs S) (hl : lv_has ls 4 [(0, .ref (zh y x0)), (1, .int x1)]) : W p l e ({ frames := 1, cells := 0, slots := 0, locals := 24 } : Room) s m args below meth c H locs 0 0 Q (F0 m 24 ls [.int t0]) := by
  obtain ⟨hx, hb, hml, hown, hts⟩ := id X
  unfold f_X5_hasSoundPassed_24 at hf
  refine lv_istore_n (lv' := [(2, .int t0), (0, .ref (zh y x0)), (1, .int x1)]) hx hb dX5_hasSoundPassed_24 rfl hl (by decide) rfl (fun ls hl => ?_)
  refine lv_iload_n hx hb dX5_hasSoundPassed_25 rfl (lv_at hl 2 rfl) ?_
  refine lv_iconst (v := (3 : Int32)) hx hb dX5_hasSoundPassed_26 (by decide) ?_
  refine lv_ishr hx hb dX5_hasSoundPassed_27 ?_
  obtain ⟨v1, ev, hf⟩ := m_bndE hf
  refine m_top ev ?_
  clear ev
  refine lv_iload_n hx hb dX5_hasSoundPassed_28 rfl (lv_at hl 0 rfl) ?_
  refine lv_if_eq (tgt := 36) hx hb dX5_hasSoundPassed_29 (by decide) (fun cc1 => ?_) (fun cc1 => ?_)
  · replace hf := m_ifT hf cc1
    refine lv_iconst (v := (2 : Int32)) hx hb dX5_hasSoundPassed_36 (by decide) ?_
    exact w_X5_hasSoundPassed_37 (x0 := x0) (x1 := x1) (x2 := t0) (t0 := (2 : Int32)) (t1 := v1) X hret hf hM (lv_sub hl [1, 2, 0] rfl)
  · replace hf := m_ifF hf cc1
    refine lv_iconst (v := (5 : Int32)) hx hb dX5_hasSoundPassed_32 (by decide) ?_
    refine lv_goto (tgt := 37) hx hb dX5_hasSoundPassed_33 (by decide) ?_
    exact w_X5_hasSoundPassed_37 (x0 := x0) (x1 := x1) (x2 := t0) (t0 := (5 : Int32)) (t1 := v1) X hret hf hM (lv_sub hl [1, 2, 0] rfl)
noncomputable def f_X5_hasSoundPassed_0 (x0 : Nat) (S : ZS) : Option (Int32 × ZS) :=
  m_chk (zK S x0 = 0) (
  m_if ((zI S 5 x0) = (-1 : Int32)) (
  m_chk (vp_nar .boolean (1 : Int32) = (1 : Int32)) (some ((1 : Int32), S))
  ) (
  m_chk (zK S x0 = 0) (
  m_if ((zI S 3 x0) = 0) (
  f_X5_hasSoundPassed_24 x0 (zI S 5 x0) (1 : Int32) S
  ) (
  f_X5_hasSoundPassed_24 x0 (zI S 5 x0) (0 : Int32) S
  ))
  ))

set_option maxRecDepth 100000 in
set_option maxHeartbeats 4000000 in
theorem w_X5_hasSoundPassed_0 {p : Program} {l : Launch} {e : Env} {s : State} {m : MethodId} {args : Array Value} {below : List Frame} {meth : Method} {c : Code} {Q : State → Prop} {D : va_G} {y : Nat → ClassId} {A0 : Nat → Prop} {o : Int32 × ZS} (X : CallFix p m c cX5_hasSoundPassed 4 s args wsX5_hasSoundPassed RX5) (hret : zRi p l e ({ frames := 1, cells := 0, slots := 0, locals := 24 } : Room) s m args below meth c Q cX5_hasSoundPassed D y A0 .boolean o) {x0 : Nat} {S : ZS} {H : Heap} {locs : List Loc} {ls : Array Slot} (hf : f_X5_hasSoundPassed_0 x0 S = some o) (hM : zH D y A0 s H locs S) (hl : lv_has ls 4 [(0, .ref (zh y x0))]) : W p l e ({ frames := 1, cells := 0, slots := 0, locals := 24 } : Room) s m args below meth c H locs 0 0 Q (F0 m 0 ls []) := by
  obtain ⟨hx, hb, hml, hown, hts⟩ := id X
  unfold f_X5_hasSoundPassed_0 at hf
  refine lv_aload_n hx hb dX5_hasSoundPassed_0 rfl (lv_at hl 0 rfl) ?_
  obtain ⟨ca, hf⟩ := m_chkE hf
  replace ca := z_in hM (by decide) ca
  refine z_get (k := 0) (j := 5) (C := RX0) (T := TX0) (N := 7) (fl := zf_0) (v := .int (zI S 5 x0)) X hw_X5_hasSoundPassed_0 hM rfl zc_0 ca (by decide) fl_X5_hasSoundPassed_0_5 rfl dX5_hasSoundPassed_1 ?_
  clear ca
  refine lv_istore_n (lv' := [(1, .int (zI S 5 x0)), (0, .ref (zh y x0))]) hx hb dX5_hasSoundPassed_4 rfl hl (by decide) rfl (fun ls hl => ?_)
  refine lv_iload_n hx hb dX5_hasSoundPassed_5 rfl (lv_at hl 0 rfl) ?_
  refine lv_iconst (v := (-1 : Int32)) hx hb dX5_hasSoundPassed_6 (by decide) ?_
  refine lv_icmp_ne (tgt := 12) hx hb dX5_hasSoundPassed_7 (by decide) (fun cc1 => ?_) (fun cc1 => ?_)
  · replace hf := m_ifF hf cc1
    refine lv_aload_n hx hb dX5_hasSoundPassed_12 rfl (lv_at hl 1 rfl) ?_
    obtain ⟨ca, hf⟩ := m_chkE hf
    replace ca := z_in hM (by decide) ca
    refine z_get (k := 0) (j := 3) (C := RX0) (T := TX0) (N := 7) (fl := zf_0) (v := .int (zI S 3 x0)) X hw_X5_hasSoundPassed_0 hM rfl zc_0 ca (by decide) fl_X5_hasSoundPassed_0_3 rfl dX5_hasSoundPassed_13 ?_
    clear ca
    refine lv_if_ne (tgt := 23) hx hb dX5_hasSoundPassed_16 (by decide) (fun cc1 => ?_) (fun cc1 => ?_)
    · replace hf := m_ifF hf cc1
      refine lv_iconst (v := (0 : Int32)) hx hb dX5_hasSoundPassed_23 (by decide) ?_
      exact w_X5_hasSoundPassed_24 (x0 := x0) (x1 := (zI S 5 x0)) (t0 := (0 : Int32)) X hret hf hM (lv_sub hl [1, 0] rfl)
    · replace hf := m_ifT hf cc1
      refine lv_iconst (v := (1 : Int32)) hx hb dX5_hasSoundPassed_19 (by decide) ?_
      refine lv_goto (tgt := 24) hx hb dX5_hasSoundPassed_20 (by decide) ?_
      exact w_X5_hasSoundPassed_24 (x0 := x0) (x1 := (zI S 5 x0)) (t0 := (1 : Int32)) X hret hf hM (lv_sub hl [1, 0] rfl)
  · replace hf := m_ifT hf cc1
    refine lv_iconst (v := (1 : Int32)) hx hb dX5_hasSoundPassed_10 (by decide) ?_
    obtain ⟨cd, hf⟩ := m_chkE hf
    cases hf
    exact hret H locs _ ls hM (m_nb cd) dX5_hasSoundPassed_11
noncomputable def f_X5_hasSoundPassed (x0 : Nat) (S : ZS) : Option (Int32 × ZS) := f_X5_hasSoundPassed_0 x0 S
theorem c_X5_hasSoundPassed {l : Launch} {D : va_G} {y : Nat → ClassId} {x0 : Nat} {S : ZS} {o : Int32 × ZS} (hf : f_X5_hasSoundPassed x0 S = some o) : zMi l yX5_hasSoundPassed wsX5_hasSoundPassed ({ frames := 1, cells := 0, slots := 0, locals := 24 } : Room) [.ref (zh y x0)] D y S o :=
  z_entryI (own := RX5) (cc := cX5_hasSoundPassed) (maxL := 4) (by decide) rfl rfl (Nat.le_of_ble_eq_true rfl) (fun p e s m args below meth c A0 Q H locs ls X hret hM hl => w_X5_hasSoundPassed_0 X hret hf hM (lv_sub hl [0] rfl))
theorem hd_X5_readInto : yX5_readInto.cls = RX5 ∧ yX5_readInto.cls ≠ "java/lang/invoke/MethodHandle" ∧ yX5_readInto.cls ≠ "java/lang/invoke/VarHandle" ∧ (parseMethodDescriptor yX5_readInto.desc).map (fun d => d.parameters.length) = some 2 := by decide +kernel
theorem fl_X5_readInto_5_0 : Cond.fieldLink RX5 12 "MoveTexts$PositionReader" "text" "LMoveTexts$Row;" ∈ wsX5_readInto := by decide +kernel
theorem fl_X5_readInto_5_1 : Cond.fieldLink RX5 18 "MoveTexts$PositionReader" "at" "I" ∈ wsX5_readInto := by decide +kernel
theorem hw_X5_readInto_5 : ∀ w ∈ wsX50, w ∈ wsX5_readInto := by decide +kernel
noncomputable def f_X5_readInto_146 (t0 : Int32) (S : ZS) : Option (Int32 × ZS) :=
  m_chk (vp_nar .boolean t0 = t0) (some (t0, S))

set_option maxRecDepth 100000 in
set_option maxHeartbeats 4000000 in
theorem w_X5_readInto_146 {p : Program} {l : Launch} {e : Env} {s : State} {m : MethodId} {args : Array Value} {below : List Frame} {meth : Method} {c : Code} {Q : State → Prop} {D : va_G} {y : Nat → ClassId} {A0 : Nat → Prop} {o : Int32 × ZS} (X : CallFix p m c cX5_readInto 3 s args wsX5_readInto RX5) (hret : zRi p l e ({ frames := 6, cells := 0, slots := 0, locals := 140 } : Room) s m args below meth c Q cX5_readInto D y A0 .boolean o) {t0 : Int32} {S : ZS} {H : Heap} {locs : List Loc} {ls : Array Slot} (hf : f_X5_readInto_146 t0 S = some o) (hM : zH D y A0 s H locs S) (hl : lv_has ls 3 []) : W p l e ({ frames := 6, cells := 0, slots := 0, locals := 140 } : Room) s m args below meth c H locs 0 0 Q (F0 m 146 ls [.int t0]) := by
  obtain ⟨hx, hb, hml, hown, hts⟩ := id X
  unfold f_X5_readInto_146 at hf
  obtain ⟨cd, hf⟩ := m_chkE hf
  cases hf
  exact hret H locs _ ls hM (m_nb cd) dX5_readInto_146
noncomputable def f_X5_readInto_145 (S : ZS) : Option (Int32 × ZS) :=
  f_X5_readInto_146 (0 : Int32) S

set_option maxRecDepth 100000 in
set_option maxHeartbeats 4000000 in
theorem w_X5_readInto_145 {p : Program} {l : Launch} {e : Env} {s : State} {m : MethodId} {args : Array Value} {below : List Frame} {meth : Method} {c : Code} {Q : State → Prop} {D : va_G} {y : Nat → ClassId} {A0 : Nat → Prop} {o : Int32 × ZS} (X : CallFix p m c cX5_readInto 3 s args wsX5_readInto RX5) (hret : zRi p l e ({ frames := 6, cells := 0, slots := 0, locals := 140 } : Room) s m args below meth c Q cX5_readInto D y A0 .boolean o) {S : ZS} {H : Heap} {locs : List Loc} {ls : Array Slot} (hf : f_X5_readInto_145  S = some o) (hM : zH D y A0 s H locs S) (hl : lv_has ls 3 []) : W p l e ({ frames := 6, cells := 0, slots := 0, locals := 140 } : Room) s m args below meth c H locs 0 0 Q (F0 m 145 ls []) := by
  obtain ⟨hx, hb, hml, hown, hts⟩ := id X
  unfold f_X5_readInto_145 at hf
  refine lv_iconst (v := (0 : Int32)) hx hb dX5_readInto_145 (by decide) ?_
  exact w_X5_readInto_146 (t0 := (0 : Int32)) X hret hf hM (lv_sub hl [] rfl)
noncomputable def f_X5_readInto_0 (x0 : Nat) (x1 : Nat) (x2 : Nat) (S : ZS) : Option (Int32 × ZS) :=
  m_chk (zK S x0 = 5) (
  m_bnd (zsP S 0 x0 (some x2)) (fun S1 =>
  m_chk (zK S1 x0 = 5) (
  m_bnd (zsI S1 1 x0 (0 : Int32)) (fun S2 =>
  m_chk (zK S2 x1 = 0) (
  m_cal (f_X0_wipe x1 S2) (fun o3 =>
  m_chk (zK o3.2 x0 = 5) (
  m_cal (f_X5_readMen x0 x1 o3.2) (fun o4 =>
  m_if (o4.1 = 0) (
  f_X5_readInto_145  o4.2
  ) (
  m_chk (zK o4.2 x0 = 5) (
  m_cal (f_X5_skip x0 (32 : Int32) o4.2) (fun o5 =>
  m_if (o5.1 = 0) (
  f_X5_readInto_145  o5.2
  ) (
  m_chk (zK o5.2 x0 = 5) (
  m_cal (f_X5_readSide x0 x1 o5.2) (fun o6 =>
  m_if (o6.1 = 0) (
  f_X5_readInto_145  o6.2
  ) (
  m_chk (zK o6.2 x0 = 5) (
  m_cal (f_X5_skip x0 (32 : Int32) o6.2) (fun o7 =>
  m_if (o7.1 = 0) (
  f_X5_readInto_145  o7.2
  ) (
  m_chk (zK o7.2 x0 = 5) (
  m_cal (f_X5_readRights x0 x1 o7.2) (fun o8 =>
  m_if (o8.1 = 0) (
  f_X5_readInto_145  o8.2
  ) (
  m_chk (zK o8.2 x0 = 5) (
  m_cal (f_X5_skip x0 (32 : Int32) o8.2) (fun o9 =>
  m_if (o9.1 = 0) (
  f_X5_readInto_145  o9.2
  ) (
  m_chk (zK o9.2 x0 = 5) (
  m_cal (f_X5_readPassed x0 x1 o9.2) (fun o10 =>
  m_if (o10.1 = 0) (
  f_X5_readInto_145  o10.2
  ) (
  m_chk (zK o10.2 x0 = 5) (
  m_cal (f_X5_skip x0 (32 : Int32) o10.2) (fun o11 =>
  m_if (o11.1 = 0) (
  f_X5_readInto_145  o11.2
  ) (
  m_chk (zK o11.2 x0 = 5) (
  m_cal (f_X5_readNumber x0 o11.2) (fun o12 =>
  m_if (o12.1 < 0) (
  f_X5_readInto_145  o12.2
  ) (
  m_chk (zK o12.2 x0 = 5) (
  m_cal (f_X5_skip x0 (32 : Int32) o12.2) (fun o13 =>
  m_if (o13.1 = 0) (
  f_X5_readInto_145  o13.2
  ) (
  m_chk (zK o13.2 x0 = 5) (
  m_cal (f_X5_readMoveNumber x0 x1 o13.2) (fun o14 =>
  m_if (o14.1 = 0) (
  f_X5_readInto_145  o14.2
  ) (
  m_chk (zK o14.2 x0 = 5) (
  m_chk (zK o14.2 x0 = 5) (
  m_cal (zP o14.2 0 x0) (fun b15 =>
  m_chk (zK o14.2 b15 = 6) (
  m_cal (f_X6_size b15 o14.2) (fun o16 =>
  m_if ((zI o14.2 1 x0) = o16.1) (
  m_cal (f_X5_hasSoundMen x1 o16.2) (fun o17 =>
  m_if (o17.1 = 0) (
  f_X5_readInto_145  o17.2
  ) (
  m_cal (f_X5_hasSoundRights x1 o17.2) (fun o18 =>
  m_if (o18.1 = 0) (
  f_X5_readInto_145  o18.2
  ) (
  m_cal (f_X5_hasSoundPassed x1 o18.2) (fun o19 =>
  m_if (o19.1 = 0) (
  f_X5_readInto_145  o19.2
  ) (
  f_X5_readInto_146 (1 : Int32) o19.2
  ))
  ))
  ))
  ) (
  f_X5_readInto_145  o16.2
  ))))))
  )))
  )))
  )))
  )))
  )))
  )))
  )))
  )))
  )))
  )))
  )))))))))

set_option maxRecDepth 100000 in
set_option maxHeartbeats 4000000 in
theorem w_X5_readInto_0 {p : Program} {l : Launch} {e : Env} {s : State} {m : MethodId} {args : Array Value} {below : List Frame} {meth : Method} {c : Code} {Q : State → Prop} {D : va_G} {y : Nat → ClassId} {A0 : Nat → Prop} {o : Int32 × ZS} (X : CallFix p m c cX5_readInto 3 s args wsX5_readInto RX5) (hret : zRi p l e ({ frames := 6, cells := 0, slots := 0, locals := 140 } : Room) s m args below meth c Q cX5_readInto D y A0 .boolean o) {x0 : Nat} {x1 : Nat} {x2 : Nat} {S : ZS} {H : Heap} {locs : List Loc} {ls : Array Slot} (hf : f_X5_readInto_0 x0 x1 x2 S = some o) (hM : zH D y A0 s H locs S) (hl : lv_has ls 3 [(0, .ref (zh y x0)), (1, .ref (zh y x1)), (2, .ref (zh y x2))]) : W p l e ({ frames := 6, cells := 0, slots := 0, locals := 140 } : Room) s m args below meth c H locs 0 0 Q (F0 m 0 ls []) := by
  obtain ⟨hx, hb, hml, hown, hts⟩ := id X
  unfold f_X5_readInto_0 at hf
  refine lv_aload_n hx hb dX5_readInto_0 rfl (lv_at hl 0 rfl) ?_
  refine lv_aload_n hx hb dX5_readInto_1 rfl (lv_at hl 2 rfl) ?_
  obtain ⟨ca, hf⟩ := m_chkE hf
  replace ca := z_in hM (by decide) ca
  refine z_putP (k := 5) (j := 0) (C := RX5) (T := TX5) (N := 2) (fl := zf_5) (ty := tyX5 0) X hw_X5_readInto_5 tyX5_ok nmX5 hM rfl zc_5 ca (by decide) fl_X5_readInto_5_0 rfl (tyX5_ok 0 (by decide)) rfl rfl zp_5_0 (Nat.le_of_ble_eq_true rfl) dX5_readInto_2 (fun H locs hM => ?_)
  clear ca
  obtain ⟨S1, ev, hf⟩ := m_bndE hf
  replace hM := z_hS hM ev
  clear ev
  refine lv_aload_n hx hb dX5_readInto_5 rfl (lv_at hl 0 rfl) ?_
  refine lv_iconst (v := (0 : Int32)) hx hb dX5_readInto_6 (by decide) ?_
  obtain ⟨ca, hf⟩ := m_chkE hf
  replace ca := z_in hM (by decide) ca
  refine z_putI (k := 5) (j := 1) (C := RX5) (T := TX5) (N := 2) (fl := zf_5) (ty := .int) X hw_X5_readInto_5 tyX5_ok nmX5 hM rfl zc_5 ca (by decide) fl_X5_readInto_5_1 rfl (tyX5_ok 1 (by decide)) rfl rfl zi_5_1 (Nat.le_of_ble_eq_true rfl) dX5_readInto_7 (fun H locs hM => ?_)
  clear ca
  obtain ⟨S2, ev, hf⟩ := m_bndE hf
  replace hM := z_hS hM ev
  clear ev
  refine lv_aload_n hx hb dX5_readInto_10 rfl (lv_at hl 1 rfl) ?_
  obtain ⟨ca, hf⟩ := m_chkE hf
  replace ca := z_in hM (by decide) ca
  obtain ⟨o3, ho, hf⟩ := m_calE hf
  refine z_callVv (k := 0) (C := RX0) (T := TX0) (N := 7) (fl := zf_0) X hM rfl zc_0 ca (c_X0_wipe ho) gX5_readInto_X0_wipe rfl ⟨rfl, rfl⟩ hd_X0_wipe ⟨Nat.le_of_ble_eq_true rfl, Nat.le_of_ble_eq_true rfl⟩ rfl hl.1 rfl (Nat.le_of_ble_eq_true rfl) dX5_readInto_11 (fun H locs hM => ?_)
  clear ho
  refine lv_aload_n hx hb dX5_readInto_14 rfl (lv_at hl 0 rfl) ?_
  refine lv_aload_n hx hb dX5_readInto_15 rfl (lv_at hl 1 rfl) ?_
  obtain ⟨ca, hf⟩ := m_chkE hf
  replace ca := z_in hM (by decide) ca
  obtain ⟨o4, ho, hf⟩ := m_calE hf
  refine z_callVi (k := 5) (C := RX5) (T := TX5) (N := 2) (fl := zf_5) X hM rfl zc_5 ca (c_X5_readMen ho) gX5_readInto_X5_readMen rfl ⟨rfl, rfl⟩ hd_X5_readMen ⟨Nat.le_of_ble_eq_true rfl, Nat.le_of_ble_eq_true rfl⟩ rfl hl.1 rfl (Nat.le_of_ble_eq_true rfl) dX5_readInto_16 (fun H locs hM => ?_)
  clear ho
  refine lv_if_eq (tgt := 145) hx hb dX5_readInto_19 (by decide) (fun cc1 => ?_) (fun cc1 => ?_)
  · replace hf := m_ifT hf cc1
    exact w_X5_readInto_145 X hret hf hM (lv_sub hl [] rfl)
  · replace hf := m_ifF hf cc1
    refine lv_aload_n hx hb dX5_readInto_22 rfl (lv_at hl 0 rfl) ?_
    refine lv_bipush (v := (32 : Int32)) hx hb dX5_readInto_23 (by decide) ?_
    obtain ⟨ca, hf⟩ := m_chkE hf
    replace ca := z_in hM (by decide) ca
    obtain ⟨o5, ho, hf⟩ := m_calE hf
    refine z_callVi (k := 5) (C := RX5) (T := TX5) (N := 2) (fl := zf_5) X hM rfl zc_5 ca (c_X5_skip ho) gX5_readInto_X5_skip rfl ⟨rfl, rfl⟩ hd_X5_skip ⟨Nat.le_of_ble_eq_true rfl, Nat.le_of_ble_eq_true rfl⟩ rfl hl.1 rfl (Nat.le_of_ble_eq_true rfl) dX5_readInto_25 (fun H locs hM => ?_)
    clear ho
    refine lv_if_eq (tgt := 145) hx hb dX5_readInto_28 (by decide) (fun cc1 => ?_) (fun cc1 => ?_)
    · replace hf := m_ifT hf cc1
      exact w_X5_readInto_145 X hret hf hM (lv_sub hl [] rfl)
    · replace hf := m_ifF hf cc1
      refine lv_aload_n hx hb dX5_readInto_31 rfl (lv_at hl 0 rfl) ?_
      refine lv_aload_n hx hb dX5_readInto_32 rfl (lv_at hl 1 rfl) ?_
      obtain ⟨ca, hf⟩ := m_chkE hf
      replace ca := z_in hM (by decide) ca
      obtain ⟨o6, ho, hf⟩ := m_calE hf
      refine z_callVi (k := 5) (C := RX5) (T := TX5) (N := 2) (fl := zf_5) X hM rfl zc_5 ca (c_X5_readSide ho) gX5_readInto_X5_readSide rfl ⟨rfl, rfl⟩ hd_X5_readSide ⟨Nat.le_of_ble_eq_true rfl, Nat.le_of_ble_eq_true rfl⟩ rfl hl.1 rfl (Nat.le_of_ble_eq_true rfl) dX5_readInto_33 (fun H locs hM => ?_)
      clear ho
      refine lv_if_eq (tgt := 145) hx hb dX5_readInto_36 (by decide) (fun cc1 => ?_) (fun cc1 => ?_)
      · replace hf := m_ifT hf cc1
        exact w_X5_readInto_145 X hret hf hM (lv_sub hl [] rfl)
      · replace hf := m_ifF hf cc1
        refine lv_aload_n hx hb dX5_readInto_39 rfl (lv_at hl 0 rfl) ?_
        refine lv_bipush (v := (32 : Int32)) hx hb dX5_readInto_40 (by decide) ?_
        obtain ⟨ca, hf⟩ := m_chkE hf
        replace ca := z_in hM (by decide) ca
        obtain ⟨o7, ho, hf⟩ := m_calE hf
        refine z_callVi (k := 5) (C := RX5) (T := TX5) (N := 2) (fl := zf_5) X hM rfl zc_5 ca (c_X5_skip ho) gX5_readInto_X5_skip rfl ⟨rfl, rfl⟩ hd_X5_skip ⟨Nat.le_of_ble_eq_true rfl, Nat.le_of_ble_eq_true rfl⟩ rfl hl.1 rfl (Nat.le_of_ble_eq_true rfl) dX5_readInto_42 (fun H locs hM => ?_)
        clear ho
        refine lv_if_eq (tgt := 145) hx hb dX5_readInto_45 (by decide) (fun cc1 => ?_) (fun cc1 => ?_)
        · replace hf := m_ifT hf cc1
          exact w_X5_readInto_145 X hret hf hM (lv_sub hl [] rfl)
        · replace hf := m_ifF hf cc1
          refine lv_aload_n hx hb dX5_readInto_48 rfl (lv_at hl 0 rfl) ?_
          refine lv_aload_n hx hb dX5_readInto_49 rfl (lv_at hl 1 rfl) ?_
          obtain ⟨ca, hf⟩ := m_chkE hf
          replace ca := z_in hM (by decide) ca
          obtain ⟨o8, ho, hf⟩ := m_calE hf
          refine z_callVi (k := 5) (C := RX5) (T := TX5) (N := 2) (fl := zf_5) X hM rfl zc_5 ca (c_X5_readRights ho) gX5_readInto_X5_readRights rfl ⟨rfl, rfl⟩ hd_X5_readRights ⟨Nat.le_of_ble_eq_true rfl, Nat.le_of_ble_eq_true rfl⟩ rfl hl.1 rfl (Nat.le_of_ble_eq_true rfl) dX5_readInto_50 (fun H locs hM => ?_)
          clear ho
          refine lv_if_eq (tgt := 145) hx hb dX5_readInto_53 (by decide) (fun cc1 => ?_) (fun cc1 => ?_)
          · replace hf := m_ifT hf cc1
            exact w_X5_readInto_145 X hret hf hM (lv_sub hl [] rfl)
          · replace hf := m_ifF hf cc1
            refine lv_aload_n hx hb dX5_readInto_56 rfl (lv_at hl 0 rfl) ?_
            refine lv_bipush (v := (32 : Int32)) hx hb dX5_readInto_57 (by decide) ?_
            obtain ⟨ca, hf⟩ := m_chkE hf
            replace ca := z_in hM (by decide) ca
            obtain ⟨o9, ho, hf⟩ := m_calE hf
            refine z_callVi (k := 5) (C := RX5) (T := TX5) (N := 2) (fl := zf_5) X hM rfl zc_5 ca (c_X5_skip ho) gX5_readInto_X5_skip rfl ⟨rfl, rfl⟩ hd_X5_skip ⟨Nat.le_of_ble_eq_true rfl, Nat.le_of_ble_eq_true rfl⟩ rfl hl.1 rfl (Nat.le_of_ble_eq_true rfl) dX5_readInto_59 (fun H locs hM => ?_)
            clear ho
            refine lv_if_eq (tgt := 145) hx hb dX5_readInto_62 (by decide) (fun cc1 => ?_) (fun cc1 => ?_)
            · replace hf := m_ifT hf cc1
              exact w_X5_readInto_145 X hret hf hM (lv_sub hl [] rfl)
            · replace hf := m_ifF hf cc1
              refine lv_aload_n hx hb dX5_readInto_65 rfl (lv_at hl 0 rfl) ?_
              refine lv_aload_n hx hb dX5_readInto_66 rfl (lv_at hl 1 rfl) ?_
              obtain ⟨ca, hf⟩ := m_chkE hf
              replace ca := z_in hM (by decide) ca
              obtain ⟨o10, ho, hf⟩ := m_calE hf
              refine z_callVi (k := 5) (C := RX5) (T := TX5) (N := 2) (fl := zf_5) X hM rfl zc_5 ca (c_X5_readPassed ho) gX5_readInto_X5_readPassed rfl ⟨rfl, rfl⟩ hd_X5_readPassed ⟨Nat.le_of_ble_eq_true rfl, Nat.le_of_ble_eq_true rfl⟩ rfl hl.1 rfl (Nat.le_of_ble_eq_true rfl) dX5_readInto_67 (fun H locs hM => ?_)
              clear ho
              refine lv_if_eq (tgt := 145) hx hb dX5_readInto_70 (by decide) (fun cc1 => ?_) (fun cc1 => ?_)
              · replace hf := m_ifT hf cc1
                exact w_X5_readInto_145 X hret hf hM (lv_sub hl [] rfl)
              · replace hf := m_ifF hf cc1
                refine lv_aload_n hx hb dX5_readInto_73 rfl (lv_at hl 0 rfl) ?_
                refine lv_bipush (v := (32 : Int32)) hx hb dX5_readInto_74 (by decide) ?_
                obtain ⟨ca, hf⟩ := m_chkE hf
                replace ca := z_in hM (by decide) ca
                obtain ⟨o11, ho, hf⟩ := m_calE hf
                refine z_callVi (k := 5) (C := RX5) (T := TX5) (N := 2) (fl := zf_5) X hM rfl zc_5 ca (c_X5_skip ho) gX5_readInto_X5_skip rfl ⟨rfl, rfl⟩ hd_X5_skip ⟨Nat.le_of_ble_eq_true rfl, Nat.le_of_ble_eq_true rfl⟩ rfl hl.1 rfl (Nat.le_of_ble_eq_true rfl) dX5_readInto_76 (fun H locs hM => ?_)
                clear ho
                refine lv_if_eq (tgt := 145) hx hb dX5_readInto_79 (by decide) (fun cc1 => ?_) (fun cc1 => ?_)
                · replace hf := m_ifT hf cc1
                  exact w_X5_readInto_145 X hret hf hM (lv_sub hl [] rfl)
                · replace hf := m_ifF hf cc1
                  refine lv_aload_n hx hb dX5_readInto_82 rfl (lv_at hl 0 rfl) ?_
                  obtain ⟨ca, hf⟩ := m_chkE hf
                  replace ca := z_in hM (by decide) ca
                  obtain ⟨o12, ho, hf⟩ := m_calE hf
                  refine z_callVi (k := 5) (C := RX5) (T := TX5) (N := 2) (fl := zf_5) X hM rfl zc_5 ca (c_X5_readNumber ho) gX5_readInto_X5_readNumber rfl ⟨rfl, rfl⟩ hd_X5_readNumber ⟨Nat.le_of_ble_eq_true rfl, Nat.le_of_ble_eq_true rfl⟩ rfl hl.1 rfl (Nat.le_of_ble_eq_true rfl) dX5_readInto_83 (fun H locs hM => ?_)
                  clear ho
                  refine lv_if_lt (tgt := 145) hx hb dX5_readInto_86 (by decide) (fun cc1 => ?_) (fun cc1 => ?_)
                  · replace hf := m_ifT hf cc1
                    exact w_X5_readInto_145 X hret hf hM (lv_sub hl [] rfl)
                  · replace hf := m_ifF hf cc1
                    refine lv_aload_n hx hb dX5_readInto_89 rfl (lv_at hl 0 rfl) ?_
                    refine lv_bipush (v := (32 : Int32)) hx hb dX5_readInto_90 (by decide) ?_
                    obtain ⟨ca, hf⟩ := m_chkE hf
                    replace ca := z_in hM (by decide) ca
                    obtain ⟨o13, ho, hf⟩ := m_calE hf
                    refine z_callVi (k := 5) (C := RX5) (T := TX5) (N := 2) (fl := zf_5) X hM rfl zc_5 ca (c_X5_skip ho) gX5_readInto_X5_skip rfl ⟨rfl, rfl⟩ hd_X5_skip ⟨Nat.le_of_ble_eq_true rfl, Nat.le_of_ble_eq_true rfl⟩ rfl hl.1 rfl (Nat.le_of_ble_eq_true rfl) dX5_readInto_92 (fun H locs hM => ?_)
                    clear ho
                    refine lv_if_eq (tgt := 145) hx hb dX5_readInto_95 (by decide) (fun cc1 => ?_) (fun cc1 => ?_)
                    · replace hf := m_ifT hf cc1
                      exact w_X5_readInto_145 X hret hf hM (lv_sub hl [] rfl)
                    · replace hf := m_ifF hf cc1
                      refine lv_aload_n hx hb dX5_readInto_98 rfl (lv_at hl 0 rfl) ?_
                      refine lv_aload_n hx hb dX5_readInto_99 rfl (lv_at hl 1 rfl) ?_
                      obtain ⟨ca, hf⟩ := m_chkE hf
                      replace ca := z_in hM (by decide) ca
                      obtain ⟨o14, ho, hf⟩ := m_calE hf
                      refine z_callVi (k := 5) (C := RX5) (T := TX5) (N := 2) (fl := zf_5) X hM rfl zc_5 ca (c_X5_readMoveNumber ho) gX5_readInto_X5_readMoveNumber rfl ⟨rfl, rfl⟩ hd_X5_readMoveNumber ⟨Nat.le_of_ble_eq_true rfl, Nat.le_of_ble_eq_true rfl⟩ rfl hl.1 rfl (Nat.le_of_ble_eq_true rfl) dX5_readInto_100 (fun H locs hM => ?_)
                      clear ho
                      refine lv_if_eq (tgt := 145) hx hb dX5_readInto_103 (by decide) (fun cc1 => ?_) (fun cc1 => ?_)
                      · replace hf := m_ifT hf cc1
                        exact w_X5_readInto_145 X hret hf hM (lv_sub hl [] rfl)
                      · replace hf := m_ifF hf cc1
                        refine lv_aload_n hx hb dX5_readInto_106 rfl (lv_at hl 0 rfl) ?_
                        obtain ⟨ca, hf⟩ := m_chkE hf
                        replace ca := z_in hM (by decide) ca
                        refine z_get (k := 5) (j := 1) (C := RX5) (T := TX5) (N := 2) (fl := zf_5) (v := .int (zI o14.2 1 x0)) X hw_X5_readInto_5 hM rfl zc_5 ca (by decide) fl_X5_readInto_5_1 rfl dX5_readInto_107 ?_
                        clear ca
                        refine lv_aload_n hx hb dX5_readInto_110 rfl (lv_at hl 0 rfl) ?_
                        obtain ⟨ca, hf⟩ := m_chkE hf
                        replace ca := z_in hM (by decide) ca
                        refine z_get (k := 5) (j := 0) (C := RX5) (T := TX5) (N := 2) (fl := zf_5) (v := va_rf ((zP o14.2 0 x0).map (zh y))) X hw_X5_readInto_5 hM rfl zc_5 ca (by decide) fl_X5_readInto_5_0 rfl dX5_readInto_111 ?_
                        clear ca
                        obtain ⟨b15, hb9, hf⟩ := m_calE hf
                        refine z_topr hb9 ?_
                        clear hb9
                        obtain ⟨ca, hf⟩ := m_chkE hf
                        replace ca := z_in hM (by decide) ca
                        obtain ⟨o16, ho, hf⟩ := m_calE hf
                        refine z_callVi (k := 6) (C := RX6) (T := TX6) (N := 2) (fl := zf_6) X hM rfl zc_6 ca (c_X6_size ho) gX5_readInto_X6_size rfl ⟨rfl, rfl⟩ hd_X6_size ⟨Nat.le_of_ble_eq_true rfl, Nat.le_of_ble_eq_true rfl⟩ rfl hl.1 rfl (Nat.le_of_ble_eq_true rfl) dX5_readInto_114 (fun H locs hM => ?_)
                        clear ho
                        refine lv_icmp_ne (tgt := 145) hx hb dX5_readInto_117 (by decide) (fun cc1 => ?_) (fun cc1 => ?_)
                        · replace hf := m_ifF hf cc1
                          exact w_X5_readInto_145 X hret hf hM (lv_sub hl [] rfl)
                        · replace hf := m_ifT hf cc1
                          refine lv_aload_n hx hb dX5_readInto_120 rfl (lv_at hl 1 rfl) ?_
                          obtain ⟨o17, ho, hf⟩ := m_calE hf
                          refine z_callSi X hM (c_X5_hasSoundMen ho) gX5_readInto_X5_hasSoundMen rfl ⟨rfl, rfl⟩ hd_X5_hasSoundMen ⟨Nat.le_of_ble_eq_true rfl, Nat.le_of_ble_eq_true rfl⟩ rfl hl.1 rfl (Nat.le_of_ble_eq_true rfl) dX5_readInto_121 (fun H locs hM => ?_)
                          clear ho
                          refine lv_if_eq (tgt := 145) hx hb dX5_readInto_124 (by decide) (fun cc1 => ?_) (fun cc1 => ?_)
                          · replace hf := m_ifT hf cc1
                            exact w_X5_readInto_145 X hret hf hM (lv_sub hl [] rfl)
                          · replace hf := m_ifF hf cc1
                            refine lv_aload_n hx hb dX5_readInto_127 rfl (lv_at hl 1 rfl) ?_
                            obtain ⟨o18, ho, hf⟩ := m_calE hf
                            refine z_callSi X hM (c_X5_hasSoundRights ho) gX5_readInto_X5_hasSoundRights rfl ⟨rfl, rfl⟩ hd_X5_hasSoundRights ⟨Nat.le_of_ble_eq_true rfl, Nat.le_of_ble_eq_true rfl⟩ rfl hl.1 rfl (Nat.le_of_ble_eq_true rfl) dX5_readInto_128 (fun H locs hM => ?_)
                            clear ho
                            refine lv_if_eq (tgt := 145) hx hb dX5_readInto_131 (by decide) (fun cc1 => ?_) (fun cc1 => ?_)
                            · replace hf := m_ifT hf cc1
                              exact w_X5_readInto_145 X hret hf hM (lv_sub hl [] rfl)
                            · replace hf := m_ifF hf cc1
                              refine lv_aload_n hx hb dX5_readInto_134 rfl (lv_at hl 1 rfl) ?_
                              obtain ⟨o19, ho, hf⟩ := m_calE hf
                              refine z_callSi X hM (c_X5_hasSoundPassed ho) gX5_readInto_X5_hasSoundPassed rfl ⟨rfl, rfl⟩ hd_X5_hasSoundPassed ⟨Nat.le_of_ble_eq_true rfl, Nat.le_of_ble_eq_true rfl⟩ rfl hl.1 rfl (Nat.le_of_ble_eq_true rfl) dX5_readInto_135 (fun H locs hM => ?_)
                              clear ho
                              refine lv_if_eq (tgt := 145) hx hb dX5_readInto_138 (by decide) (fun cc1 => ?_) (fun cc1 => ?_)
                              · replace hf := m_ifT hf cc1
                                exact w_X5_readInto_145 X hret hf hM (lv_sub hl [] rfl)
                              · replace hf := m_ifF hf cc1
                                refine lv_iconst (v := (1 : Int32)) hx hb dX5_readInto_141 (by decide) ?_
                                refine lv_goto (tgt := 146) hx hb dX5_readInto_142 (by decide) ?_
                                exact w_X5_readInto_146 (t0 := (1 : Int32)) X hret hf hM (lv_sub hl [] rfl)
noncomputable def f_X5_readInto (x0 : Nat) (x1 : Nat) (x2 : Nat) (S : ZS) : Option (Int32 × ZS) := f_X5_readInto_0 x0 x1 x2 S
theorem c_X5_readInto {l : Launch} {D : va_G} {y : Nat → ClassId} {x0 : Nat} {x1 : Nat} {x2 : Nat} {S : ZS} {o : Int32 × ZS} (hf : f_X5_readInto x0 x1 x2 S = some o) : zMi l yX5_readInto wsX5_readInto ({ frames := 6, cells := 0, slots := 0, locals := 140 } : Room) [.ref (zh y x0), .ref (zh y x1), .ref (zh y x2)] D y S o :=
  z_entryI (own := RX5) (cc := cX5_readInto) (maxL := 3) (by decide) rfl rfl (Nat.le_of_ble_eq_true rfl) (fun p e s m args below meth c A0 Q H locs ls X hret hM hl => w_X5_readInto_0 X hret hf hM (lv_sub hl [0, 1, 2] rfl))
end
section
theorem hd_X2_readTag : yX2_readTag.cls = RX2 ∧ yX2_readTag.cls ≠ "java/lang/invoke/MethodHandle" ∧ yX2_readTag.cls ≠ "java/lang/invoke/VarHandle" ∧ (parseMethodDescriptor yX2_readTag.desc).map (fun d => d.parameters.length) = some 0 := by decide +kernel
theorem fl_X2_readTag_1_0 : Cond.fieldLink RX2 116 "MoveTexts$Game" "start" "LMoveTexts$Board;" ∈ wsX2_readTag := by decide +kernel
theorem fl_X2_readTag_1_5 : Cond.fieldLink RX2 103 "MoveTexts$Game" "tagCount" "I" ∈ wsX2_readTag := by decide +kernel
theorem fl_X2_readTag_2_1 : Cond.fieldLink RX2 21 "MoveTexts$GameReader" "positionReader" "LMoveTexts$PositionReader;" ∈ wsX2_readTag := by decide +kernel
theorem fl_X2_readTag_2_2 : Cond.fieldLink RX2 28 "MoveTexts$GameReader" "text" "LMoveTexts$Row;" ∈ wsX2_readTag := by decide +kernel
theorem fl_X2_readTag_2_3 : Cond.fieldLink RX2 35 "MoveTexts$GameReader" "game" "LMoveTexts$Game;" ∈ wsX2_readTag := by decide +kernel
theorem fl_X2_readTag_2_4 : Cond.fieldLink RX2 39 "MoveTexts$GameReader" "at" "I" ∈ wsX2_readTag := by decide +kernel
theorem fl_X2_readTag_2_6 : Cond.fieldLink RX2 46 "MoveTexts$GameReader" "name" "LMoveTexts$Row;" ∈ wsX2_readTag := by decide +kernel
theorem fl_X2_readTag_2_7 : Cond.fieldLink RX2 49 "MoveTexts$GameReader" "value" "LMoveTexts$Row;" ∈ wsX2_readTag := by decide +kernel
theorem hw_X2_readTag_1 : ∀ w ∈ wsX10, w ∈ wsX2_readTag := by decide +kernel
theorem hw_X2_readTag_2 : ∀ w ∈ wsX20, w ∈ wsX2_readTag := by decide +kernel
theorem sr_X2_readTag_110 : (RX2, 110, "FEN", 0) ∈ zSR := by decide +kernel
noncomputable def g_X2_readTag_19 (Pw : Int32 → ZS → Prop) (S : ZS) (C T : Nat) : Prop :=
  m_chkQ (vp_nar .boolean (0 : Int32) = (0 : Int32)) (Pw (0 : Int32) S)

set_option maxRecDepth 100000 in
set_option maxHeartbeats 4000000 in
theorem w_X2_readTag_19 {p : Program} {l : Launch} {e : Env} {s : State} {m : MethodId} {args : Array Value} {below : List Frame} {meth : Method} {c : Code} {Q : State → Prop} {D : va_G} {y : Nat → ClassId} {A0 : Nat → Prop} {kc kt : Nat} {Pw : Int32 → ZS → Prop} (X : CallFix p m c cX2_readTag 2 s args wsX2_readTag RX2) (hret : zQi p l e ({ frames := 7, cells := kc, slots := kt, locals := 162 } : Room) s m args below meth c Q cX2_readTag D y A0 .boolean Pw) {S : ZS} {C T : Nat} {H : Heap} {locs : List Loc} {ls : Array Slot} (hf : g_X2_readTag_19 Pw  S C T) (hCT : C ≤ kc ∧ T ≤ kt) (hM : zH D y A0 s H locs S) (hl : lv_has ls 2 []) : W p l e ({ frames := 7, cells := kc, slots := kt, locals := 162 } : Room) s m args below meth c H locs (kc - C) (kt - T) Q (F0 m 19 ls []) := by
  obtain ⟨hx, hb, hml, hown, hts⟩ := id X
  unfold g_X2_readTag_19 at hf
  refine lv_iconst (v := (0 : Int32)) hx hb dX2_readTag_19 (by decide) ?_
  obtain ⟨cd, hf⟩ := m_chkPE hf
  exact hret _ _ _ _ H locs _ ls hf hM (m_nb cd) dX2_readTag_20
noncomputable def g_X2_readTag_111 (Pw : Int32 → ZS → Prop) (x0 : Nat) (x1 : Int32) (S : ZS) (C T : Nat) : Prop :=
  m_chkQ (zK S x0 = 2) (
  m_calP (f_X2_refuse x0 (2 : Int32) x1 S) (fun o1 =>
  m_chkQ (vp_nar .boolean o1.1 = o1.1) (Pw o1.1 o1.2)))

set_option maxRecDepth 100000 in
set_option maxHeartbeats 4000000 in
theorem w_X2_readTag_111 {p : Program} {l : Launch} {e : Env} {s : State} {m : MethodId} {args : Array Value} {below : List Frame} {meth : Method} {c : Code} {Q : State → Prop} {D : va_G} {y : Nat → ClassId} {A0 : Nat → Prop} {kc kt : Nat} {Pw : Int32 → ZS → Prop} (X : CallFix p m c cX2_readTag 2 s args wsX2_readTag RX2) (hret : zQi p l e ({ frames := 7, cells := kc, slots := kt, locals := 162 } : Room) s m args below meth c Q cX2_readTag D y A0 .boolean Pw) {x0 : Nat} {x1 : Int32} {S : ZS} {C T : Nat} {H : Heap} {locs : List Loc} {ls : Array Slot} (hf : g_X2_readTag_111 Pw x0 x1 S C T) (hCT : C ≤ kc ∧ T ≤ kt) (hM : zH D y A0 s H locs S) (hl : lv_has ls 2 [(0, .ref (zh y x0)), (1, .int x1)]) : W p l e ({ frames := 7, cells := kc, slots := kt, locals := 162 } : Room) s m args below meth c H locs (kc - C) (kt - T) Q (F0 m 111 ls []) := by
  obtain ⟨hx, hb, hml, hown, hts⟩ := id X
  unfold g_X2_readTag_111 at hf
  refine lv_aload_n hx hb dX2_readTag_111 rfl (lv_at hl 0 rfl) ?_
  refine lv_iconst (v := (2 : Int32)) hx hb dX2_readTag_112 (by decide) ?_
  refine lv_iload_n hx hb dX2_readTag_113 rfl (lv_at hl 1 rfl) ?_
  obtain ⟨ca, hf⟩ := m_chkPE hf
  replace ca := z_in hM (by decide) ca
  obtain ⟨o1, ho, hf⟩ := m_calPE hf
  refine z_gcallVi (k := 2) (C := RX2) (T := TX2) (N := 12) (fl := zf_2) X hM rfl zc_2 ca (c_X2_refuse ho) gX2_readTag_X2_refuse rfl ⟨rfl, rfl⟩ hd_X2_refuse ⟨Nat.le_of_ble_eq_true rfl, Nat.le_of_ble_eq_true rfl⟩ rfl hl.1 rfl ⟨Nat.sub_le _ _, Nat.sub_le _ _⟩ (Nat.le_of_ble_eq_true rfl) dX2_readTag_114 (fun H locs hM => ?_)
  clear ho
  obtain ⟨cd, hf⟩ := m_chkPE hf
  exact hret _ _ _ _ H locs _ ls hf hM (m_nb cd) dX2_readTag_117
noncomputable def g_X2_readTag_158 (Pw : Int32 → ZS → Prop) (x0 : Nat) (S : ZS) (C T : Nat) : Prop :=
  m_chkQ (zK S x0 = 2) (
  m_calP (zP S 3 x0) (fun b1 =>
  m_chkQ (zK S x0 = 2) (
  m_calP (zP S 6 x0) (fun b2 =>
  m_chkQ (zK S x0 = 2) (
  m_calP (zP S 7 x0) (fun b3 =>
  m_chkQ (zK S b1 = 1) (
  m_gal (C) (T) (fun mc ms Pw => g_X1_putTag b1 b2 b3 S mc ms Pw) (fun r5 S6 C7 T8 =>
  m_chkQ (vp_nar .boolean (1 : Int32) = (1 : Int32)) (Pw (1 : Int32) S6)))))))))

set_option maxRecDepth 100000 in
set_option maxHeartbeats 4000000 in
theorem w_X2_readTag_158 {p : Program} {l : Launch} {e : Env} {s : State} {m : MethodId} {args : Array Value} {below : List Frame} {meth : Method} {c : Code} {Q : State → Prop} {D : va_G} {y : Nat → ClassId} {A0 : Nat → Prop} {kc kt : Nat} {Pw : Int32 → ZS → Prop} (X : CallFix p m c cX2_readTag 2 s args wsX2_readTag RX2) (hret : zQi p l e ({ frames := 7, cells := kc, slots := kt, locals := 162 } : Room) s m args below meth c Q cX2_readTag D y A0 .boolean Pw) {x0 : Nat} {S : ZS} {C T : Nat} {H : Heap} {locs : List Loc} {ls : Array Slot} (hf : g_X2_readTag_158 Pw x0 S C T) (hCT : C ≤ kc ∧ T ≤ kt) (hM : zH D y A0 s H locs S) (hl : lv_has ls 2 [(0, .ref (zh y x0))]) : W p l e ({ frames := 7, cells := kc, slots := kt, locals := 162 } : Room) s m args below meth c H locs (kc - C) (kt - T) Q (F0 m 158 ls []) := by
  obtain ⟨hx, hb, hml, hown, hts⟩ := id X
  unfold g_X2_readTag_158 at hf
  refine lv_aload_n hx hb dX2_readTag_158 rfl (lv_at hl 0 rfl) ?_
  obtain ⟨ca, hf⟩ := m_chkPE hf
  replace ca := z_in hM (by decide) ca
  refine z_get (k := 2) (j := 3) (C := RX2) (T := TX2) (N := 12) (fl := zf_2) (v := va_rf ((zP S 3 x0).map (zh y))) X hw_X2_readTag_2 hM rfl zc_2 ca (by decide) fl_X2_readTag_2_3 rfl dX2_readTag_159 ?_
  clear ca
  obtain ⟨b1, hb9, hf⟩ := m_calPE hf
  refine z_topr hb9 ?_
  clear hb9
  refine lv_aload_n hx hb dX2_readTag_162 rfl (lv_at hl 0 rfl) ?_
  obtain ⟨ca, hf⟩ := m_chkPE hf
  replace ca := z_in hM (by decide) ca
  refine z_get (k := 2) (j := 6) (C := RX2) (T := TX2) (N := 12) (fl := zf_2) (v := va_rf ((zP S 6 x0).map (zh y))) X hw_X2_readTag_2 hM rfl zc_2 ca (by decide) fl_X2_readTag_2_6 rfl dX2_readTag_163 ?_
  clear ca
  obtain ⟨b2, hb9, hf⟩ := m_calPE hf
  refine z_topr hb9 ?_
  clear hb9
  refine lv_aload_n hx hb dX2_readTag_166 rfl (lv_at hl 0 rfl) ?_
  obtain ⟨ca, hf⟩ := m_chkPE hf
  replace ca := z_in hM (by decide) ca
  refine z_get (k := 2) (j := 7) (C := RX2) (T := TX2) (N := 12) (fl := zf_2) (v := va_rf ((zP S 7 x0).map (zh y))) X hw_X2_readTag_2 hM rfl zc_2 ca (by decide) fl_X2_readTag_2_7 rfl dX2_readTag_167 ?_
  clear ca
  obtain ⟨b3, hb9, hf⟩ := m_calPE hf
  refine z_topr hb9 ?_
  clear hb9
  obtain ⟨ca, hf⟩ := m_chkPE hf
  replace ca := z_in hM (by decide) ca
  obtain ⟨mc, ms, hcm, ho⟩ := m_galE hf
  refine z_wcallVv (k := 1) (C := RX1) (T := TX1) (N := 8) (fl := zf_1) X hM rfl zc_1 ca (c_X1_putTag ho) gX2_readTag_X1_putTag rfl ⟨rfl, rfl⟩ ⟨by show kc - (C) + mc ≤ kc; omega, by show kt - (T) + ms ≤ kt; omega⟩ hd_X1_putTag ⟨Nat.le_of_ble_eq_true rfl, Nat.le_of_ble_eq_true rfl⟩ rfl hl.1 rfl (Nat.le_of_ble_eq_true rfl) dX2_readTag_170 (fun S6 H locs hf hM => ?_)
  refine z_eqCS (c2 := kc - (C - mc)) (t2 := kt - (T - ms)) (by omega) (by omega) ?_
  replace hCT : C - mc ≤ kc ∧ T - ms ≤ kt := by omega
  generalize C - mc = C7 at hf hCT ⊢
  generalize T - ms = T8 at hf hCT ⊢
  clear ho hcm
  refine lv_iconst (v := (1 : Int32)) hx hb dX2_readTag_173 (by decide) ?_
  obtain ⟨cd, hf⟩ := m_chkPE hf
  exact hret _ _ _ _ H locs _ ls hf hM (m_nb cd) dX2_readTag_174
noncomputable def g_X2_readTag_0 (Pw : Int32 → ZS → Prop) (x0 : Nat) (S : ZS) (C T : Nat) : Prop :=
  m_chkQ (zK S x0 = 2) (
  m_chkQ (zK S x0 = 2) (
  m_gal (C) (T) (fun mc ms Pw => g_X2_readName x0 S mc ms Pw) (fun r2 S3 C4 T5 =>
  m_ifQ (r2 = 0) (
  g_X2_readTag_19 Pw  S3 (C4) (T5)
  ) (
  m_chkQ (zK S3 x0 = 2) (
  m_gal (C4) (T5) (fun mc ms Pw => g_X2_readValue x0 S3 mc ms Pw) (fun r7 S8 C9 T10 =>
  m_ifQ (r7 = 0) (
  g_X2_readTag_19 Pw  S8 (C9) (T10)
  ) (
  m_chkQ (zK S8 x0 = 2) (
  m_calP (f_X2_skipBlanks x0 S8) (fun o11 =>
  m_chkQ (zK o11.2 x0 = 2) (
  m_calP (zP o11.2 2 x0) (fun b12 =>
  m_chkQ (zK o11.2 x0 = 2) (
  m_chkQ (zK o11.2 b12 = 6) (
  m_calP (f_X6_at b12 (zI o11.2 4 x0) o11.2) (fun o13 =>
  m_ifQ (o13.1 = (93 : Int32)) (
  m_chkQ (zK o13.2 x0 = 2) (
  m_bndP ((zI o13.2 4 x0) + (1 : Int32)) (fun v14 =>
  m_chkQ (zK o13.2 x0 = 2) (
  m_bndP (zsI o13.2 4 x0 v14) (fun S15 =>
  m_chkQ (zK S15 x0 = 2) (
  m_calP (zP S15 3 x0) (fun b16 =>
  m_chkQ (zK S15 b16 = 1) (
  m_ifQ ((8 : Int32) ≤ (zI S15 5 b16)) (
  g_X2_readTag_111 Pw x0 (zI S 4 x0) S15 (C9) (T10)
  ) (
  m_chkQ (zK S15 x0 = 2) (
  m_calP (zP S15 6 x0) (fun b17 =>
  m_chkQ (zK S15 b17 = 6) (
  m_calP (f_X6_size b17 S15) (fun o18 =>
  m_ifQ ((12 : Int32) < o18.1) (
  g_X2_readTag_111 Pw x0 (zI S 4 x0) o18.2 (C9) (T10)
  ) (
  m_chkQ (zK o18.2 x0 = 2) (
  m_calP (zP o18.2 3 x0) (fun b19 =>
  m_chkQ (zK o18.2 x0 = 2) (
  m_calP (zP o18.2 6 x0) (fun b20 =>
  m_chkQ (zK o18.2 b19 = 1) (
  m_gal (C9) (T10) (fun mc ms Pw => g_X1_hasTag b19 b20 o18.2 mc ms Pw) (fun r22 S23 C24 T25 =>
  m_ifQ (r22 = 0) (
  m_chkQ (zK S23 x0 = 2) (
  m_calP (zP S23 7 x0) (fun b26 =>
  m_chkQ (zK S23 b26 = 6) (
  m_calP (f_X6_size b26 S23) (fun o27 =>
  m_ifQ (o27.1 ≤ (96 : Int32)) (
  m_chkQ (zK o27.2 x0 = 2) (
  m_calP (zP o27.2 6 x0) (fun b28 =>
  m_chkQ (zK o27.2 b28 = 6) (
  m_calP (f_X6_is b28 0 o27.2) (fun o29 =>
  m_ifQ (o29.1 = 0) (
  g_X2_readTag_158 Pw x0 o29.2 (C24) (T25)
  ) (
  m_chkQ (zK o29.2 x0 = 2) (
  m_calP (zP o29.2 1 x0) (fun b30 =>
  m_chkQ (zK o29.2 x0 = 2) (
  m_calP (zP o29.2 3 x0) (fun b31 =>
  m_chkQ (zK o29.2 b31 = 1) (
  m_calP (zP o29.2 0 b31) (fun b32 =>
  m_chkQ (zK o29.2 x0 = 2) (
  m_calP (zP o29.2 7 x0) (fun b33 =>
  m_chkQ (zK o29.2 b30 = 5) (
  m_calP (f_X5_readInto b30 b32 b33 o29.2) (fun o34 =>
  m_ifQ (o34.1 = 0) (
  m_chkQ (zK o34.2 x0 = 2) (
  m_calP (f_X2_refuse x0 (3 : Int32) (zI S 4 x0) o34.2) (fun o35 =>
  m_chkQ (vp_nar .boolean o35.1 = o35.1) (Pw o35.1 o35.2)))
  ) (
  g_X2_readTag_158 Pw x0 o34.2 (C24) (T25)
  )))))))))))
  )))))
  ) (
  g_X2_readTag_111 Pw x0 (zI S 4 x0) o27.2 (C24) (T25)
  )))))
  ) (
  g_X2_readTag_111 Pw x0 (zI S 4 x0) S23 (C24) (T25)
  )))))))
  )))))
  ))))))))
  ) (
  m_chkQ (zK o13.2 x0 = 2) (
  m_chkQ (zK o13.2 x0 = 2) (
  m_calP (f_X2_refuse x0 (1 : Int32) (zI o13.2 4 x0) o13.2) (fun o36 =>
  m_chkQ (vp_nar .boolean o36.1 = o36.1) (Pw o36.1 o36.2))))
  ))))))))
  )))
  ))))

set_option maxRecDepth 100000 in
set_option maxHeartbeats 4000000 in
theorem w_X2_readTag_0 {p : Program} {l : Launch} {e : Env} {s : State} {m : MethodId} {args : Array Value} {below : List Frame} {meth : Method} {c : Code} {Q : State → Prop} {D : va_G} {y : Nat → ClassId} {A0 : Nat → Prop} {kc kt : Nat} {Pw : Int32 → ZS → Prop} (X : CallFix p m c cX2_readTag 2 s args wsX2_readTag RX2) (hret : zQi p l e ({ frames := 7, cells := kc, slots := kt, locals := 162 } : Room) s m args below meth c Q cX2_readTag D y A0 .boolean Pw) {x0 : Nat} {S : ZS} {C T : Nat} {H : Heap} {locs : List Loc} {ls : Array Slot} (hf : g_X2_readTag_0 Pw x0 S C T) (hCT : C ≤ kc ∧ T ≤ kt) (hM : zH D y A0 s H locs S) (hl : lv_has ls 2 [(0, .ref (zh y x0))]) : W p l e ({ frames := 7, cells := kc, slots := kt, locals := 162 } : Room) s m args below meth c H locs (kc - C) (kt - T) Q (F0 m 0 ls []) := by
  obtain ⟨hx, hb, hml, hown, hts⟩ := id X
  unfold g_X2_readTag_0 at hf
  refine lv_aload_n hx hb dX2_readTag_0 rfl (lv_at hl 0 rfl) ?_
  obtain ⟨ca, hf⟩ := m_chkPE hf
  replace ca := z_in hM (by decide) ca
  refine z_get (k := 2) (j := 4) (C := RX2) (T := TX2) (N := 12) (fl := zf_2) (v := .int (zI S 4 x0)) X hw_X2_readTag_2 hM rfl zc_2 ca (by decide) fl_X2_readTag_2_4 rfl dX2_readTag_1 ?_
  clear ca
  refine lv_istore_n (lv' := [(1, .int (zI S 4 x0)), (0, .ref (zh y x0))]) hx hb dX2_readTag_4 rfl hl (by decide) rfl (fun ls hl => ?_)
  refine lv_aload_n hx hb dX2_readTag_5 rfl (lv_at hl 1 rfl) ?_
  obtain ⟨ca, hf⟩ := m_chkPE hf
  replace ca := z_in hM (by decide) ca
  obtain ⟨mc, ms, hcm, ho⟩ := m_galE hf
  refine z_wcallVi (k := 2) (C := RX2) (T := TX2) (N := 12) (fl := zf_2) X hM rfl zc_2 ca (c_X2_readName ho) gX2_readTag_X2_readName rfl ⟨rfl, rfl⟩ ⟨by show kc - (C) + mc ≤ kc; omega, by show kt - (T) + ms ≤ kt; omega⟩ hd_X2_readName ⟨Nat.le_of_ble_eq_true rfl, Nat.le_of_ble_eq_true rfl⟩ rfl hl.1 rfl (Nat.le_of_ble_eq_true rfl) dX2_readTag_6 (fun r2 S3 H locs hf hM => ?_)
  refine z_eqCS (c2 := kc - (C - mc)) (t2 := kt - (T - ms)) (by omega) (by omega) ?_
  replace hCT : C - mc ≤ kc ∧ T - ms ≤ kt := by omega
  generalize C - mc = C4 at hf hCT ⊢
  generalize T - ms = T5 at hf hCT ⊢
  clear ho hcm
  refine lv_if_eq (tgt := 19) hx hb dX2_readTag_9 (by decide) (fun cc1 => ?_) (fun cc1 => ?_)
  · replace hf := m_ifPT hf cc1
    exact w_X2_readTag_19 X hret hf hCT hM (lv_sub hl [] rfl)
  · replace hf := m_ifPF hf cc1
    refine lv_aload_n hx hb dX2_readTag_12 rfl (lv_at hl 1 rfl) ?_
    obtain ⟨ca, hf⟩ := m_chkPE hf
    replace ca := z_in hM (by decide) ca
    obtain ⟨mc, ms, hcm, ho⟩ := m_galE hf
    refine z_wcallVi (k := 2) (C := RX2) (T := TX2) (N := 12) (fl := zf_2) X hM rfl zc_2 ca (c_X2_readValue ho) gX2_readTag_X2_readValue rfl ⟨rfl, rfl⟩ ⟨by show kc - (C4) + mc ≤ kc; omega, by show kt - (T5) + ms ≤ kt; omega⟩ hd_X2_readValue ⟨Nat.le_of_ble_eq_true rfl, Nat.le_of_ble_eq_true rfl⟩ rfl hl.1 rfl (Nat.le_of_ble_eq_true rfl) dX2_readTag_13 (fun r7 S8 H locs hf hM => ?_)
    refine z_eqCS (c2 := kc - (C4 - mc)) (t2 := kt - (T5 - ms)) (by omega) (by omega) ?_
    replace hCT : C4 - mc ≤ kc ∧ T5 - ms ≤ kt := by omega
    generalize C4 - mc = C9 at hf hCT ⊢
    generalize T5 - ms = T10 at hf hCT ⊢
    clear ho hcm
    refine lv_if_ne (tgt := 21) hx hb dX2_readTag_16 (by decide) (fun cc1 => ?_) (fun cc1 => ?_)
    · replace hf := m_ifPF hf cc1
      refine lv_aload_n hx hb dX2_readTag_21 rfl (lv_at hl 1 rfl) ?_
      obtain ⟨ca, hf⟩ := m_chkPE hf
      replace ca := z_in hM (by decide) ca
      obtain ⟨o11, ho, hf⟩ := m_calPE hf
      refine z_gcallVv (k := 2) (C := RX2) (T := TX2) (N := 12) (fl := zf_2) X hM rfl zc_2 ca (c_X2_skipBlanks ho) gX2_readTag_X2_skipBlanks rfl ⟨rfl, rfl⟩ hd_X2_skipBlanks ⟨Nat.le_of_ble_eq_true rfl, Nat.le_of_ble_eq_true rfl⟩ rfl hl.1 rfl ⟨Nat.sub_le _ _, Nat.sub_le _ _⟩ (Nat.le_of_ble_eq_true rfl) dX2_readTag_22 (fun H locs hM => ?_)
      clear ho
      refine lv_aload_n hx hb dX2_readTag_25 rfl (lv_at hl 1 rfl) ?_
      obtain ⟨ca, hf⟩ := m_chkPE hf
      replace ca := z_in hM (by decide) ca
      refine z_get (k := 2) (j := 2) (C := RX2) (T := TX2) (N := 12) (fl := zf_2) (v := va_rf ((zP o11.2 2 x0).map (zh y))) X hw_X2_readTag_2 hM rfl zc_2 ca (by decide) fl_X2_readTag_2_2 rfl dX2_readTag_26 ?_
      clear ca
      obtain ⟨b12, hb9, hf⟩ := m_calPE hf
      refine z_topr hb9 ?_
      clear hb9
      refine lv_aload_n hx hb dX2_readTag_29 rfl (lv_at hl 1 rfl) ?_
      obtain ⟨ca, hf⟩ := m_chkPE hf
      replace ca := z_in hM (by decide) ca
      refine z_get (k := 2) (j := 4) (C := RX2) (T := TX2) (N := 12) (fl := zf_2) (v := .int (zI o11.2 4 x0)) X hw_X2_readTag_2 hM rfl zc_2 ca (by decide) fl_X2_readTag_2_4 rfl dX2_readTag_30 ?_
      clear ca
      obtain ⟨ca, hf⟩ := m_chkPE hf
      replace ca := z_in hM (by decide) ca
      obtain ⟨o13, ho, hf⟩ := m_calPE hf
      refine z_gcallVi (k := 6) (C := RX6) (T := TX6) (N := 2) (fl := zf_6) X hM rfl zc_6 ca (c_X6_at ho) gX2_readTag_X6_at rfl ⟨rfl, rfl⟩ hd_X6_at ⟨Nat.le_of_ble_eq_true rfl, Nat.le_of_ble_eq_true rfl⟩ rfl hl.1 rfl ⟨Nat.sub_le _ _, Nat.sub_le _ _⟩ (Nat.le_of_ble_eq_true rfl) dX2_readTag_33 (fun H locs hM => ?_)
      clear ho
      refine lv_bipush (v := (93 : Int32)) hx hb dX2_readTag_36 (by decide) ?_
      refine lv_icmp_eq (tgt := 51) hx hb dX2_readTag_38 (by decide) (fun cc1 => ?_) (fun cc1 => ?_)
      · replace hf := m_ifPT hf cc1
        refine lv_aload_n hx hb dX2_readTag_51 rfl (lv_at hl 1 rfl) ?_
        refine lv_dup hx hb dX2_readTag_52 rfl ?_
        obtain ⟨ca, hf⟩ := m_chkPE hf
        replace ca := z_in hM (by decide) ca
        refine z_get (k := 2) (j := 4) (C := RX2) (T := TX2) (N := 12) (fl := zf_2) (v := .int (zI o13.2 4 x0)) X hw_X2_readTag_2 hM rfl zc_2 ca (by decide) fl_X2_readTag_2_4 rfl dX2_readTag_53 ?_
        clear ca
        refine lv_iconst (v := (1 : Int32)) hx hb dX2_readTag_56 (by decide) ?_
        refine lv_iadd hx hb dX2_readTag_57 ?_
        obtain ⟨v14, ev, hf⟩ := m_bndPE hf
        refine m_top ev ?_
        clear ev
        obtain ⟨ca, hf⟩ := m_chkPE hf
        replace ca := z_in hM (by decide) ca
        refine z_putI (k := 2) (j := 4) (C := RX2) (T := TX2) (N := 12) (fl := zf_2) (ty := .int) X hw_X2_readTag_2 tyX2_ok nmX2 hM rfl zc_2 ca (by decide) fl_X2_readTag_2_4 rfl (tyX2_ok 4 (by decide)) rfl rfl zi_2_4 (Nat.le_of_ble_eq_true rfl) dX2_readTag_58 (fun H locs hM => ?_)
        clear ca
        obtain ⟨S15, ev, hf⟩ := m_bndPE hf
        replace hM := z_hS hM ev
        clear ev
        refine lv_aload_n hx hb dX2_readTag_61 rfl (lv_at hl 1 rfl) ?_
        obtain ⟨ca, hf⟩ := m_chkPE hf
        replace ca := z_in hM (by decide) ca
        refine z_get (k := 2) (j := 3) (C := RX2) (T := TX2) (N := 12) (fl := zf_2) (v := va_rf ((zP S15 3 x0).map (zh y))) X hw_X2_readTag_2 hM rfl zc_2 ca (by decide) fl_X2_readTag_2_3 rfl dX2_readTag_62 ?_
        clear ca
        obtain ⟨b16, hb9, hf⟩ := m_calPE hf
        refine z_topr hb9 ?_
        clear hb9
        obtain ⟨ca, hf⟩ := m_chkPE hf
        replace ca := z_in hM (by decide) ca
        refine z_get (k := 1) (j := 5) (C := RX1) (T := TX1) (N := 8) (fl := zf_1) (v := .int (zI S15 5 b16)) X hw_X2_readTag_1 hM rfl zc_1 ca (by decide) fl_X2_readTag_1_5 rfl dX2_readTag_65 ?_
        clear ca
        refine lv_bipush (v := (8 : Int32)) hx hb dX2_readTag_68 (by decide) ?_
        refine lv_icmp_ge (tgt := 111) hx hb dX2_readTag_70 (by decide) (fun cc1 => ?_) (fun cc1 => ?_)
        · replace hf := m_ifPT hf cc1
          exact w_X2_readTag_111 (x0 := x0) (x1 := (zI S 4 x0)) X hret hf hCT hM (lv_sub hl [1, 0] rfl)
        · replace hf := m_ifPF hf cc1
          refine lv_aload_n hx hb dX2_readTag_73 rfl (lv_at hl 1 rfl) ?_
          obtain ⟨ca, hf⟩ := m_chkPE hf
          replace ca := z_in hM (by decide) ca
          refine z_get (k := 2) (j := 6) (C := RX2) (T := TX2) (N := 12) (fl := zf_2) (v := va_rf ((zP S15 6 x0).map (zh y))) X hw_X2_readTag_2 hM rfl zc_2 ca (by decide) fl_X2_readTag_2_6 rfl dX2_readTag_74 ?_
          clear ca
          obtain ⟨b17, hb9, hf⟩ := m_calPE hf
          refine z_topr hb9 ?_
          clear hb9
          obtain ⟨ca, hf⟩ := m_chkPE hf
          replace ca := z_in hM (by decide) ca
          obtain ⟨o18, ho, hf⟩ := m_calPE hf
          refine z_gcallVi (k := 6) (C := RX6) (T := TX6) (N := 2) (fl := zf_6) X hM rfl zc_6 ca (c_X6_size ho) gX2_readTag_X6_size rfl ⟨rfl, rfl⟩ hd_X6_size ⟨Nat.le_of_ble_eq_true rfl, Nat.le_of_ble_eq_true rfl⟩ rfl hl.1 rfl ⟨Nat.sub_le _ _, Nat.sub_le _ _⟩ (Nat.le_of_ble_eq_true rfl) dX2_readTag_77 (fun H locs hM => ?_)
          clear ho
          refine lv_bipush (v := (12 : Int32)) hx hb dX2_readTag_80 (by decide) ?_
          refine lv_icmp_gt (tgt := 111) hx hb dX2_readTag_82 (by decide) (fun cc1 => ?_) (fun cc1 => ?_)
          · replace hf := m_ifPT hf cc1
            exact w_X2_readTag_111 (x0 := x0) (x1 := (zI S 4 x0)) X hret hf hCT hM (lv_sub hl [1, 0] rfl)
          · replace hf := m_ifPF hf cc1
            refine lv_aload_n hx hb dX2_readTag_85 rfl (lv_at hl 1 rfl) ?_
            obtain ⟨ca, hf⟩ := m_chkPE hf
            replace ca := z_in hM (by decide) ca
            refine z_get (k := 2) (j := 3) (C := RX2) (T := TX2) (N := 12) (fl := zf_2) (v := va_rf ((zP o18.2 3 x0).map (zh y))) X hw_X2_readTag_2 hM rfl zc_2 ca (by decide) fl_X2_readTag_2_3 rfl dX2_readTag_86 ?_
            clear ca
            obtain ⟨b19, hb9, hf⟩ := m_calPE hf
            refine z_topr hb9 ?_
            clear hb9
            refine lv_aload_n hx hb dX2_readTag_89 rfl (lv_at hl 1 rfl) ?_
            obtain ⟨ca, hf⟩ := m_chkPE hf
            replace ca := z_in hM (by decide) ca
            refine z_get (k := 2) (j := 6) (C := RX2) (T := TX2) (N := 12) (fl := zf_2) (v := va_rf ((zP o18.2 6 x0).map (zh y))) X hw_X2_readTag_2 hM rfl zc_2 ca (by decide) fl_X2_readTag_2_6 rfl dX2_readTag_90 ?_
            clear ca
            obtain ⟨b20, hb9, hf⟩ := m_calPE hf
            refine z_topr hb9 ?_
            clear hb9
            obtain ⟨ca, hf⟩ := m_chkPE hf
            replace ca := z_in hM (by decide) ca
            obtain ⟨mc, ms, hcm, ho⟩ := m_galE hf
            refine z_wcallVi (k := 1) (C := RX1) (T := TX1) (N := 8) (fl := zf_1) X hM rfl zc_1 ca (c_X1_hasTag ho) gX2_readTag_X1_hasTag rfl ⟨rfl, rfl⟩ ⟨by show kc - (C9) + mc ≤ kc; omega, by show kt - (T10) + ms ≤ kt; omega⟩ hd_X1_hasTag ⟨Nat.le_of_ble_eq_true rfl, Nat.le_of_ble_eq_true rfl⟩ rfl hl.1 rfl (Nat.le_of_ble_eq_true rfl) dX2_readTag_93 (fun r22 S23 H locs hf hM => ?_)
            refine z_eqCS (c2 := kc - (C9 - mc)) (t2 := kt - (T10 - ms)) (by omega) (by omega) ?_
            replace hCT : C9 - mc ≤ kc ∧ T10 - ms ≤ kt := by omega
            generalize C9 - mc = C24 at hf hCT ⊢
            generalize T10 - ms = T25 at hf hCT ⊢
            clear ho hcm
            refine lv_if_ne (tgt := 111) hx hb dX2_readTag_96 (by decide) (fun cc1 => ?_) (fun cc1 => ?_)
            · replace hf := m_ifPF hf cc1
              exact w_X2_readTag_111 (x0 := x0) (x1 := (zI S 4 x0)) X hret hf hCT hM (lv_sub hl [1, 0] rfl)
            · replace hf := m_ifPT hf cc1
              refine lv_aload_n hx hb dX2_readTag_99 rfl (lv_at hl 1 rfl) ?_
              obtain ⟨ca, hf⟩ := m_chkPE hf
              replace ca := z_in hM (by decide) ca
              refine z_get (k := 2) (j := 7) (C := RX2) (T := TX2) (N := 12) (fl := zf_2) (v := va_rf ((zP S23 7 x0).map (zh y))) X hw_X2_readTag_2 hM rfl zc_2 ca (by decide) fl_X2_readTag_2_7 rfl dX2_readTag_100 ?_
              clear ca
              obtain ⟨b26, hb9, hf⟩ := m_calPE hf
              refine z_topr hb9 ?_
              clear hb9
              obtain ⟨ca, hf⟩ := m_chkPE hf
              replace ca := z_in hM (by decide) ca
              obtain ⟨o27, ho, hf⟩ := m_calPE hf
              refine z_gcallVi (k := 6) (C := RX6) (T := TX6) (N := 2) (fl := zf_6) X hM rfl zc_6 ca (c_X6_size ho) gX2_readTag_X6_size rfl ⟨rfl, rfl⟩ hd_X6_size ⟨Nat.le_of_ble_eq_true rfl, Nat.le_of_ble_eq_true rfl⟩ rfl hl.1 rfl ⟨Nat.sub_le _ _, Nat.sub_le _ _⟩ (Nat.le_of_ble_eq_true rfl) dX2_readTag_103 (fun H locs hM => ?_)
              clear ho
              refine lv_bipush (v := (96 : Int32)) hx hb dX2_readTag_106 (by decide) ?_
              refine lv_icmp_le (tgt := 118) hx hb dX2_readTag_108 (by decide) (fun cc1 => ?_) (fun cc1 => ?_)
              · replace hf := m_ifPT hf cc1
                refine lv_aload_n hx hb dX2_readTag_118 rfl (lv_at hl 1 rfl) ?_
                obtain ⟨ca, hf⟩ := m_chkPE hf
                replace ca := z_in hM (by decide) ca
                refine z_get (k := 2) (j := 6) (C := RX2) (T := TX2) (N := 12) (fl := zf_2) (v := va_rf ((zP o27.2 6 x0).map (zh y))) X hw_X2_readTag_2 hM rfl zc_2 ca (by decide) fl_X2_readTag_2_6 rfl dX2_readTag_119 ?_
                clear ca
                obtain ⟨b28, hb9, hf⟩ := m_calPE hf
                refine z_topr hb9 ?_
                clear hb9
                refine z_ldcS X hM sr_X2_readTag_110 dX2_readTag_122 ?_
                obtain ⟨ca, hf⟩ := m_chkPE hf
                replace ca := z_in hM (by decide) ca
                obtain ⟨o29, ho, hf⟩ := m_calPE hf
                refine z_gcallVi (k := 6) (C := RX6) (T := TX6) (N := 2) (fl := zf_6) X hM rfl zc_6 ca (c_X6_is ho) gX2_readTag_X6_is rfl ⟨rfl, rfl⟩ hd_X6_is ⟨Nat.le_of_ble_eq_true rfl, Nat.le_of_ble_eq_true rfl⟩ rfl hl.1 rfl ⟨Nat.sub_le _ _, Nat.sub_le _ _⟩ (Nat.le_of_ble_eq_true rfl) dX2_readTag_124 (fun H locs hM => ?_)
                clear ho
                refine lv_if_eq (tgt := 158) hx hb dX2_readTag_127 (by decide) (fun cc1 => ?_) (fun cc1 => ?_)
                · replace hf := m_ifPT hf cc1
                  exact w_X2_readTag_158 (x0 := x0) X hret hf hCT hM (lv_sub hl [1] rfl)
                · replace hf := m_ifPF hf cc1
                  refine lv_aload_n hx hb dX2_readTag_130 rfl (lv_at hl 1 rfl) ?_
                  obtain ⟨ca, hf⟩ := m_chkPE hf
                  replace ca := z_in hM (by decide) ca
                  refine z_get (k := 2) (j := 1) (C := RX2) (T := TX2) (N := 12) (fl := zf_2) (v := va_rf ((zP o29.2 1 x0).map (zh y))) X hw_X2_readTag_2 hM rfl zc_2 ca (by decide) fl_X2_readTag_2_1 rfl dX2_readTag_131 ?_
                  clear ca
                  obtain ⟨b30, hb9, hf⟩ := m_calPE hf
                  refine z_topr hb9 ?_
                  clear hb9
                  refine lv_aload_n hx hb dX2_readTag_134 rfl (lv_at hl 1 rfl) ?_
                  obtain ⟨ca, hf⟩ := m_chkPE hf
                  replace ca := z_in hM (by decide) ca
                  refine z_get (k := 2) (j := 3) (C := RX2) (T := TX2) (N := 12) (fl := zf_2) (v := va_rf ((zP o29.2 3 x0).map (zh y))) X hw_X2_readTag_2 hM rfl zc_2 ca (by decide) fl_X2_readTag_2_3 rfl dX2_readTag_135 ?_
                  clear ca
                  obtain ⟨b31, hb9, hf⟩ := m_calPE hf
                  refine z_topr hb9 ?_
                  clear hb9
                  obtain ⟨ca, hf⟩ := m_chkPE hf
                  replace ca := z_in hM (by decide) ca
                  refine z_get (k := 1) (j := 0) (C := RX1) (T := TX1) (N := 8) (fl := zf_1) (v := va_rf ((zP o29.2 0 b31).map (zh y))) X hw_X2_readTag_1 hM rfl zc_1 ca (by decide) fl_X2_readTag_1_0 rfl dX2_readTag_138 ?_
                  clear ca
                  obtain ⟨b32, hb9, hf⟩ := m_calPE hf
                  refine z_topr hb9 ?_
                  clear hb9
                  refine lv_aload_n hx hb dX2_readTag_141 rfl (lv_at hl 1 rfl) ?_
                  obtain ⟨ca, hf⟩ := m_chkPE hf
                  replace ca := z_in hM (by decide) ca
                  refine z_get (k := 2) (j := 7) (C := RX2) (T := TX2) (N := 12) (fl := zf_2) (v := va_rf ((zP o29.2 7 x0).map (zh y))) X hw_X2_readTag_2 hM rfl zc_2 ca (by decide) fl_X2_readTag_2_7 rfl dX2_readTag_142 ?_
                  clear ca
                  obtain ⟨b33, hb9, hf⟩ := m_calPE hf
                  refine z_topr hb9 ?_
                  clear hb9
                  obtain ⟨ca, hf⟩ := m_chkPE hf
                  replace ca := z_in hM (by decide) ca
                  obtain ⟨o34, ho, hf⟩ := m_calPE hf
                  refine z_gcallVi (k := 5) (C := RX5) (T := TX5) (N := 2) (fl := zf_5) X hM rfl zc_5 ca (c_X5_readInto ho) gX2_readTag_X5_readInto rfl ⟨rfl, rfl⟩ hd_X5_readInto ⟨Nat.le_of_ble_eq_true rfl, Nat.le_of_ble_eq_true rfl⟩ rfl hl.1 rfl ⟨Nat.sub_le _ _, Nat.sub_le _ _⟩ (Nat.le_of_ble_eq_true rfl) dX2_readTag_145 (fun H locs hM => ?_)
                  clear ho
                  refine lv_if_ne (tgt := 158) hx hb dX2_readTag_148 (by decide) (fun cc1 => ?_) (fun cc1 => ?_)
                  · replace hf := m_ifPF hf cc1
                    exact w_X2_readTag_158 (x0 := x0) X hret hf hCT hM (lv_sub hl [1] rfl)
                  · replace hf := m_ifPT hf cc1
                    refine lv_aload_n hx hb dX2_readTag_151 rfl (lv_at hl 1 rfl) ?_
                    refine lv_iconst (v := (3 : Int32)) hx hb dX2_readTag_152 (by decide) ?_
                    refine lv_iload_n hx hb dX2_readTag_153 rfl (lv_at hl 0 rfl) ?_
                    obtain ⟨ca, hf⟩ := m_chkPE hf
                    replace ca := z_in hM (by decide) ca
                    obtain ⟨o35, ho, hf⟩ := m_calPE hf
                    refine z_gcallVi (k := 2) (C := RX2) (T := TX2) (N := 12) (fl := zf_2) X hM rfl zc_2 ca (c_X2_refuse ho) gX2_readTag_X2_refuse rfl ⟨rfl, rfl⟩ hd_X2_refuse ⟨Nat.le_of_ble_eq_true rfl, Nat.le_of_ble_eq_true rfl⟩ rfl hl.1 rfl ⟨Nat.sub_le _ _, Nat.sub_le _ _⟩ (Nat.le_of_ble_eq_true rfl) dX2_readTag_154 (fun H locs hM => ?_)
                    clear ho
                    obtain ⟨cd, hf⟩ := m_chkPE hf
                    exact hret _ _ _ _ H locs _ ls hf hM (m_nb cd) dX2_readTag_157
              · replace hf := m_ifPF hf cc1
                exact w_X2_readTag_111 (x0 := x0) (x1 := (zI S 4 x0)) X hret hf hCT hM (lv_sub hl [1, 0] rfl)
      · replace hf := m_ifPF hf cc1
        refine lv_aload_n hx hb dX2_readTag_41 rfl (lv_at hl 1 rfl) ?_
        refine lv_iconst (v := (1 : Int32)) hx hb dX2_readTag_42 (by decide) ?_
        refine lv_aload_n hx hb dX2_readTag_43 rfl (lv_at hl 1 rfl) ?_
        obtain ⟨ca, hf⟩ := m_chkPE hf
        replace ca := z_in hM (by decide) ca
        refine z_get (k := 2) (j := 4) (C := RX2) (T := TX2) (N := 12) (fl := zf_2) (v := .int (zI o13.2 4 x0)) X hw_X2_readTag_2 hM rfl zc_2 ca (by decide) fl_X2_readTag_2_4 rfl dX2_readTag_44 ?_
        clear ca
        obtain ⟨ca, hf⟩ := m_chkPE hf
        replace ca := z_in hM (by decide) ca
        obtain ⟨o36, ho, hf⟩ := m_calPE hf
        refine z_gcallVi (k := 2) (C := RX2) (T := TX2) (N := 12) (fl := zf_2) X hM rfl zc_2 ca (c_X2_refuse ho) gX2_readTag_X2_refuse rfl ⟨rfl, rfl⟩ hd_X2_refuse ⟨Nat.le_of_ble_eq_true rfl, Nat.le_of_ble_eq_true rfl⟩ rfl hl.1 rfl ⟨Nat.sub_le _ _, Nat.sub_le _ _⟩ (Nat.le_of_ble_eq_true rfl) dX2_readTag_47 (fun H locs hM => ?_)
        clear ho
        obtain ⟨cd, hf⟩ := m_chkPE hf
        exact hret _ _ _ _ H locs _ ls hf hM (m_nb cd) dX2_readTag_50
    · replace hf := m_ifPT hf cc1
      exact w_X2_readTag_19 X hret hf hCT hM (lv_sub hl [] rfl)
noncomputable def g_X2_readTag (x0 : Nat) (S : ZS) (mc ms : Nat) (Pw : Int32 → ZS → Prop) : Prop := g_X2_readTag_0 Pw x0 S mc ms
theorem c_X2_readTag {l : Launch} {D : va_G} {y : Nat → ClassId} {x0 : Nat} {S : ZS} {kc kt : Nat} {Pw : Int32 → ZS → Prop} (hf : g_X2_readTag x0 S kc kt Pw) : zWi l yX2_readTag wsX2_readTag ({ frames := 7, cells := kc, slots := kt, locals := 162 } : Room) [.ref (zh y x0)] D y S kc kt Pw :=
  z_wentI (own := RX2) (cc := cX2_readTag) (maxL := 2) (by decide) rfl rfl (Nat.le_of_ble_eq_true rfl) ⟨rfl, rfl⟩ (fun p e s m args below meth c A0 Q H locs ls X hret hM hl => w_X2_readTag_0 X hret hf ⟨Nat.le_refl _, Nat.le_refl _⟩ hM (lv_sub hl [0] rfl))
theorem hd_X6_indexOf : yX6_indexOf.cls = RX6 ∧ yX6_indexOf.cls ≠ "java/lang/invoke/MethodHandle" ∧ yX6_indexOf.cls ≠ "java/lang/invoke/VarHandle" ∧ (parseMethodDescriptor yX6_indexOf.desc).map (fun d => d.parameters.length) = some 2 := by decide +kernel
theorem fl_X6_indexOf_6_0 : Cond.fieldLink RX6 13 "MoveTexts$Row" "chars" "[C" ∈ wsX6_indexOf := by decide +kernel
theorem fl_X6_indexOf_6_1 : Cond.fieldLink RX6 16 "MoveTexts$Row" "length" "I" ∈ wsX6_indexOf := by decide +kernel
theorem hw_X6_indexOf_6 : ∀ w ∈ wsX60, w ∈ wsX6_indexOf := by decide +kernel
theorem lm_X6_indexOf_max : (Cond.methodLink RX6 46 Lib.Math.max.name ∈ wsX6_indexOf ∧ Cond.static Lib.Math.max.name ∈ wsX6_indexOf) ∧ Cond.initialized "java/lang/Math" ∈ wsX6_indexOf ∧ Cond.code Lib.Math.max.name Lib.Math.max.code 2 (some .int) ∈ wsX6_indexOf := by decide +kernel
noncomputable def f_X6_indexOf_30 (x3 : Int32) (S : ZS) : Option (Int32 × ZS) :=
  some (x3, S)

set_option maxRecDepth 100000 in
set_option maxHeartbeats 4000000 in
theorem w_X6_indexOf_30 {p : Program} {l : Launch} {e : Env} {s : State} {m : MethodId} {args : Array Value} {below : List Frame} {meth : Method} {c : Code} {Q : State → Prop} {D : va_G} {y : Nat → ClassId} {A0 : Nat → Prop} {o : Int32 × ZS} (X : CallFix p m c cX6_indexOf 4 s args wsX6_indexOf RX6) (hret : zRi p l e ({ frames := 1, cells := 0, slots := 0, locals := 24 } : Room) s m args below meth c Q cX6_indexOf D y A0 .int o) {x3 : Int32} {S : ZS} {H : Heap} {locs : List Loc} {ls : Array Slot} (hf : f_X6_indexOf_30 x3 S = some o) (hM : zH D y A0 s H locs S) (hl : lv_has ls 4 [(3, .int x3)]) : W p l e ({ frames := 1, cells := 0, slots := 0, locals := 24 } : Room) s m args below meth c H locs 0 0 Q (F0 m 30 ls []) := by
  obtain ⟨hx, hb, hml, hown, hts⟩ := id X
  unfold f_X6_indexOf_30 at hf
  refine lv_iload_n hx hb dX6_indexOf_30 rfl (lv_at hl 0 rfl) ?_
  cases hf
  exact hret H locs _ ls hM rfl dX6_indexOf_31
noncomputable def f_X6_indexOf_6s (self6 : Nat → Int32 → Int32 → ZS → Option (Int32 × ZS)) (x0 : Nat) (x1 : Int32) (x3 : Int32) (S : ZS) : Option (Int32 × ZS) :=
  m_chk (zK S x0 = 6) (
  m_if ((zI S 1 x0) ≤ x3) (
  f_X6_indexOf_30 x3 S
  ) (
  m_chk (zK S x0 = 6) (
  m_cal (zP S 0 x0) (fun b1 =>
  m_chk (zK S b1 = 13) (
  m_chk (¬ (x3 < 0 ∨ zN S b1 ≤ (x3).toNatClampNeg)) (
  m_bnd (zA S b1 (x3).toNatClampNeg) (fun v2 =>
  m_if (v2 = x1) (
  f_X6_indexOf_30 x3 S
  ) (
  m_bnd (x3 + (1 : Int32)) (fun v3 =>
  self6 x0 x1 v3 S)
  ))))))
  ))

set_option maxRecDepth 100000 in
set_option maxHeartbeats 4000000 in
theorem ws_X6_indexOf_6 {p : Program} {l : Launch} {e : Env} {s : State} {m : MethodId} {args : Array Value} {below : List Frame} {meth : Method} {c : Code} {Q : State → Prop} {D : va_G} {y : Nat → ClassId} {A0 : Nat → Prop} {o : Int32 × ZS} (X : CallFix p m c cX6_indexOf 4 s args wsX6_indexOf RX6) (hret : zRi p l e ({ frames := 1, cells := 0, slots := 0, locals := 24 } : Room) s m args below meth c Q cX6_indexOf D y A0 .int o) {self6 : Nat → Int32 → Int32 → ZS → Option (Int32 × ZS)} (hself6 : ∀ (x0 : Nat) (x1 : Int32) (x3 : Int32) (S : ZS) (H : Heap) (locs : List Loc) (ls : Array Slot), self6 x0 x1 x3 S = some o → zH D y A0 s H locs S → lv_has ls 4 [(0, .ref (zh y x0)), (1, .int x1), (3, .int x3)] → W p l e ({ frames := 1, cells := 0, slots := 0, locals := 24 } : Room) s m args below meth c H locs 0 0 Q (F0 m 6 ls [])) {x0 : Nat} {x1 : Int32} {x3 : Int32} {S : ZS} {H : Heap} {locs : List Loc} {ls : Array Slot} (hf : f_X6_indexOf_6s self6 x0 x1 x3 S = some o) (hM : zH D y A0 s H locs S) (hl : lv_has ls 4 [(0, .ref (zh y x0)), (1, .int x1), (3, .int x3)]) : W p l e ({ frames := 1, cells := 0, slots := 0, locals := 24 } : Room) s m args below meth c H locs 0 0 Q (F0 m 6 ls []) := by
  obtain ⟨hx, hb, hml, hown, hts⟩ := id X
  unfold f_X6_indexOf_6s at hf
  refine lv_iload_n hx hb dX6_indexOf_6 rfl (lv_at hl 2 rfl) ?_
  refine lv_aload_n hx hb dX6_indexOf_7 rfl (lv_at hl 0 rfl) ?_
  obtain ⟨ca, hf⟩ := m_chkE hf
  replace ca := z_in hM (by decide) ca
  refine z_get (k := 6) (j := 1) (C := RX6) (T := TX6) (N := 2) (fl := zf_6) (v := .int (zI S 1 x0)) X hw_X6_indexOf_6 hM rfl zc_6 ca (by decide) fl_X6_indexOf_6_1 rfl dX6_indexOf_8 ?_
  clear ca
  refine lv_icmp_ge (tgt := 30) hx hb dX6_indexOf_11 (by decide) (fun cc1 => ?_) (fun cc1 => ?_)
  · replace hf := m_ifT hf cc1
    exact w_X6_indexOf_30 (x3 := x3) X hret hf hM (lv_sub hl [2] rfl)
  · replace hf := m_ifF hf cc1
    refine lv_aload_n hx hb dX6_indexOf_14 rfl (lv_at hl 0 rfl) ?_
    obtain ⟨ca, hf⟩ := m_chkE hf
    replace ca := z_in hM (by decide) ca
    refine z_get (k := 6) (j := 0) (C := RX6) (T := TX6) (N := 2) (fl := zf_6) (v := va_rf ((zP S 0 x0).map (zh y))) X hw_X6_indexOf_6 hM rfl zc_6 ca (by decide) fl_X6_indexOf_6_0 rfl dX6_indexOf_15 ?_
    clear ca
    obtain ⟨b1, hb9, hf⟩ := m_calE hf
    refine z_topr hb9 ?_
    clear hb9
    refine lv_iload_n hx hb dX6_indexOf_18 rfl (lv_at hl 2 rfl) ?_
    obtain ⟨ca, hf⟩ := m_chkE hf
    replace ca := z_in hM (by decide) ca
    obtain ⟨cd, hf⟩ := m_chkE hf
    refine z_cald X hM ca cd dX6_indexOf_19 ?_
    clear ca cd
    obtain ⟨v2, ev, hf⟩ := m_bndE hf
    refine m_top ev ?_
    clear ev
    refine lv_iload_n hx hb dX6_indexOf_20 rfl (lv_at hl 1 rfl) ?_
    refine lv_icmp_eq (tgt := 30) hx hb dX6_indexOf_21 (by decide) (fun cc1 => ?_) (fun cc1 => ?_)
    · replace hf := m_ifT hf cc1
      exact w_X6_indexOf_30 (x3 := x3) X hret hf hM (lv_sub hl [2] rfl)
    · replace hf := m_ifF hf cc1
      obtain ⟨v3, ev, hf⟩ := m_bndE hf
      refine lv_iinc (v := v3) (lv' := [(3, .int v3), (0, .ref (zh y x0)), (1, .int x1)]) hx hb dX6_indexOf_24 hl (k := 2) rfl (by rw [ev]; rfl) (by decide) rfl (fun ls hl => ?_)
      clear ev
      refine lv_goto (tgt := 6) hx hb dX6_indexOf_27 (by decide) ?_
      exact hself6 x0 x1 v3 _ _ _ _ hf hM (lv_sub hl [1, 2, 0] rfl)
noncomputable def f_X6_indexOf_6 : Nat → Nat → Int32 → Int32 → ZS → Option (Int32 × ZS)
  | 0 => fun _ _ _ _ => none
  | n + 1 => f_X6_indexOf_6s (f_X6_indexOf_6 n)
theorem w_X6_indexOf_6 {p : Program} {l : Launch} {e : Env} {s : State} {m : MethodId} {args : Array Value} {below : List Frame} {meth : Method} {c : Code} {Q : State → Prop} {D : va_G} {y : Nat → ClassId} {A0 : Nat → Prop} {o : Int32 × ZS} (X : CallFix p m c cX6_indexOf 4 s args wsX6_indexOf RX6) (hret : zRi p l e ({ frames := 1, cells := 0, slots := 0, locals := 24 } : Room) s m args below meth c Q cX6_indexOf D y A0 .int o) (n : Nat) : ∀ (x0 : Nat) (x1 : Int32) (x3 : Int32) (S : ZS) (H : Heap) (locs : List Loc) (ls : Array Slot), f_X6_indexOf_6 n x0 x1 x3 S = some o → zH D y A0 s H locs S → lv_has ls 4 [(0, .ref (zh y x0)), (1, .int x1), (3, .int x3)] → W p l e ({ frames := 1, cells := 0, slots := 0, locals := 24 } : Room) s m args below meth c H locs 0 0 Q (F0 m 6 ls []) := by
  induction n with
  | zero => intro x0 x1 x3 S H locs ls hf; cases hf
  | succ n ih => intro x0 x1 x3 S H locs ls hf hM hl; exact ws_X6_indexOf_6 X hret (self6 := f_X6_indexOf_6 n) ih hf hM hl
noncomputable def f_X6_indexOf_0 (x0 : Nat) (x1 : Int32) (x2 : Int32) (S : ZS) : Option (Int32 × ZS) :=
  m_bnd (if x2 < (0 : Int32) then (0 : Int32) else x2) (fun v1 =>
  f_X6_indexOf_6 mFuel x0 x1 v1 S)

set_option maxRecDepth 100000 in
set_option maxHeartbeats 4000000 in
theorem w_X6_indexOf_0 {p : Program} {l : Launch} {e : Env} {s : State} {m : MethodId} {args : Array Value} {below : List Frame} {meth : Method} {c : Code} {Q : State → Prop} {D : va_G} {y : Nat → ClassId} {A0 : Nat → Prop} {o : Int32 × ZS} (X : CallFix p m c cX6_indexOf 4 s args wsX6_indexOf RX6) (hret : zRi p l e ({ frames := 1, cells := 0, slots := 0, locals := 24 } : Room) s m args below meth c Q cX6_indexOf D y A0 .int o) {x0 : Nat} {x1 : Int32} {x2 : Int32} {S : ZS} {H : Heap} {locs : List Loc} {ls : Array Slot} (hf : f_X6_indexOf_0 x0 x1 x2 S = some o) (hM : zH D y A0 s H locs S) (hl : lv_has ls 4 [(0, .ref (zh y x0)), (1, .int x1), (2, .int x2)]) : W p l e ({ frames := 1, cells := 0, slots := 0, locals := 24 } : Room) s m args below meth c H locs 0 0 Q (F0 m 0 ls []) := by
  obtain ⟨hx, hb, hml, hown, hts⟩ := id X
  unfold f_X6_indexOf_0 at hf
  refine lv_iload_n hx hb dX6_indexOf_0 rfl (lv_at hl 2 rfl) ?_
  refine lv_iconst (v := (0 : Int32)) hx hb dX6_indexOf_1 (by decide) ?_
  refine z_mmax X (by rw [hml]; exact hl.1.symm) lm_X6_indexOf_max.1 lm_X6_indexOf_max.2 (Nat.le_of_ble_eq_true rfl) (Nat.le_of_ble_eq_true rfl) ⟨Nat.zero_le _, Nat.zero_le _⟩ dX6_indexOf_2 ?_
  obtain ⟨v1, ev, hf⟩ := m_bndE hf
  refine m_top ev ?_
  clear ev
  refine lv_istore_n (lv' := [(3, .int v1), (0, .ref (zh y x0)), (1, .int x1), (2, .int x2)]) hx hb dX6_indexOf_5 rfl hl (by decide) rfl (fun ls hl => ?_)
  exact w_X6_indexOf_6 X hret _ x0 x1 v1 _ _ _ _ hf hM (lv_sub hl [1, 2, 0] rfl)
noncomputable def f_X6_indexOf (x0 : Nat) (x1 : Int32) (x2 : Int32) (S : ZS) : Option (Int32 × ZS) := f_X6_indexOf_0 x0 x1 x2 S
theorem c_X6_indexOf {l : Launch} {D : va_G} {y : Nat → ClassId} {x0 : Nat} {x1 : Int32} {x2 : Int32} {S : ZS} {o : Int32 × ZS} (hf : f_X6_indexOf x0 x1 x2 S = some o) : zMi l yX6_indexOf wsX6_indexOf ({ frames := 1, cells := 0, slots := 0, locals := 24 } : Room) [.ref (zh y x0), .int x1, .int x2] D y S o :=
  z_entryI (own := RX6) (cc := cX6_indexOf) (maxL := 4) (by decide) rfl rfl (Nat.le_of_ble_eq_true rfl) (fun p e s m args below meth c A0 Q H locs ls X hret hM hl => w_X6_indexOf_0 X hret hf hM (lv_sub hl [0, 1, 2] rfl))
theorem hd_X4_joinRemark : yX4_joinRemark.cls = RX4 ∧ yX4_joinRemark.cls ≠ "java/lang/invoke/MethodHandle" ∧ yX4_joinRemark.cls ≠ "java/lang/invoke/VarHandle" ∧ (parseMethodDescriptor yX4_joinRemark.desc).map (fun d => d.parameters.length) = some 3 := by decide +kernel
theorem fl_X4_joinRemark_4_6 : Cond.fieldLink RX4 33 "MoveTexts$Node" "remark" "LMoveTexts$Row;" ∈ wsX4_joinRemark := by decide +kernel
theorem hw_X4_joinRemark_4 : ∀ w ∈ wsX40, w ∈ wsX4_joinRemark := by decide +kernel
noncomputable def g_X4_joinRemark_96 (Pw : Int32 → ZS → Prop) (self64 : Nat → Nat → Int32 → Int32 → ZS → Nat → Nat → Prop) (x0 : Nat) (x1 : Nat) (x3 : Int32) (x5 : Int32) (t0 : Int32) (t1 : Nat) (S : ZS) (C T : Nat) : Prop :=
  m_chkQ (zK S t1 = 6) (
  m_gal (C) (T) (fun mc ms Pw => g_X6_put t1 t0 S mc ms Pw) (fun r2 S3 C4 T5 =>
  m_bndP (x5 + (1 : Int32)) (fun v6 =>
  self64 x0 x1 x3 v6 S3 (C4) (T5))))

set_option maxRecDepth 100000 in
set_option maxHeartbeats 4000000 in
theorem w_X4_joinRemark_96 {p : Program} {l : Launch} {e : Env} {s : State} {m : MethodId} {args : Array Value} {below : List Frame} {meth : Method} {c : Code} {Q : State → Prop} {D : va_G} {y : Nat → ClassId} {A0 : Nat → Prop} {kc kt : Nat} {Pw : Int32 → ZS → Prop} (X : CallFix p m c cX4_joinRemark 6 s args wsX4_joinRemark RX4) (hret : zQi p l e ({ frames := 2, cells := kc, slots := kt, locals := 82 } : Room) s m args below meth c Q cX4_joinRemark D y A0 .boolean Pw) {self64 : Nat → Nat → Int32 → Int32 → ZS → Nat → Nat → Prop} (hself64 : ∀ (x0 : Nat) (x1 : Nat) (x3 : Int32) (x5 : Int32) (S : ZS) (C T : Nat) (H : Heap) (locs : List Loc) (ls : Array Slot), self64 x0 x1 x3 x5 S C T → C ≤ kc ∧ T ≤ kt → zH D y A0 s H locs S → lv_has ls 6 [(0, .ref (zh y x0)), (1, .ref (zh y x1)), (3, .int x3), (5, .int x5)] → W p l e ({ frames := 2, cells := kc, slots := kt, locals := 82 } : Room) s m args below meth c H locs (kc - C) (kt - T) Q (F0 m 64 ls [])) {x0 : Nat} {x1 : Nat} {x3 : Int32} {x5 : Int32} {t0 : Int32} {t1 : Nat} {S : ZS} {C T : Nat} {H : Heap} {locs : List Loc} {ls : Array Slot} (hf : g_X4_joinRemark_96 Pw self64 x0 x1 x3 x5 t0 t1 S C T) (hCT : C ≤ kc ∧ T ≤ kt) (hM : zH D y A0 s H locs S) (hl : lv_has ls 6 [(0, .ref (zh y x0)), (1, .ref (zh y x1)), (3, .int x3), (5, .int x5)]) : W p l e ({ frames := 2, cells := kc, slots := kt, locals := 82 } : Room) s m args below meth c H locs (kc - C) (kt - T) Q (F0 m 96 ls [.int t0, .ref (zh y t1)]) := by
  obtain ⟨hx, hb, hml, hown, hts⟩ := id X
  unfold g_X4_joinRemark_96 at hf
  obtain ⟨ca, hf⟩ := m_chkPE hf
  replace ca := z_in hM (by decide) ca
  obtain ⟨mc, ms, hcm, ho⟩ := m_galE hf
  refine z_wcallVv (k := 6) (C := RX6) (T := TX6) (N := 2) (fl := zf_6) X hM rfl zc_6 ca (c_X6_put ho) gX4_joinRemark_X6_put rfl ⟨rfl, rfl⟩ ⟨by show kc - (C) + mc ≤ kc; omega, by show kt - (T) + ms ≤ kt; omega⟩ hd_X6_put ⟨Nat.le_of_ble_eq_true rfl, Nat.le_of_ble_eq_true rfl⟩ rfl hl.1 rfl (Nat.le_of_ble_eq_true rfl) dX4_joinRemark_96 (fun S3 H locs hf hM => ?_)
  refine z_eqCS (c2 := kc - (C - mc)) (t2 := kt - (T - ms)) (by omega) (by omega) ?_
  replace hCT : C - mc ≤ kc ∧ T - ms ≤ kt := by omega
  generalize C - mc = C4 at hf hCT ⊢
  generalize T - ms = T5 at hf hCT ⊢
  clear ho hcm
  obtain ⟨v6, ev, hf⟩ := m_bndPE hf
  refine lv_iinc (v := v6) (lv' := [(5, .int v6), (0, .ref (zh y x0)), (1, .ref (zh y x1)), (3, .int x3)]) hx hb dX4_joinRemark_99 hl (k := 3) rfl (by rw [ev]; rfl) (by decide) rfl (fun ls hl => ?_)
  clear ev
  refine lv_goto (tgt := 64) hx hb dX4_joinRemark_102 (by decide) ?_
  exact hself64 x0 x1 x3 v6 _ _ _ _ _ _ hf hCT hM (lv_sub hl [1, 2, 3, 0] rfl)
noncomputable def g_X4_joinRemark_64s (Pw : Int32 → ZS → Prop) (self64 : Nat → Nat → Int32 → Int32 → ZS → Nat → Nat → Prop) (x0 : Nat) (x1 : Nat) (x3 : Int32) (x5 : Int32) (S : ZS) (C T : Nat) : Prop :=
  m_ifQ (x3 ≤ x5) (
  m_chkQ (vp_nar .boolean (1 : Int32) = (1 : Int32)) (Pw (1 : Int32) S)
  ) (
  m_chkQ (zK S x0 = 4) (
  m_calP (zP S 6 x0) (fun b1 =>
  m_chkQ (zK S x1 = 6) (
  m_calP (f_X6_at x1 x5 S) (fun o2 =>
  m_ifQ (o2.1 = (10 : Int32)) (
  g_X4_joinRemark_96 Pw self64 x0 x1 x3 x5 (32 : Int32) b1 o2.2 (C) (T)
  ) (
  m_chkQ (zK o2.2 x1 = 6) (
  m_calP (f_X6_at x1 x5 o2.2) (fun o3 =>
  g_X4_joinRemark_96 Pw self64 x0 x1 x3 x5 o3.1 b1 o3.2 (C) (T)))
  )))))
  )

set_option maxRecDepth 100000 in
set_option maxHeartbeats 4000000 in
theorem ws_X4_joinRemark_64 {p : Program} {l : Launch} {e : Env} {s : State} {m : MethodId} {args : Array Value} {below : List Frame} {meth : Method} {c : Code} {Q : State → Prop} {D : va_G} {y : Nat → ClassId} {A0 : Nat → Prop} {kc kt : Nat} {Pw : Int32 → ZS → Prop} (X : CallFix p m c cX4_joinRemark 6 s args wsX4_joinRemark RX4) (hret : zQi p l e ({ frames := 2, cells := kc, slots := kt, locals := 82 } : Room) s m args below meth c Q cX4_joinRemark D y A0 .boolean Pw) {self64 : Nat → Nat → Int32 → Int32 → ZS → Nat → Nat → Prop} (hself64 : ∀ (x0 : Nat) (x1 : Nat) (x3 : Int32) (x5 : Int32) (S : ZS) (C T : Nat) (H : Heap) (locs : List Loc) (ls : Array Slot), self64 x0 x1 x3 x5 S C T → C ≤ kc ∧ T ≤ kt → zH D y A0 s H locs S → lv_has ls 6 [(0, .ref (zh y x0)), (1, .ref (zh y x1)), (3, .int x3), (5, .int x5)] → W p l e ({ frames := 2, cells := kc, slots := kt, locals := 82 } : Room) s m args below meth c H locs (kc - C) (kt - T) Q (F0 m 64 ls [])) {x0 : Nat} {x1 : Nat} {x3 : Int32} {x5 : Int32} {S : ZS} {C T : Nat} {H : Heap} {locs : List Loc} {ls : Array Slot} (hf : g_X4_joinRemark_64s Pw self64 x0 x1 x3 x5 S C T) (hCT : C ≤ kc ∧ T ≤ kt) (hM : zH D y A0 s H locs S) (hl : lv_has ls 6 [(0, .ref (zh y x0)), (1, .ref (zh y x1)), (3, .int x3), (5, .int x5)]) : W p l e ({ frames := 2, cells := kc, slots := kt, locals := 82 } : Room) s m args below meth c H locs (kc - C) (kt - T) Q (F0 m 64 ls []) := by
  obtain ⟨hx, hb, hml, hown, hts⟩ := id X
  unfold g_X4_joinRemark_64s at hf
  refine lv_iload hx hb dX4_joinRemark_64 (lv_at hl 3 rfl) ?_
  refine lv_iload_n hx hb dX4_joinRemark_66 rfl (lv_at hl 2 rfl) ?_
  refine lv_icmp_ge (tgt := 105) hx hb dX4_joinRemark_67 (by decide) (fun cc1 => ?_) (fun cc1 => ?_)
  · replace hf := m_ifPT hf cc1
    refine lv_iconst (v := (1 : Int32)) hx hb dX4_joinRemark_105 (by decide) ?_
    obtain ⟨cd, hf⟩ := m_chkPE hf
    exact hret _ _ _ _ H locs _ ls hf hM (m_nb cd) dX4_joinRemark_106
  · replace hf := m_ifPF hf cc1
    refine lv_aload_n hx hb dX4_joinRemark_70 rfl (lv_at hl 0 rfl) ?_
    obtain ⟨ca, hf⟩ := m_chkPE hf
    replace ca := z_in hM (by decide) ca
    refine z_get (k := 4) (j := 6) (C := RX4) (T := TX4) (N := 7) (fl := zf_4) (v := va_rf ((zP S 6 x0).map (zh y))) X hw_X4_joinRemark_4 hM rfl zc_4 ca (by decide) fl_X4_joinRemark_4_6 rfl dX4_joinRemark_71 ?_
    clear ca
    obtain ⟨b1, hb9, hf⟩ := m_calPE hf
    refine z_topr hb9 ?_
    clear hb9
    refine lv_aload_n hx hb dX4_joinRemark_74 rfl (lv_at hl 1 rfl) ?_
    refine lv_iload hx hb dX4_joinRemark_75 (lv_at hl 3 rfl) ?_
    obtain ⟨ca, hf⟩ := m_chkPE hf
    replace ca := z_in hM (by decide) ca
    obtain ⟨o2, ho, hf⟩ := m_calPE hf
    refine z_gcallVi (k := 6) (C := RX6) (T := TX6) (N := 2) (fl := zf_6) X hM rfl zc_6 ca (c_X6_at ho) gX4_joinRemark_X6_at rfl ⟨rfl, rfl⟩ hd_X6_at ⟨Nat.le_of_ble_eq_true rfl, Nat.le_of_ble_eq_true rfl⟩ rfl hl.1 rfl ⟨Nat.sub_le _ _, Nat.sub_le _ _⟩ (Nat.le_of_ble_eq_true rfl) dX4_joinRemark_77 (fun H locs hM => ?_)
    clear ho
    refine lv_bipush (v := (10 : Int32)) hx hb dX4_joinRemark_80 (by decide) ?_
    refine lv_icmp_ne (tgt := 90) hx hb dX4_joinRemark_82 (by decide) (fun cc1 => ?_) (fun cc1 => ?_)
    · replace hf := m_ifPF hf cc1
      refine lv_aload_n hx hb dX4_joinRemark_90 rfl (lv_at hl 1 rfl) ?_
      refine lv_iload hx hb dX4_joinRemark_91 (lv_at hl 3 rfl) ?_
      obtain ⟨ca, hf⟩ := m_chkPE hf
      replace ca := z_in hM (by decide) ca
      obtain ⟨o3, ho, hf⟩ := m_calPE hf
      refine z_gcallVi (k := 6) (C := RX6) (T := TX6) (N := 2) (fl := zf_6) X hM rfl zc_6 ca (c_X6_at ho) gX4_joinRemark_X6_at rfl ⟨rfl, rfl⟩ hd_X6_at ⟨Nat.le_of_ble_eq_true rfl, Nat.le_of_ble_eq_true rfl⟩ rfl hl.1 rfl ⟨Nat.sub_le _ _, Nat.sub_le _ _⟩ (Nat.le_of_ble_eq_true rfl) dX4_joinRemark_93 (fun H locs hM => ?_)
      clear ho
      exact w_X4_joinRemark_96 (x0 := x0) (x1 := x1) (x3 := x3) (x5 := x5) (t0 := o3.1) (t1 := b1) X hret hself64 hf hCT hM (lv_sub hl [0, 1, 2, 3] rfl)
    · replace hf := m_ifPT hf cc1
      refine lv_bipush (v := (32 : Int32)) hx hb dX4_joinRemark_85 (by decide) ?_
      refine lv_goto (tgt := 96) hx hb dX4_joinRemark_87 (by decide) ?_
      exact w_X4_joinRemark_96 (x0 := x0) (x1 := x1) (x3 := x3) (x5 := x5) (t0 := (32 : Int32)) (t1 := b1) X hret hself64 hf hCT hM (lv_sub hl [0, 1, 2, 3] rfl)
noncomputable def g_X4_joinRemark_64 (Pw : Int32 → ZS → Prop) : Nat → Nat → Nat → Int32 → Int32 → ZS → Nat → Nat → Prop
  | 0 => fun _ _ _ _ _ _ _ => False
  | n + 1 => g_X4_joinRemark_64s Pw (g_X4_joinRemark_64 Pw n)
theorem w_X4_joinRemark_64 {p : Program} {l : Launch} {e : Env} {s : State} {m : MethodId} {args : Array Value} {below : List Frame} {meth : Method} {c : Code} {Q : State → Prop} {D : va_G} {y : Nat → ClassId} {A0 : Nat → Prop} {kc kt : Nat} {Pw : Int32 → ZS → Prop} (X : CallFix p m c cX4_joinRemark 6 s args wsX4_joinRemark RX4) (hret : zQi p l e ({ frames := 2, cells := kc, slots := kt, locals := 82 } : Room) s m args below meth c Q cX4_joinRemark D y A0 .boolean Pw) (n : Nat) : ∀ (x0 : Nat) (x1 : Nat) (x3 : Int32) (x5 : Int32) (S : ZS) (C T : Nat) (H : Heap) (locs : List Loc) (ls : Array Slot), g_X4_joinRemark_64 Pw n x0 x1 x3 x5 S C T → C ≤ kc ∧ T ≤ kt → zH D y A0 s H locs S → lv_has ls 6 [(0, .ref (zh y x0)), (1, .ref (zh y x1)), (3, .int x3), (5, .int x5)] → W p l e ({ frames := 2, cells := kc, slots := kt, locals := 82 } : Room) s m args below meth c H locs (kc - C) (kt - T) Q (F0 m 64 ls []) := by
  induction n with
  | zero => intro x0 x1 x3 x5 S C T H locs ls hf; exact absurd hf id
  | succ n ih => intro x0 x1 x3 x5 S C T H locs ls hf hCT hM hl; exact ws_X4_joinRemark_64 X hret (self64 := g_X4_joinRemark_64 Pw n) ih hf hCT hM hl
noncomputable def g_X4_joinRemark_61 (Pw : Int32 → ZS → Prop) (x0 : Nat) (x1 : Nat) (x2 : Int32) (x3 : Int32) (S : ZS) (C T : Nat) : Prop :=
  g_X4_joinRemark_64 Pw mFuel x0 x1 x3 x2 S (C) (T)

set_option maxRecDepth 100000 in
set_option maxHeartbeats 4000000 in
theorem w_X4_joinRemark_61 {p : Program} {l : Launch} {e : Env} {s : State} {m : MethodId} {args : Array Value} {below : List Frame} {meth : Method} {c : Code} {Q : State → Prop} {D : va_G} {y : Nat → ClassId} {A0 : Nat → Prop} {kc kt : Nat} {Pw : Int32 → ZS → Prop} (X : CallFix p m c cX4_joinRemark 6 s args wsX4_joinRemark RX4) (hret : zQi p l e ({ frames := 2, cells := kc, slots := kt, locals := 82 } : Room) s m args below meth c Q cX4_joinRemark D y A0 .boolean Pw) {x0 : Nat} {x1 : Nat} {x2 : Int32} {x3 : Int32} {S : ZS} {C T : Nat} {H : Heap} {locs : List Loc} {ls : Array Slot} (hf : g_X4_joinRemark_61 Pw x0 x1 x2 x3 S C T) (hCT : C ≤ kc ∧ T ≤ kt) (hM : zH D y A0 s H locs S) (hl : lv_has ls 6 [(0, .ref (zh y x0)), (1, .ref (zh y x1)), (2, .int x2), (3, .int x3)]) : W p l e ({ frames := 2, cells := kc, slots := kt, locals := 82 } : Room) s m args below meth c H locs (kc - C) (kt - T) Q (F0 m 61 ls []) := by
  obtain ⟨hx, hb, hml, hown, hts⟩ := id X
  unfold g_X4_joinRemark_61 at hf
  refine lv_iload_n hx hb dX4_joinRemark_61 rfl (lv_at hl 2 rfl) ?_
  refine lv_istore (lv' := [(5, .int x2), (0, .ref (zh y x0)), (1, .ref (zh y x1)), (2, .int x2), (3, .int x3)]) hx hb dX4_joinRemark_62 hl (by decide) rfl (fun ls hl => ?_)
  exact w_X4_joinRemark_64 X hret _ x0 x1 x3 x2 _ _ _ _ _ _ hf hCT hM (lv_sub hl [1, 2, 4, 0] rfl)
noncomputable def g_X4_joinRemark_22 (Pw : Int32 → ZS → Prop) (x0 : Nat) (x1 : Nat) (x2 : Int32) (x3 : Int32) (t0 : Int32) (S : ZS) (C T : Nat) : Prop :=
  m_chkQ (zK S x0 = 4) (
  m_calP (zP S 6 x0) (fun b1 =>
  m_chkQ (zK S b1 = 6) (
  m_calP (f_X6_size b1 S) (fun o2 =>
  m_bndP (o2.1 + t0) (fun v3 =>
  m_bndP (v3 + x3) (fun v4 =>
  m_bndP (v4 - x2) (fun v5 =>
  m_ifQ (v5 ≤ (200 : Int32)) (
  m_ifQ (t0 = (1 : Int32)) (
  m_chkQ (zK o2.2 x0 = 4) (
  m_calP (zP o2.2 6 x0) (fun b6 =>
  m_chkQ (zK o2.2 b6 = 6) (
  m_gal (C) (T) (fun mc ms Pw => g_X6_put b6 (32 : Int32) o2.2 mc ms Pw) (fun r8 S9 C10 T11 =>
  g_X4_joinRemark_61 Pw x0 x1 x2 x3 S9 (C10) (T11)))))
  ) (
  g_X4_joinRemark_61 Pw x0 x1 x2 x3 o2.2 (C) (T)
  )
  ) (
  m_chkQ (vp_nar .boolean (0 : Int32) = (0 : Int32)) (Pw (0 : Int32) o2.2)
  ))))))))

set_option maxRecDepth 100000 in
set_option maxHeartbeats 4000000 in
theorem w_X4_joinRemark_22 {p : Program} {l : Launch} {e : Env} {s : State} {m : MethodId} {args : Array Value} {below : List Frame} {meth : Method} {c : Code} {Q : State → Prop} {D : va_G} {y : Nat → ClassId} {A0 : Nat → Prop} {kc kt : Nat} {Pw : Int32 → ZS → Prop} (X : CallFix p m c cX4_joinRemark 6 s args wsX4_joinRemark RX4) (hret : zQi p l e ({ frames := 2, cells := kc, slots := kt, locals := 82 } : Room) s m args below meth c Q cX4_joinRemark D y A0 .boolean Pw) {x0 : Nat} {x1 : Nat} {x2 : Int32} {x3 : Int32} {t0 : Int32} {S : ZS} {C T : Nat} {H : Heap} {locs : List Loc} {ls : Array Slot} (hf : g_X4_joinRemark_22 Pw x0 x1 x2 x3 t0 S C T) (hCT : C ≤ kc ∧ T ≤ kt) (hM : zH D y A0 s H locs S) (hl : lv_has ls 6 [(0, .ref (zh y x0)), (1, .ref (zh y x1)), (2, .int x2), (3, .int x3)]) : W p l e ({ frames := 2, cells := kc, slots := kt, locals := 82 } : Room) s m args below meth c H locs (kc - C) (kt - T) Q (F0 m 22 ls [.int t0]) := by
  obtain ⟨hx, hb, hml, hown, hts⟩ := id X
  unfold g_X4_joinRemark_22 at hf
  refine lv_istore (lv' := [(4, .int t0), (0, .ref (zh y x0)), (1, .ref (zh y x1)), (2, .int x2), (3, .int x3)]) hx hb dX4_joinRemark_22 hl (by decide) rfl (fun ls hl => ?_)
  refine lv_aload_n hx hb dX4_joinRemark_24 rfl (lv_at hl 1 rfl) ?_
  obtain ⟨ca, hf⟩ := m_chkPE hf
  replace ca := z_in hM (by decide) ca
  refine z_get (k := 4) (j := 6) (C := RX4) (T := TX4) (N := 7) (fl := zf_4) (v := va_rf ((zP S 6 x0).map (zh y))) X hw_X4_joinRemark_4 hM rfl zc_4 ca (by decide) fl_X4_joinRemark_4_6 rfl dX4_joinRemark_25 ?_
  clear ca
  obtain ⟨b1, hb9, hf⟩ := m_calPE hf
  refine z_topr hb9 ?_
  clear hb9
  obtain ⟨ca, hf⟩ := m_chkPE hf
  replace ca := z_in hM (by decide) ca
  obtain ⟨o2, ho, hf⟩ := m_calPE hf
  refine z_gcallVi (k := 6) (C := RX6) (T := TX6) (N := 2) (fl := zf_6) X hM rfl zc_6 ca (c_X6_size ho) gX4_joinRemark_X6_size rfl ⟨rfl, rfl⟩ hd_X6_size ⟨Nat.le_of_ble_eq_true rfl, Nat.le_of_ble_eq_true rfl⟩ rfl hl.1 rfl ⟨Nat.sub_le _ _, Nat.sub_le _ _⟩ (Nat.le_of_ble_eq_true rfl) dX4_joinRemark_28 (fun H locs hM => ?_)
  clear ho
  refine lv_iload hx hb dX4_joinRemark_31 (lv_at hl 0 rfl) ?_
  refine lv_iadd hx hb dX4_joinRemark_33 ?_
  obtain ⟨v3, ev, hf⟩ := m_bndPE hf
  refine m_top ev ?_
  clear ev
  refine lv_iload_n hx hb dX4_joinRemark_34 rfl (lv_at hl 4 rfl) ?_
  refine lv_iadd hx hb dX4_joinRemark_35 ?_
  obtain ⟨v4, ev, hf⟩ := m_bndPE hf
  refine m_top ev ?_
  clear ev
  refine lv_iload_n hx hb dX4_joinRemark_36 rfl (lv_at hl 3 rfl) ?_
  refine lv_isub hx hb dX4_joinRemark_37 ?_
  obtain ⟨v5, ev, hf⟩ := m_bndPE hf
  refine m_top ev ?_
  clear ev
  refine lv_sipush (v := (200 : Int32)) hx hb dX4_joinRemark_38 (by decide) ?_
  refine lv_icmp_le (tgt := 46) hx hb dX4_joinRemark_41 (by decide) (fun cc1 => ?_) (fun cc1 => ?_)
  · replace hf := m_ifPT hf cc1
    refine lv_iload hx hb dX4_joinRemark_46 (lv_at hl 0 rfl) ?_
    refine lv_iconst (v := (1 : Int32)) hx hb dX4_joinRemark_48 (by decide) ?_
    refine lv_icmp_ne (tgt := 61) hx hb dX4_joinRemark_49 (by decide) (fun cc1 => ?_) (fun cc1 => ?_)
    · replace hf := m_ifPF hf cc1
      exact w_X4_joinRemark_61 (x0 := x0) (x1 := x1) (x2 := x2) (x3 := x3) X hret hf hCT hM (lv_sub hl [1, 2, 3, 4] rfl)
    · replace hf := m_ifPT hf cc1
      refine lv_aload_n hx hb dX4_joinRemark_52 rfl (lv_at hl 1 rfl) ?_
      obtain ⟨ca, hf⟩ := m_chkPE hf
      replace ca := z_in hM (by decide) ca
      refine z_get (k := 4) (j := 6) (C := RX4) (T := TX4) (N := 7) (fl := zf_4) (v := va_rf ((zP o2.2 6 x0).map (zh y))) X hw_X4_joinRemark_4 hM rfl zc_4 ca (by decide) fl_X4_joinRemark_4_6 rfl dX4_joinRemark_53 ?_
      clear ca
      obtain ⟨b6, hb9, hf⟩ := m_calPE hf
      refine z_topr hb9 ?_
      clear hb9
      refine lv_bipush (v := (32 : Int32)) hx hb dX4_joinRemark_56 (by decide) ?_
      obtain ⟨ca, hf⟩ := m_chkPE hf
      replace ca := z_in hM (by decide) ca
      obtain ⟨mc, ms, hcm, ho⟩ := m_galE hf
      refine z_wcallVv (k := 6) (C := RX6) (T := TX6) (N := 2) (fl := zf_6) X hM rfl zc_6 ca (c_X6_put ho) gX4_joinRemark_X6_put rfl ⟨rfl, rfl⟩ ⟨by show kc - (C) + mc ≤ kc; omega, by show kt - (T) + ms ≤ kt; omega⟩ hd_X6_put ⟨Nat.le_of_ble_eq_true rfl, Nat.le_of_ble_eq_true rfl⟩ rfl hl.1 rfl (Nat.le_of_ble_eq_true rfl) dX4_joinRemark_58 (fun S9 H locs hf hM => ?_)
      refine z_eqCS (c2 := kc - (C - mc)) (t2 := kt - (T - ms)) (by omega) (by omega) ?_
      replace hCT : C - mc ≤ kc ∧ T - ms ≤ kt := by omega
      generalize C - mc = C10 at hf hCT ⊢
      generalize T - ms = T11 at hf hCT ⊢
      clear ho hcm
      exact w_X4_joinRemark_61 (x0 := x0) (x1 := x1) (x2 := x2) (x3 := x3) X hret hf hCT hM (lv_sub hl [1, 2, 3, 4] rfl)
  · replace hf := m_ifPF hf cc1
    refine lv_iconst (v := (0 : Int32)) hx hb dX4_joinRemark_44 (by decide) ?_
    obtain ⟨cd, hf⟩ := m_chkPE hf
    exact hret _ _ _ _ H locs _ ls hf hM (m_nb cd) dX4_joinRemark_45
noncomputable def g_X4_joinRemark_0 (Pw : Int32 → ZS → Prop) (x0 : Nat) (x1 : Nat) (x2 : Int32) (x3 : Int32) (S : ZS) (C T : Nat) : Prop :=
  m_ifQ (x2 < x3) (
  m_chkQ (zK S x0 = 4) (
  m_calP (zP S 6 x0) (fun b1 =>
  m_chkQ (zK S b1 = 6) (
  m_calP (f_X6_size b1 S) (fun o2 =>
  m_ifQ (o2.1 ≤ 0) (
  g_X4_joinRemark_22 Pw x0 x1 x2 x3 (0 : Int32) o2.2 (C) (T)
  ) (
  g_X4_joinRemark_22 Pw x0 x1 x2 x3 (1 : Int32) o2.2 (C) (T)
  )))))
  ) (
  m_chkQ (vp_nar .boolean (1 : Int32) = (1 : Int32)) (Pw (1 : Int32) S)
  )

set_option maxRecDepth 100000 in
set_option maxHeartbeats 4000000 in
theorem w_X4_joinRemark_0 {p : Program} {l : Launch} {e : Env} {s : State} {m : MethodId} {args : Array Value} {below : List Frame} {meth : Method} {c : Code} {Q : State → Prop} {D : va_G} {y : Nat → ClassId} {A0 : Nat → Prop} {kc kt : Nat} {Pw : Int32 → ZS → Prop} (X : CallFix p m c cX4_joinRemark 6 s args wsX4_joinRemark RX4) (hret : zQi p l e ({ frames := 2, cells := kc, slots := kt, locals := 82 } : Room) s m args below meth c Q cX4_joinRemark D y A0 .boolean Pw) {x0 : Nat} {x1 : Nat} {x2 : Int32} {x3 : Int32} {S : ZS} {C T : Nat} {H : Heap} {locs : List Loc} {ls : Array Slot} (hf : g_X4_joinRemark_0 Pw x0 x1 x2 x3 S C T) (hCT : C ≤ kc ∧ T ≤ kt) (hM : zH D y A0 s H locs S) (hl : lv_has ls 6 [(0, .ref (zh y x0)), (1, .ref (zh y x1)), (2, .int x2), (3, .int x3)]) : W p l e ({ frames := 2, cells := kc, slots := kt, locals := 82 } : Room) s m args below meth c H locs (kc - C) (kt - T) Q (F0 m 0 ls []) := by
  obtain ⟨hx, hb, hml, hown, hts⟩ := id X
  unfold g_X4_joinRemark_0 at hf
  refine lv_iload_n hx hb dX4_joinRemark_0 rfl (lv_at hl 3 rfl) ?_
  refine lv_iload_n hx hb dX4_joinRemark_1 rfl (lv_at hl 2 rfl) ?_
  refine lv_icmp_gt (tgt := 7) hx hb dX4_joinRemark_2 (by decide) (fun cc1 => ?_) (fun cc1 => ?_)
  · replace hf := m_ifPT hf cc1
    refine lv_aload_n hx hb dX4_joinRemark_7 rfl (lv_at hl 0 rfl) ?_
    obtain ⟨ca, hf⟩ := m_chkPE hf
    replace ca := z_in hM (by decide) ca
    refine z_get (k := 4) (j := 6) (C := RX4) (T := TX4) (N := 7) (fl := zf_4) (v := va_rf ((zP S 6 x0).map (zh y))) X hw_X4_joinRemark_4 hM rfl zc_4 ca (by decide) fl_X4_joinRemark_4_6 rfl dX4_joinRemark_8 ?_
    clear ca
    obtain ⟨b1, hb9, hf⟩ := m_calPE hf
    refine z_topr hb9 ?_
    clear hb9
    obtain ⟨ca, hf⟩ := m_chkPE hf
    replace ca := z_in hM (by decide) ca
    obtain ⟨o2, ho, hf⟩ := m_calPE hf
    refine z_gcallVi (k := 6) (C := RX6) (T := TX6) (N := 2) (fl := zf_6) X hM rfl zc_6 ca (c_X6_size ho) gX4_joinRemark_X6_size rfl ⟨rfl, rfl⟩ hd_X6_size ⟨Nat.le_of_ble_eq_true rfl, Nat.le_of_ble_eq_true rfl⟩ rfl hl.1 rfl ⟨Nat.sub_le _ _, Nat.sub_le _ _⟩ (Nat.le_of_ble_eq_true rfl) dX4_joinRemark_11 (fun H locs hM => ?_)
    clear ho
    refine lv_if_le (tgt := 21) hx hb dX4_joinRemark_14 (by decide) (fun cc1 => ?_) (fun cc1 => ?_)
    · replace hf := m_ifPT hf cc1
      refine lv_iconst (v := (0 : Int32)) hx hb dX4_joinRemark_21 (by decide) ?_
      exact w_X4_joinRemark_22 (x0 := x0) (x1 := x1) (x2 := x2) (x3 := x3) (t0 := (0 : Int32)) X hret hf hCT hM (lv_sub hl [0, 1, 2, 3] rfl)
    · replace hf := m_ifPF hf cc1
      refine lv_iconst (v := (1 : Int32)) hx hb dX4_joinRemark_17 (by decide) ?_
      refine lv_goto (tgt := 22) hx hb dX4_joinRemark_18 (by decide) ?_
      exact w_X4_joinRemark_22 (x0 := x0) (x1 := x1) (x2 := x2) (x3 := x3) (t0 := (1 : Int32)) X hret hf hCT hM (lv_sub hl [0, 1, 2, 3] rfl)
  · replace hf := m_ifPF hf cc1
    refine lv_iconst (v := (1 : Int32)) hx hb dX4_joinRemark_5 (by decide) ?_
    obtain ⟨cd, hf⟩ := m_chkPE hf
    exact hret _ _ _ _ H locs _ ls hf hM (m_nb cd) dX4_joinRemark_6
noncomputable def g_X4_joinRemark (x0 : Nat) (x1 : Nat) (x2 : Int32) (x3 : Int32) (S : ZS) (mc ms : Nat) (Pw : Int32 → ZS → Prop) : Prop := g_X4_joinRemark_0 Pw x0 x1 x2 x3 S mc ms
theorem c_X4_joinRemark {l : Launch} {D : va_G} {y : Nat → ClassId} {x0 : Nat} {x1 : Nat} {x2 : Int32} {x3 : Int32} {S : ZS} {kc kt : Nat} {Pw : Int32 → ZS → Prop} (hf : g_X4_joinRemark x0 x1 x2 x3 S kc kt Pw) : zWi l yX4_joinRemark wsX4_joinRemark ({ frames := 2, cells := kc, slots := kt, locals := 82 } : Room) [.ref (zh y x0), .ref (zh y x1), .int x2, .int x3] D y S kc kt Pw :=
  z_wentI (own := RX4) (cc := cX4_joinRemark) (maxL := 6) (by decide) rfl rfl (Nat.le_of_ble_eq_true rfl) ⟨rfl, rfl⟩ (fun p e s m args below meth c A0 Q H locs ls X hret hM hl => w_X4_joinRemark_0 X hret hf ⟨Nat.le_refl _, Nat.le_refl _⟩ hM (lv_sub hl [0, 1, 2, 3] rfl))
theorem hd_X2_readRemark : yX2_readRemark.cls = RX2 ∧ yX2_readRemark.cls ≠ "java/lang/invoke/MethodHandle" ∧ yX2_readRemark.cls ≠ "java/lang/invoke/VarHandle" ∧ (parseMethodDescriptor yX2_readRemark.desc).map (fun d => d.parameters.length) = some 1 := by decide +kernel
theorem fl_X2_readRemark_2_2 : Cond.fieldLink RX2 28 "MoveTexts$GameReader" "text" "LMoveTexts$Row;" ∈ wsX2_readRemark := by decide +kernel
theorem fl_X2_readRemark_2_4 : Cond.fieldLink RX2 39 "MoveTexts$GameReader" "at" "I" ∈ wsX2_readRemark := by decide +kernel
theorem hw_X2_readRemark_2 : ∀ w ∈ wsX20, w ∈ wsX2_readRemark := by decide +kernel
theorem lm_X2_readRemark_min : (Cond.methodLink RX2 156 Lib.Math.min.name ∈ wsX2_readRemark ∧ Cond.static Lib.Math.min.name ∈ wsX2_readRemark) ∧ Cond.initialized "java/lang/Math" ∈ wsX2_readRemark ∧ Cond.code Lib.Math.min.name Lib.Math.min.code 2 (some .int) ∈ wsX2_readRemark := by decide +kernel
noncomputable def g_X2_readRemark_91 (Pw : Int32 → ZS → Prop) (x0 : Nat) (x1 : Nat) (x2 : Int32) (x5 : Int32) (S : ZS) (C T : Nat) : Prop :=
  m_chkQ (zK S x0 = 2) (
  m_calP (zP S 2 x0) (fun b1 =>
  m_bndP (x2 + (1 : Int32)) (fun v2 =>
  m_chkQ (zK S x1 = 4) (
  m_gal (C) (T) (fun mc ms Pw => g_X4_joinRemark x1 b1 v2 x5 S mc ms Pw) (fun r4 S5 C6 T7 =>
  m_ifQ (r4 = 0) (
  m_chkQ (zK S5 x0 = 2) (
  m_calP (f_X2_refuse x0 (8 : Int32) x2 S5) (fun o13 =>
  m_chkQ (vp_nar .boolean o13.1 = o13.1) (Pw o13.1 o13.2)))
  ) (
  m_bndP (x5 + (1 : Int32)) (fun v8 =>
  m_chkQ (zK S5 x0 = 2) (
  m_calP (zP S5 2 x0) (fun b9 =>
  m_chkQ (zK S5 b9 = 6) (
  m_calP (f_X6_size b9 S5) (fun o10 =>
  m_bndP (if o10.1 < v8 then o10.1 else v8) (fun v11 =>
  m_chkQ (zK o10.2 x0 = 2) (
  m_bndP (zsI o10.2 4 x0 v11) (fun S12 =>
  m_chkQ (vp_nar .boolean (1 : Int32) = (1 : Int32)) (Pw (1 : Int32) S12)))))))))
  ))))))

set_option maxRecDepth 100000 in
set_option maxHeartbeats 4000000 in
theorem w_X2_readRemark_91 {p : Program} {l : Launch} {e : Env} {s : State} {m : MethodId} {args : Array Value} {below : List Frame} {meth : Method} {c : Code} {Q : State → Prop} {D : va_G} {y : Nat → ClassId} {A0 : Nat → Prop} {kc kt : Nat} {Pw : Int32 → ZS → Prop} (X : CallFix p m c cX2_readRemark 6 s args wsX2_readRemark RX2) (hret : zQi p l e ({ frames := 3, cells := kc, slots := kt, locals := 107 } : Room) s m args below meth c Q cX2_readRemark D y A0 .boolean Pw) {x0 : Nat} {x1 : Nat} {x2 : Int32} {x5 : Int32} {S : ZS} {C T : Nat} {H : Heap} {locs : List Loc} {ls : Array Slot} (hf : g_X2_readRemark_91 Pw x0 x1 x2 x5 S C T) (hCT : C ≤ kc ∧ T ≤ kt) (hM : zH D y A0 s H locs S) (hl : lv_has ls 6 [(0, .ref (zh y x0)), (1, .ref (zh y x1)), (2, .int x2), (5, .int x5)]) : W p l e ({ frames := 3, cells := kc, slots := kt, locals := 107 } : Room) s m args below meth c H locs (kc - C) (kt - T) Q (F0 m 91 ls []) := by
  obtain ⟨hx, hb, hml, hown, hts⟩ := id X
  unfold g_X2_readRemark_91 at hf
  refine lv_aload_n hx hb dX2_readRemark_91 rfl (lv_at hl 1 rfl) ?_
  refine lv_aload_n hx hb dX2_readRemark_92 rfl (lv_at hl 0 rfl) ?_
  obtain ⟨ca, hf⟩ := m_chkPE hf
  replace ca := z_in hM (by decide) ca
  refine z_get (k := 2) (j := 2) (C := RX2) (T := TX2) (N := 12) (fl := zf_2) (v := va_rf ((zP S 2 x0).map (zh y))) X hw_X2_readRemark_2 hM rfl zc_2 ca (by decide) fl_X2_readRemark_2_2 rfl dX2_readRemark_93 ?_
  clear ca
  obtain ⟨b1, hb9, hf⟩ := m_calPE hf
  refine z_topr hb9 ?_
  clear hb9
  refine lv_iload_n hx hb dX2_readRemark_96 rfl (lv_at hl 2 rfl) ?_
  refine lv_iconst (v := (1 : Int32)) hx hb dX2_readRemark_97 (by decide) ?_
  refine lv_iadd hx hb dX2_readRemark_98 ?_
  obtain ⟨v2, ev, hf⟩ := m_bndPE hf
  refine m_top ev ?_
  clear ev
  refine lv_iload hx hb dX2_readRemark_99 (lv_at hl 3 rfl) ?_
  obtain ⟨ca, hf⟩ := m_chkPE hf
  replace ca := z_in hM (by decide) ca
  obtain ⟨mc, ms, hcm, ho⟩ := m_galE hf
  refine z_wcallVi (k := 4) (C := RX4) (T := TX4) (N := 7) (fl := zf_4) X hM rfl zc_4 ca (c_X4_joinRemark ho) gX2_readRemark_X4_joinRemark rfl ⟨rfl, rfl⟩ ⟨by show kc - (C) + mc ≤ kc; omega, by show kt - (T) + ms ≤ kt; omega⟩ hd_X4_joinRemark ⟨Nat.le_of_ble_eq_true rfl, Nat.le_of_ble_eq_true rfl⟩ rfl hl.1 rfl (Nat.le_of_ble_eq_true rfl) dX2_readRemark_101 (fun r4 S5 H locs hf hM => ?_)
  refine z_eqCS (c2 := kc - (C - mc)) (t2 := kt - (T - ms)) (by omega) (by omega) ?_
  replace hCT : C - mc ≤ kc ∧ T - ms ≤ kt := by omega
  generalize C - mc = C6 at hf hCT ⊢
  generalize T - ms = T7 at hf hCT ⊢
  clear ho hcm
  refine lv_if_ne (tgt := 115) hx hb dX2_readRemark_104 (by decide) (fun cc1 => ?_) (fun cc1 => ?_)
  · replace hf := m_ifPF hf cc1
    refine lv_aload_n hx hb dX2_readRemark_115 rfl (lv_at hl 0 rfl) ?_
    refine lv_iload hx hb dX2_readRemark_116 (lv_at hl 3 rfl) ?_
    refine lv_iconst (v := (1 : Int32)) hx hb dX2_readRemark_118 (by decide) ?_
    refine lv_iadd hx hb dX2_readRemark_119 ?_
    obtain ⟨v8, ev, hf⟩ := m_bndPE hf
    refine m_top ev ?_
    clear ev
    refine lv_aload_n hx hb dX2_readRemark_120 rfl (lv_at hl 0 rfl) ?_
    obtain ⟨ca, hf⟩ := m_chkPE hf
    replace ca := z_in hM (by decide) ca
    refine z_get (k := 2) (j := 2) (C := RX2) (T := TX2) (N := 12) (fl := zf_2) (v := va_rf ((zP S5 2 x0).map (zh y))) X hw_X2_readRemark_2 hM rfl zc_2 ca (by decide) fl_X2_readRemark_2_2 rfl dX2_readRemark_121 ?_
    clear ca
    obtain ⟨b9, hb9, hf⟩ := m_calPE hf
    refine z_topr hb9 ?_
    clear hb9
    obtain ⟨ca, hf⟩ := m_chkPE hf
    replace ca := z_in hM (by decide) ca
    obtain ⟨o10, ho, hf⟩ := m_calPE hf
    refine z_gcallVi (k := 6) (C := RX6) (T := TX6) (N := 2) (fl := zf_6) X hM rfl zc_6 ca (c_X6_size ho) gX2_readRemark_X6_size rfl ⟨rfl, rfl⟩ hd_X6_size ⟨Nat.le_of_ble_eq_true rfl, Nat.le_of_ble_eq_true rfl⟩ rfl hl.1 rfl ⟨Nat.sub_le _ _, Nat.sub_le _ _⟩ (Nat.le_of_ble_eq_true rfl) dX2_readRemark_124 (fun H locs hM => ?_)
    clear ho
    refine z_mmin X (by rw [hml]; exact hl.1.symm) lm_X2_readRemark_min.1 lm_X2_readRemark_min.2 (Nat.le_of_ble_eq_true rfl) (Nat.le_of_ble_eq_true rfl) ⟨Nat.sub_le _ _, Nat.sub_le _ _⟩ dX2_readRemark_127 ?_
    obtain ⟨v11, ev, hf⟩ := m_bndPE hf
    refine m_top ev ?_
    clear ev
    obtain ⟨ca, hf⟩ := m_chkPE hf
    replace ca := z_in hM (by decide) ca
    refine z_putI (k := 2) (j := 4) (C := RX2) (T := TX2) (N := 12) (fl := zf_2) (ty := .int) X hw_X2_readRemark_2 tyX2_ok nmX2 hM rfl zc_2 ca (by decide) fl_X2_readRemark_2_4 rfl (tyX2_ok 4 (by decide)) rfl rfl zi_2_4 (Nat.le_of_ble_eq_true rfl) dX2_readRemark_130 (fun H locs hM => ?_)
    clear ca
    obtain ⟨S12, ev, hf⟩ := m_bndPE hf
    replace hM := z_hS hM ev
    clear ev
    refine lv_iconst (v := (1 : Int32)) hx hb dX2_readRemark_133 (by decide) ?_
    obtain ⟨cd, hf⟩ := m_chkPE hf
    exact hret _ _ _ _ H locs _ ls hf hM (m_nb cd) dX2_readRemark_134
  · replace hf := m_ifPT hf cc1
    refine lv_aload_n hx hb dX2_readRemark_107 rfl (lv_at hl 0 rfl) ?_
    refine lv_bipush (v := (8 : Int32)) hx hb dX2_readRemark_108 (by decide) ?_
    refine lv_iload_n hx hb dX2_readRemark_110 rfl (lv_at hl 2 rfl) ?_
    obtain ⟨ca, hf⟩ := m_chkPE hf
    replace ca := z_in hM (by decide) ca
    obtain ⟨o13, ho, hf⟩ := m_calPE hf
    refine z_gcallVi (k := 2) (C := RX2) (T := TX2) (N := 12) (fl := zf_2) X hM rfl zc_2 ca (c_X2_refuse ho) gX2_readRemark_X2_refuse rfl ⟨rfl, rfl⟩ hd_X2_refuse ⟨Nat.le_of_ble_eq_true rfl, Nat.le_of_ble_eq_true rfl⟩ rfl hl.1 rfl ⟨Nat.sub_le _ _, Nat.sub_le _ _⟩ (Nat.le_of_ble_eq_true rfl) dX2_readRemark_111 (fun H locs hM => ?_)
    clear ho
    obtain ⟨cd, hf⟩ := m_chkPE hf
    exact hret _ _ _ _ H locs _ ls hf hM (m_nb cd) dX2_readRemark_114
noncomputable def g_X2_readRemark_83 (Pw : Int32 → ZS → Prop) (x0 : Nat) (x4 : Int32) (S : ZS) (C T : Nat) : Prop :=
  m_chkQ (zK S x0 = 2) (
  m_calP (f_X2_refuse x0 (1 : Int32) x4 S) (fun o1 =>
  m_chkQ (vp_nar .boolean o1.1 = o1.1) (Pw o1.1 o1.2)))

set_option maxRecDepth 100000 in
set_option maxHeartbeats 4000000 in
theorem w_X2_readRemark_83 {p : Program} {l : Launch} {e : Env} {s : State} {m : MethodId} {args : Array Value} {below : List Frame} {meth : Method} {c : Code} {Q : State → Prop} {D : va_G} {y : Nat → ClassId} {A0 : Nat → Prop} {kc kt : Nat} {Pw : Int32 → ZS → Prop} (X : CallFix p m c cX2_readRemark 6 s args wsX2_readRemark RX2) (hret : zQi p l e ({ frames := 3, cells := kc, slots := kt, locals := 107 } : Room) s m args below meth c Q cX2_readRemark D y A0 .boolean Pw) {x0 : Nat} {x4 : Int32} {S : ZS} {C T : Nat} {H : Heap} {locs : List Loc} {ls : Array Slot} (hf : g_X2_readRemark_83 Pw x0 x4 S C T) (hCT : C ≤ kc ∧ T ≤ kt) (hM : zH D y A0 s H locs S) (hl : lv_has ls 6 [(0, .ref (zh y x0)), (4, .int x4)]) : W p l e ({ frames := 3, cells := kc, slots := kt, locals := 107 } : Room) s m args below meth c H locs (kc - C) (kt - T) Q (F0 m 83 ls []) := by
  obtain ⟨hx, hb, hml, hown, hts⟩ := id X
  unfold g_X2_readRemark_83 at hf
  refine lv_aload_n hx hb dX2_readRemark_83 rfl (lv_at hl 0 rfl) ?_
  refine lv_iconst (v := (1 : Int32)) hx hb dX2_readRemark_84 (by decide) ?_
  refine lv_iload hx hb dX2_readRemark_85 (lv_at hl 1 rfl) ?_
  obtain ⟨ca, hf⟩ := m_chkPE hf
  replace ca := z_in hM (by decide) ca
  obtain ⟨o1, ho, hf⟩ := m_calPE hf
  refine z_gcallVi (k := 2) (C := RX2) (T := TX2) (N := 12) (fl := zf_2) X hM rfl zc_2 ca (c_X2_refuse ho) gX2_readRemark_X2_refuse rfl ⟨rfl, rfl⟩ hd_X2_refuse ⟨Nat.le_of_ble_eq_true rfl, Nat.le_of_ble_eq_true rfl⟩ rfl hl.1 rfl ⟨Nat.sub_le _ _, Nat.sub_le _ _⟩ (Nat.le_of_ble_eq_true rfl) dX2_readRemark_87 (fun H locs hM => ?_)
  clear ho
  obtain ⟨cd, hf⟩ := m_chkPE hf
  exact hret _ _ _ _ H locs _ ls hf hM (m_nb cd) dX2_readRemark_90
noncomputable def g_X2_readRemark_55 (Pw : Int32 → ZS → Prop) (x0 : Nat) (x1 : Nat) (x2 : Int32) (x3 : Int32) (x4 : Int32) (t0 : Int32) (S : ZS) (C T : Nat) : Prop :=
  m_ifQ (x3 = 0) (
  m_ifQ (t0 ≤ x4) (
  g_X2_readRemark_91 Pw x0 x1 x2 t0 S (C) (T)
  ) (
  g_X2_readRemark_83 Pw x0 x4 S (C) (T)
  )
  ) (
  m_chkQ (zK S x0 = 2) (
  m_calP (zP S 2 x0) (fun b1 =>
  m_chkQ (zK S b1 = 6) (
  m_calP (f_X6_size b1 S) (fun o2 =>
  m_ifQ (x4 = o2.1) (
  g_X2_readRemark_83 Pw x0 x4 o2.2 (C) (T)
  ) (
  g_X2_readRemark_91 Pw x0 x1 x2 t0 o2.2 (C) (T)
  )))))
  )

set_option maxRecDepth 100000 in
set_option maxHeartbeats 4000000 in
theorem w_X2_readRemark_55 {p : Program} {l : Launch} {e : Env} {s : State} {m : MethodId} {args : Array Value} {below : List Frame} {meth : Method} {c : Code} {Q : State → Prop} {D : va_G} {y : Nat → ClassId} {A0 : Nat → Prop} {kc kt : Nat} {Pw : Int32 → ZS → Prop} (X : CallFix p m c cX2_readRemark 6 s args wsX2_readRemark RX2) (hret : zQi p l e ({ frames := 3, cells := kc, slots := kt, locals := 107 } : Room) s m args below meth c Q cX2_readRemark D y A0 .boolean Pw) {x0 : Nat} {x1 : Nat} {x2 : Int32} {x3 : Int32} {x4 : Int32} {t0 : Int32} {S : ZS} {C T : Nat} {H : Heap} {locs : List Loc} {ls : Array Slot} (hf : g_X2_readRemark_55 Pw x0 x1 x2 x3 x4 t0 S C T) (hCT : C ≤ kc ∧ T ≤ kt) (hM : zH D y A0 s H locs S) (hl : lv_has ls 6 [(0, .ref (zh y x0)), (1, .ref (zh y x1)), (2, .int x2), (3, .int x3), (4, .int x4)]) : W p l e ({ frames := 3, cells := kc, slots := kt, locals := 107 } : Room) s m args below meth c H locs (kc - C) (kt - T) Q (F0 m 55 ls [.int t0]) := by
  obtain ⟨hx, hb, hml, hown, hts⟩ := id X
  unfold g_X2_readRemark_55 at hf
  refine lv_istore (lv' := [(5, .int t0), (0, .ref (zh y x0)), (1, .ref (zh y x1)), (2, .int x2), (3, .int x3), (4, .int x4)]) hx hb dX2_readRemark_55 hl (by decide) rfl (fun ls hl => ?_)
  refine lv_iload_n hx hb dX2_readRemark_57 rfl (lv_at hl 4 rfl) ?_
  refine lv_if_eq (tgt := 76) hx hb dX2_readRemark_58 (by decide) (fun cc1 => ?_) (fun cc1 => ?_)
  · replace hf := m_ifPT hf cc1
    refine lv_iload hx hb dX2_readRemark_76 (lv_at hl 5 rfl) ?_
    refine lv_iload hx hb dX2_readRemark_78 (lv_at hl 0 rfl) ?_
    refine lv_icmp_ge (tgt := 91) hx hb dX2_readRemark_80 (by decide) (fun cc1 => ?_) (fun cc1 => ?_)
    · replace hf := m_ifPT hf cc1
      exact w_X2_readRemark_91 (x0 := x0) (x1 := x1) (x2 := x2) (x5 := t0) X hret hf hCT hM (lv_sub hl [1, 2, 3, 0] rfl)
    · replace hf := m_ifPF hf cc1
      exact w_X2_readRemark_83 (x0 := x0) (x4 := x4) X hret hf hCT hM (lv_sub hl [1, 5] rfl)
  · replace hf := m_ifPF hf cc1
    refine lv_iload hx hb dX2_readRemark_61 (lv_at hl 5 rfl) ?_
    refine lv_aload_n hx hb dX2_readRemark_63 rfl (lv_at hl 1 rfl) ?_
    obtain ⟨ca, hf⟩ := m_chkPE hf
    replace ca := z_in hM (by decide) ca
    refine z_get (k := 2) (j := 2) (C := RX2) (T := TX2) (N := 12) (fl := zf_2) (v := va_rf ((zP S 2 x0).map (zh y))) X hw_X2_readRemark_2 hM rfl zc_2 ca (by decide) fl_X2_readRemark_2_2 rfl dX2_readRemark_64 ?_
    clear ca
    obtain ⟨b1, hb9, hf⟩ := m_calPE hf
    refine z_topr hb9 ?_
    clear hb9
    obtain ⟨ca, hf⟩ := m_chkPE hf
    replace ca := z_in hM (by decide) ca
    obtain ⟨o2, ho, hf⟩ := m_calPE hf
    refine z_gcallVi (k := 6) (C := RX6) (T := TX6) (N := 2) (fl := zf_6) X hM rfl zc_6 ca (c_X6_size ho) gX2_readRemark_X6_size rfl ⟨rfl, rfl⟩ hd_X6_size ⟨Nat.le_of_ble_eq_true rfl, Nat.le_of_ble_eq_true rfl⟩ rfl hl.1 rfl ⟨Nat.sub_le _ _, Nat.sub_le _ _⟩ (Nat.le_of_ble_eq_true rfl) dX2_readRemark_67 (fun H locs hM => ?_)
    clear ho
    refine lv_icmp_ne (tgt := 91) hx hb dX2_readRemark_70 (by decide) (fun cc1 => ?_) (fun cc1 => ?_)
    · replace hf := m_ifPF hf cc1
      exact w_X2_readRemark_91 (x0 := x0) (x1 := x1) (x2 := x2) (x5 := t0) X hret hf hCT hM (lv_sub hl [1, 2, 3, 0] rfl)
    · replace hf := m_ifPT hf cc1
      refine lv_goto (tgt := 83) hx hb dX2_readRemark_73 (by decide) ?_
      exact w_X2_readRemark_83 (x0 := x0) (x4 := x4) X hret hf hCT hM (lv_sub hl [1, 5] rfl)
noncomputable def g_X2_readRemark_23 (Pw : Int32 → ZS → Prop) (x0 : Nat) (x1 : Nat) (x2 : Int32) (t0 : Int32) (S : ZS) (C T : Nat) : Prop :=
  m_chkQ (zK S x0 = 2) (
  m_calP (zP S 2 x0) (fun b1 =>
  m_chkQ (zK S b1 = 6) (
  m_calP (f_X6_indexOf b1 (125 : Int32) x2 S) (fun o2 =>
  m_ifQ (t0 = 0) (
  m_chkQ (zK o2.2 x0 = 2) (
  m_calP (zP o2.2 2 x0) (fun b3 =>
  m_chkQ (zK o2.2 b3 = 6) (
  m_calP (f_X6_indexOf b3 (10 : Int32) x2 o2.2) (fun o4 =>
  g_X2_readRemark_55 Pw x0 x1 x2 t0 o2.1 o4.1 o4.2 (C) (T)))))
  ) (
  g_X2_readRemark_55 Pw x0 x1 x2 t0 o2.1 o2.1 o2.2 (C) (T)
  )))))

set_option maxRecDepth 100000 in
set_option maxHeartbeats 4000000 in
theorem w_X2_readRemark_23 {p : Program} {l : Launch} {e : Env} {s : State} {m : MethodId} {args : Array Value} {below : List Frame} {meth : Method} {c : Code} {Q : State → Prop} {D : va_G} {y : Nat → ClassId} {A0 : Nat → Prop} {kc kt : Nat} {Pw : Int32 → ZS → Prop} (X : CallFix p m c cX2_readRemark 6 s args wsX2_readRemark RX2) (hret : zQi p l e ({ frames := 3, cells := kc, slots := kt, locals := 107 } : Room) s m args below meth c Q cX2_readRemark D y A0 .boolean Pw) {x0 : Nat} {x1 : Nat} {x2 : Int32} {t0 : Int32} {S : ZS} {C T : Nat} {H : Heap} {locs : List Loc} {ls : Array Slot} (hf : g_X2_readRemark_23 Pw x0 x1 x2 t0 S C T) (hCT : C ≤ kc ∧ T ≤ kt) (hM : zH D y A0 s H locs S) (hl : lv_has ls 6 [(0, .ref (zh y x0)), (1, .ref (zh y x1)), (2, .int x2)]) : W p l e ({ frames := 3, cells := kc, slots := kt, locals := 107 } : Room) s m args below meth c H locs (kc - C) (kt - T) Q (F0 m 23 ls [.int t0]) := by
  obtain ⟨hx, hb, hml, hown, hts⟩ := id X
  unfold g_X2_readRemark_23 at hf
  refine lv_istore_n (lv' := [(3, .int t0), (0, .ref (zh y x0)), (1, .ref (zh y x1)), (2, .int x2)]) hx hb dX2_readRemark_23 rfl hl (by decide) rfl (fun ls hl => ?_)
  refine lv_aload_n hx hb dX2_readRemark_24 rfl (lv_at hl 1 rfl) ?_
  obtain ⟨ca, hf⟩ := m_chkPE hf
  replace ca := z_in hM (by decide) ca
  refine z_get (k := 2) (j := 2) (C := RX2) (T := TX2) (N := 12) (fl := zf_2) (v := va_rf ((zP S 2 x0).map (zh y))) X hw_X2_readRemark_2 hM rfl zc_2 ca (by decide) fl_X2_readRemark_2_2 rfl dX2_readRemark_25 ?_
  clear ca
  obtain ⟨b1, hb9, hf⟩ := m_calPE hf
  refine z_topr hb9 ?_
  clear hb9
  refine lv_bipush (v := (125 : Int32)) hx hb dX2_readRemark_28 (by decide) ?_
  refine lv_iload_n hx hb dX2_readRemark_30 rfl (lv_at hl 3 rfl) ?_
  obtain ⟨ca, hf⟩ := m_chkPE hf
  replace ca := z_in hM (by decide) ca
  obtain ⟨o2, ho, hf⟩ := m_calPE hf
  refine z_gcallVi (k := 6) (C := RX6) (T := TX6) (N := 2) (fl := zf_6) X hM rfl zc_6 ca (c_X6_indexOf ho) gX2_readRemark_X6_indexOf rfl ⟨rfl, rfl⟩ hd_X6_indexOf ⟨Nat.le_of_ble_eq_true rfl, Nat.le_of_ble_eq_true rfl⟩ rfl hl.1 rfl ⟨Nat.sub_le _ _, Nat.sub_le _ _⟩ (Nat.le_of_ble_eq_true rfl) dX2_readRemark_31 (fun H locs hM => ?_)
  clear ho
  refine lv_istore (lv' := [(4, .int o2.1), (3, .int t0), (0, .ref (zh y x0)), (1, .ref (zh y x1)), (2, .int x2)]) hx hb dX2_readRemark_34 hl (by decide) rfl (fun ls hl => ?_)
  refine lv_iload_n hx hb dX2_readRemark_36 rfl (lv_at hl 1 rfl) ?_
  refine lv_if_eq (tgt := 45) hx hb dX2_readRemark_37 (by decide) (fun cc1 => ?_) (fun cc1 => ?_)
  · replace hf := m_ifPT hf cc1
    refine lv_aload_n hx hb dX2_readRemark_45 rfl (lv_at hl 2 rfl) ?_
    obtain ⟨ca, hf⟩ := m_chkPE hf
    replace ca := z_in hM (by decide) ca
    refine z_get (k := 2) (j := 2) (C := RX2) (T := TX2) (N := 12) (fl := zf_2) (v := va_rf ((zP o2.2 2 x0).map (zh y))) X hw_X2_readRemark_2 hM rfl zc_2 ca (by decide) fl_X2_readRemark_2_2 rfl dX2_readRemark_46 ?_
    clear ca
    obtain ⟨b3, hb9, hf⟩ := m_calPE hf
    refine z_topr hb9 ?_
    clear hb9
    refine lv_bipush (v := (10 : Int32)) hx hb dX2_readRemark_49 (by decide) ?_
    refine lv_iload_n hx hb dX2_readRemark_51 rfl (lv_at hl 4 rfl) ?_
    obtain ⟨ca, hf⟩ := m_chkPE hf
    replace ca := z_in hM (by decide) ca
    obtain ⟨o4, ho, hf⟩ := m_calPE hf
    refine z_gcallVi (k := 6) (C := RX6) (T := TX6) (N := 2) (fl := zf_6) X hM rfl zc_6 ca (c_X6_indexOf ho) gX2_readRemark_X6_indexOf rfl ⟨rfl, rfl⟩ hd_X6_indexOf ⟨Nat.le_of_ble_eq_true rfl, Nat.le_of_ble_eq_true rfl⟩ rfl hl.1 rfl ⟨Nat.sub_le _ _, Nat.sub_le _ _⟩ (Nat.le_of_ble_eq_true rfl) dX2_readRemark_52 (fun H locs hM => ?_)
    clear ho
    exact w_X2_readRemark_55 (x0 := x0) (x1 := x1) (x2 := x2) (x3 := t0) (x4 := o2.1) (t0 := o4.1) X hret hf hCT hM (lv_sub hl [2, 3, 4, 1, 0] rfl)
  · replace hf := m_ifPF hf cc1
    refine lv_iload hx hb dX2_readRemark_40 (lv_at hl 0 rfl) ?_
    refine lv_goto (tgt := 55) hx hb dX2_readRemark_42 (by decide) ?_
    exact w_X2_readRemark_55 (x0 := x0) (x1 := x1) (x2 := x2) (x3 := t0) (x4 := o2.1) (t0 := o2.1) X hret hf hCT hM (lv_sub hl [2, 3, 4, 1, 0] rfl)
noncomputable def g_X2_readRemark_0 (Pw : Int32 → ZS → Prop) (x0 : Nat) (x1 : Nat) (S : ZS) (C T : Nat) : Prop :=
  m_chkQ (zK S x0 = 2) (
  m_chkQ (zK S x0 = 2) (
  m_calP (zP S 2 x0) (fun b1 =>
  m_chkQ (zK S b1 = 6) (
  m_calP (f_X6_at b1 (zI S 4 x0) S) (fun o2 =>
  m_ifQ (o2.1 = (123 : Int32)) (
  g_X2_readRemark_23 Pw x0 x1 (zI S 4 x0) (1 : Int32) o2.2 (C) (T)
  ) (
  g_X2_readRemark_23 Pw x0 x1 (zI S 4 x0) (0 : Int32) o2.2 (C) (T)
  ))))))

set_option maxRecDepth 100000 in
set_option maxHeartbeats 4000000 in
theorem w_X2_readRemark_0 {p : Program} {l : Launch} {e : Env} {s : State} {m : MethodId} {args : Array Value} {below : List Frame} {meth : Method} {c : Code} {Q : State → Prop} {D : va_G} {y : Nat → ClassId} {A0 : Nat → Prop} {kc kt : Nat} {Pw : Int32 → ZS → Prop} (X : CallFix p m c cX2_readRemark 6 s args wsX2_readRemark RX2) (hret : zQi p l e ({ frames := 3, cells := kc, slots := kt, locals := 107 } : Room) s m args below meth c Q cX2_readRemark D y A0 .boolean Pw) {x0 : Nat} {x1 : Nat} {S : ZS} {C T : Nat} {H : Heap} {locs : List Loc} {ls : Array Slot} (hf : g_X2_readRemark_0 Pw x0 x1 S C T) (hCT : C ≤ kc ∧ T ≤ kt) (hM : zH D y A0 s H locs S) (hl : lv_has ls 6 [(0, .ref (zh y x0)), (1, .ref (zh y x1))]) : W p l e ({ frames := 3, cells := kc, slots := kt, locals := 107 } : Room) s m args below meth c H locs (kc - C) (kt - T) Q (F0 m 0 ls []) := by
  obtain ⟨hx, hb, hml, hown, hts⟩ := id X
  unfold g_X2_readRemark_0 at hf
  refine lv_aload_n hx hb dX2_readRemark_0 rfl (lv_at hl 0 rfl) ?_
  obtain ⟨ca, hf⟩ := m_chkPE hf
  replace ca := z_in hM (by decide) ca
  refine z_get (k := 2) (j := 4) (C := RX2) (T := TX2) (N := 12) (fl := zf_2) (v := .int (zI S 4 x0)) X hw_X2_readRemark_2 hM rfl zc_2 ca (by decide) fl_X2_readRemark_2_4 rfl dX2_readRemark_1 ?_
  clear ca
  refine lv_istore_n (lv' := [(2, .int (zI S 4 x0)), (0, .ref (zh y x0)), (1, .ref (zh y x1))]) hx hb dX2_readRemark_4 rfl hl (by decide) rfl (fun ls hl => ?_)
  refine lv_aload_n hx hb dX2_readRemark_5 rfl (lv_at hl 1 rfl) ?_
  obtain ⟨ca, hf⟩ := m_chkPE hf
  replace ca := z_in hM (by decide) ca
  refine z_get (k := 2) (j := 2) (C := RX2) (T := TX2) (N := 12) (fl := zf_2) (v := va_rf ((zP S 2 x0).map (zh y))) X hw_X2_readRemark_2 hM rfl zc_2 ca (by decide) fl_X2_readRemark_2_2 rfl dX2_readRemark_6 ?_
  clear ca
  obtain ⟨b1, hb9, hf⟩ := m_calPE hf
  refine z_topr hb9 ?_
  clear hb9
  refine lv_iload_n hx hb dX2_readRemark_9 rfl (lv_at hl 0 rfl) ?_
  obtain ⟨ca, hf⟩ := m_chkPE hf
  replace ca := z_in hM (by decide) ca
  obtain ⟨o2, ho, hf⟩ := m_calPE hf
  refine z_gcallVi (k := 6) (C := RX6) (T := TX6) (N := 2) (fl := zf_6) X hM rfl zc_6 ca (c_X6_at ho) gX2_readRemark_X6_at rfl ⟨rfl, rfl⟩ hd_X6_at ⟨Nat.le_of_ble_eq_true rfl, Nat.le_of_ble_eq_true rfl⟩ rfl hl.1 rfl ⟨Nat.sub_le _ _, Nat.sub_le _ _⟩ (Nat.le_of_ble_eq_true rfl) dX2_readRemark_10 (fun H locs hM => ?_)
  clear ho
  refine lv_bipush (v := (123 : Int32)) hx hb dX2_readRemark_13 (by decide) ?_
  refine lv_icmp_ne (tgt := 22) hx hb dX2_readRemark_15 (by decide) (fun cc1 => ?_) (fun cc1 => ?_)
  · replace hf := m_ifPF hf cc1
    refine lv_iconst (v := (0 : Int32)) hx hb dX2_readRemark_22 (by decide) ?_
    exact w_X2_readRemark_23 (x0 := x0) (x1 := x1) (x2 := (zI S 4 x0)) (t0 := (0 : Int32)) X hret hf hCT hM (lv_sub hl [1, 2, 0] rfl)
  · replace hf := m_ifPT hf cc1
    refine lv_iconst (v := (1 : Int32)) hx hb dX2_readRemark_18 (by decide) ?_
    refine lv_goto (tgt := 23) hx hb dX2_readRemark_19 (by decide) ?_
    exact w_X2_readRemark_23 (x0 := x0) (x1 := x1) (x2 := (zI S 4 x0)) (t0 := (1 : Int32)) X hret hf hCT hM (lv_sub hl [1, 2, 0] rfl)
noncomputable def g_X2_readRemark (x0 : Nat) (x1 : Nat) (S : ZS) (mc ms : Nat) (Pw : Int32 → ZS → Prop) : Prop := g_X2_readRemark_0 Pw x0 x1 S mc ms
theorem c_X2_readRemark {l : Launch} {D : va_G} {y : Nat → ClassId} {x0 : Nat} {x1 : Nat} {S : ZS} {kc kt : Nat} {Pw : Int32 → ZS → Prop} (hf : g_X2_readRemark x0 x1 S kc kt Pw) : zWi l yX2_readRemark wsX2_readRemark ({ frames := 3, cells := kc, slots := kt, locals := 107 } : Room) [.ref (zh y x0), .ref (zh y x1)] D y S kc kt Pw :=
  z_wentI (own := RX2) (cc := cX2_readRemark) (maxL := 6) (by decide) rfl rfl (Nat.le_of_ble_eq_true rfl) ⟨rfl, rfl⟩ (fun p e s m args below meth c A0 Q H locs ls X hret hM hl => w_X2_readRemark_0 X hret hf ⟨Nat.le_refl _, Nat.le_refl _⟩ hM (lv_sub hl [0, 1] rfl))
theorem hd_X2_readRemarks : yX2_readRemarks.cls = RX2 ∧ yX2_readRemarks.cls ≠ "java/lang/invoke/MethodHandle" ∧ yX2_readRemarks.cls ≠ "java/lang/invoke/VarHandle" ∧ (parseMethodDescriptor yX2_readRemarks.desc).map (fun d => d.parameters.length) = some 1 := by decide +kernel
theorem fl_X2_readRemarks_2_2 : Cond.fieldLink RX2 28 "MoveTexts$GameReader" "text" "LMoveTexts$Row;" ∈ wsX2_readRemarks := by decide +kernel
theorem fl_X2_readRemarks_2_4 : Cond.fieldLink RX2 39 "MoveTexts$GameReader" "at" "I" ∈ wsX2_readRemarks := by decide +kernel
theorem hw_X2_readRemarks_2 : ∀ w ∈ wsX20, w ∈ wsX2_readRemarks := by decide +kernel
noncomputable def g_X2_readRemarks_67 (Pw : Int32 → ZS → Prop) (x2 : Int32) (S : ZS) (C T : Nat) : Prop :=
  m_chkQ (vp_nar .boolean x2 = x2) (Pw x2 S)

set_option maxRecDepth 100000 in
set_option maxHeartbeats 4000000 in
theorem w_X2_readRemarks_67 {p : Program} {l : Launch} {e : Env} {s : State} {m : MethodId} {args : Array Value} {below : List Frame} {meth : Method} {c : Code} {Q : State → Prop} {D : va_G} {y : Nat → ClassId} {A0 : Nat → Prop} {kc kt : Nat} {Pw : Int32 → ZS → Prop} (X : CallFix p m c cX2_readRemarks 4 s args wsX2_readRemarks RX2) (hret : zQi p l e ({ frames := 4, cells := kc, slots := kt, locals := 132 } : Room) s m args below meth c Q cX2_readRemarks D y A0 .boolean Pw) {x2 : Int32} {S : ZS} {C T : Nat} {H : Heap} {locs : List Loc} {ls : Array Slot} (hf : g_X2_readRemarks_67 Pw x2 S C T) (hCT : C ≤ kc ∧ T ≤ kt) (hM : zH D y A0 s H locs S) (hl : lv_has ls 4 [(2, .int x2)]) : W p l e ({ frames := 4, cells := kc, slots := kt, locals := 132 } : Room) s m args below meth c H locs (kc - C) (kt - T) Q (F0 m 67 ls []) := by
  obtain ⟨hx, hb, hml, hown, hts⟩ := id X
  unfold g_X2_readRemarks_67 at hf
  refine lv_iload_n hx hb dX2_readRemarks_67 rfl (lv_at hl 0 rfl) ?_
  obtain ⟨cd, hf⟩ := m_chkPE hf
  exact hret _ _ _ _ H locs _ ls hf hM (m_nb cd) dX2_readRemarks_68
noncomputable def g_X2_readRemarks_51 (Pw : Int32 → ZS → Prop) (self8 : Nat → Nat → Int32 → Int32 → ZS → Nat → Nat → Prop) (x0 : Nat) (x1 : Nat) (x3 : Int32) (S : ZS) (C T : Nat) : Prop :=
  m_chkQ (zK S x0 = 2) (
  m_gal (C) (T) (fun mc ms Pw => g_X2_readRemark x0 x1 S mc ms Pw) (fun r2 S3 C4 T5 =>
  m_chkQ (zK S3 x0 = 2) (
  m_calP (f_X2_skipBlanks x0 S3) (fun o6 =>
  m_bndP (x3 + (1 : Int32)) (fun v7 =>
  self8 x0 x1 r2 v7 o6.2 (C4) (T5))))))

set_option maxRecDepth 100000 in
set_option maxHeartbeats 4000000 in
theorem w_X2_readRemarks_51 {p : Program} {l : Launch} {e : Env} {s : State} {m : MethodId} {args : Array Value} {below : List Frame} {meth : Method} {c : Code} {Q : State → Prop} {D : va_G} {y : Nat → ClassId} {A0 : Nat → Prop} {kc kt : Nat} {Pw : Int32 → ZS → Prop} (X : CallFix p m c cX2_readRemarks 4 s args wsX2_readRemarks RX2) (hret : zQi p l e ({ frames := 4, cells := kc, slots := kt, locals := 132 } : Room) s m args below meth c Q cX2_readRemarks D y A0 .boolean Pw) {self8 : Nat → Nat → Int32 → Int32 → ZS → Nat → Nat → Prop} (hself8 : ∀ (x0 : Nat) (x1 : Nat) (x2 : Int32) (x3 : Int32) (S : ZS) (C T : Nat) (H : Heap) (locs : List Loc) (ls : Array Slot), self8 x0 x1 x2 x3 S C T → C ≤ kc ∧ T ≤ kt → zH D y A0 s H locs S → lv_has ls 4 [(0, .ref (zh y x0)), (1, .ref (zh y x1)), (2, .int x2), (3, .int x3)] → W p l e ({ frames := 4, cells := kc, slots := kt, locals := 132 } : Room) s m args below meth c H locs (kc - C) (kt - T) Q (F0 m 8 ls [])) {x0 : Nat} {x1 : Nat} {x3 : Int32} {S : ZS} {C T : Nat} {H : Heap} {locs : List Loc} {ls : Array Slot} (hf : g_X2_readRemarks_51 Pw self8 x0 x1 x3 S C T) (hCT : C ≤ kc ∧ T ≤ kt) (hM : zH D y A0 s H locs S) (hl : lv_has ls 4 [(0, .ref (zh y x0)), (1, .ref (zh y x1)), (3, .int x3)]) : W p l e ({ frames := 4, cells := kc, slots := kt, locals := 132 } : Room) s m args below meth c H locs (kc - C) (kt - T) Q (F0 m 51 ls []) := by
  obtain ⟨hx, hb, hml, hown, hts⟩ := id X
  unfold g_X2_readRemarks_51 at hf
  refine lv_aload_n hx hb dX2_readRemarks_51 rfl (lv_at hl 0 rfl) ?_
  refine lv_aload_n hx hb dX2_readRemarks_52 rfl (lv_at hl 1 rfl) ?_
  obtain ⟨ca, hf⟩ := m_chkPE hf
  replace ca := z_in hM (by decide) ca
  obtain ⟨mc, ms, hcm, ho⟩ := m_galE hf
  refine z_wcallVi (k := 2) (C := RX2) (T := TX2) (N := 12) (fl := zf_2) X hM rfl zc_2 ca (c_X2_readRemark ho) gX2_readRemarks_X2_readRemark rfl ⟨rfl, rfl⟩ ⟨by show kc - (C) + mc ≤ kc; omega, by show kt - (T) + ms ≤ kt; omega⟩ hd_X2_readRemark ⟨Nat.le_of_ble_eq_true rfl, Nat.le_of_ble_eq_true rfl⟩ rfl hl.1 rfl (Nat.le_of_ble_eq_true rfl) dX2_readRemarks_53 (fun r2 S3 H locs hf hM => ?_)
  refine z_eqCS (c2 := kc - (C - mc)) (t2 := kt - (T - ms)) (by omega) (by omega) ?_
  replace hCT : C - mc ≤ kc ∧ T - ms ≤ kt := by omega
  generalize C - mc = C4 at hf hCT ⊢
  generalize T - ms = T5 at hf hCT ⊢
  clear ho hcm
  refine lv_istore_n (lv' := [(2, .int r2), (0, .ref (zh y x0)), (1, .ref (zh y x1)), (3, .int x3)]) hx hb dX2_readRemarks_56 rfl hl (by decide) rfl (fun ls hl => ?_)
  refine lv_aload_n hx hb dX2_readRemarks_57 rfl (lv_at hl 1 rfl) ?_
  obtain ⟨ca, hf⟩ := m_chkPE hf
  replace ca := z_in hM (by decide) ca
  obtain ⟨o6, ho, hf⟩ := m_calPE hf
  refine z_gcallVv (k := 2) (C := RX2) (T := TX2) (N := 12) (fl := zf_2) X hM rfl zc_2 ca (c_X2_skipBlanks ho) gX2_readRemarks_X2_skipBlanks rfl ⟨rfl, rfl⟩ hd_X2_skipBlanks ⟨Nat.le_of_ble_eq_true rfl, Nat.le_of_ble_eq_true rfl⟩ rfl hl.1 rfl ⟨Nat.sub_le _ _, Nat.sub_le _ _⟩ (Nat.le_of_ble_eq_true rfl) dX2_readRemarks_58 (fun H locs hM => ?_)
  clear ho
  obtain ⟨v7, ev, hf⟩ := m_bndPE hf
  refine lv_iinc (v := v7) (lv' := [(3, .int v7), (2, .int r2), (0, .ref (zh y x0)), (1, .ref (zh y x1))]) hx hb dX2_readRemarks_61 hl (k := 3) rfl (by rw [ev]; rfl) (by decide) rfl (fun ls hl => ?_)
  clear ev
  refine lv_goto (tgt := 8) hx hb dX2_readRemarks_64 (by decide) ?_
  exact hself8 x0 x1 r2 v7 _ _ _ _ _ _ hf hCT hM (lv_sub hl [2, 3, 1, 0] rfl)
noncomputable def g_X2_readRemarks_8s (Pw : Int32 → ZS → Prop) (self8 : Nat → Nat → Int32 → Int32 → ZS → Nat → Nat → Prop) (x0 : Nat) (x1 : Nat) (x2 : Int32) (x3 : Int32) (S : ZS) (C T : Nat) : Prop :=
  m_ifQ ((2000 : Int32) ≤ x3) (
  g_X2_readRemarks_67 Pw x2 S (C) (T)
  ) (
  m_ifQ (x2 = 0) (
  g_X2_readRemarks_67 Pw x2 S (C) (T)
  ) (
  m_chkQ (zK S x0 = 2) (
  m_calP (zP S 2 x0) (fun b1 =>
  m_chkQ (zK S x0 = 2) (
  m_chkQ (zK S b1 = 6) (
  m_calP (f_X6_at b1 (zI S 4 x0) S) (fun o2 =>
  m_ifQ (o2.1 = (123 : Int32)) (
  g_X2_readRemarks_51 Pw self8 x0 x1 x3 o2.2 (C) (T)
  ) (
  m_chkQ (zK o2.2 x0 = 2) (
  m_calP (zP o2.2 2 x0) (fun b3 =>
  m_chkQ (zK o2.2 x0 = 2) (
  m_chkQ (zK o2.2 b3 = 6) (
  m_calP (f_X6_at b3 (zI o2.2 4 x0) o2.2) (fun o4 =>
  m_ifQ (o4.1 = (59 : Int32)) (
  g_X2_readRemarks_51 Pw self8 x0 x1 x3 o4.2 (C) (T)
  ) (
  g_X2_readRemarks_67 Pw x2 o4.2 (C) (T)
  ))))))
  ))))))
  )
  )

set_option maxRecDepth 100000 in
set_option maxHeartbeats 4000000 in
theorem ws_X2_readRemarks_8 {p : Program} {l : Launch} {e : Env} {s : State} {m : MethodId} {args : Array Value} {below : List Frame} {meth : Method} {c : Code} {Q : State → Prop} {D : va_G} {y : Nat → ClassId} {A0 : Nat → Prop} {kc kt : Nat} {Pw : Int32 → ZS → Prop} (X : CallFix p m c cX2_readRemarks 4 s args wsX2_readRemarks RX2) (hret : zQi p l e ({ frames := 4, cells := kc, slots := kt, locals := 132 } : Room) s m args below meth c Q cX2_readRemarks D y A0 .boolean Pw) {self8 : Nat → Nat → Int32 → Int32 → ZS → Nat → Nat → Prop} (hself8 : ∀ (x0 : Nat) (x1 : Nat) (x2 : Int32) (x3 : Int32) (S : ZS) (C T : Nat) (H : Heap) (locs : List Loc) (ls : Array Slot), self8 x0 x1 x2 x3 S C T → C ≤ kc ∧ T ≤ kt → zH D y A0 s H locs S → lv_has ls 4 [(0, .ref (zh y x0)), (1, .ref (zh y x1)), (2, .int x2), (3, .int x3)] → W p l e ({ frames := 4, cells := kc, slots := kt, locals := 132 } : Room) s m args below meth c H locs (kc - C) (kt - T) Q (F0 m 8 ls [])) {x0 : Nat} {x1 : Nat} {x2 : Int32} {x3 : Int32} {S : ZS} {C T : Nat} {H : Heap} {locs : List Loc} {ls : Array Slot} (hf : g_X2_readRemarks_8s Pw self8 x0 x1 x2 x3 S C T) (hCT : C ≤ kc ∧ T ≤ kt) (hM : zH D y A0 s H locs S) (hl : lv_has ls 4 [(0, .ref (zh y x0)), (1, .ref (zh y x1)), (2, .int x2), (3, .int x3)]) : W p l e ({ frames := 4, cells := kc, slots := kt, locals := 132 } : Room) s m args below meth c H locs (kc - C) (kt - T) Q (F0 m 8 ls []) := by
  obtain ⟨hx, hb, hml, hown, hts⟩ := id X
  unfold g_X2_readRemarks_8s at hf
  refine lv_iload_n hx hb dX2_readRemarks_8 rfl (lv_at hl 3 rfl) ?_
  refine lv_sipush (v := (2000 : Int32)) hx hb dX2_readRemarks_9 (by decide) ?_
  refine lv_icmp_ge (tgt := 67) hx hb dX2_readRemarks_12 (by decide) (fun cc1 => ?_) (fun cc1 => ?_)
  · replace hf := m_ifPT hf cc1
    exact w_X2_readRemarks_67 (x2 := x2) X hret hf hCT hM (lv_sub hl [2] rfl)
  · replace hf := m_ifPF hf cc1
    refine lv_iload_n hx hb dX2_readRemarks_15 rfl (lv_at hl 2 rfl) ?_
    refine lv_if_eq (tgt := 67) hx hb dX2_readRemarks_16 (by decide) (fun cc1 => ?_) (fun cc1 => ?_)
    · replace hf := m_ifPT hf cc1
      exact w_X2_readRemarks_67 (x2 := x2) X hret hf hCT hM (lv_sub hl [2] rfl)
    · replace hf := m_ifPF hf cc1
      refine lv_aload_n hx hb dX2_readRemarks_19 rfl (lv_at hl 0 rfl) ?_
      obtain ⟨ca, hf⟩ := m_chkPE hf
      replace ca := z_in hM (by decide) ca
      refine z_get (k := 2) (j := 2) (C := RX2) (T := TX2) (N := 12) (fl := zf_2) (v := va_rf ((zP S 2 x0).map (zh y))) X hw_X2_readRemarks_2 hM rfl zc_2 ca (by decide) fl_X2_readRemarks_2_2 rfl dX2_readRemarks_20 ?_
      clear ca
      obtain ⟨b1, hb9, hf⟩ := m_calPE hf
      refine z_topr hb9 ?_
      clear hb9
      refine lv_aload_n hx hb dX2_readRemarks_23 rfl (lv_at hl 0 rfl) ?_
      obtain ⟨ca, hf⟩ := m_chkPE hf
      replace ca := z_in hM (by decide) ca
      refine z_get (k := 2) (j := 4) (C := RX2) (T := TX2) (N := 12) (fl := zf_2) (v := .int (zI S 4 x0)) X hw_X2_readRemarks_2 hM rfl zc_2 ca (by decide) fl_X2_readRemarks_2_4 rfl dX2_readRemarks_24 ?_
      clear ca
      obtain ⟨ca, hf⟩ := m_chkPE hf
      replace ca := z_in hM (by decide) ca
      obtain ⟨o2, ho, hf⟩ := m_calPE hf
      refine z_gcallVi (k := 6) (C := RX6) (T := TX6) (N := 2) (fl := zf_6) X hM rfl zc_6 ca (c_X6_at ho) gX2_readRemarks_X6_at rfl ⟨rfl, rfl⟩ hd_X6_at ⟨Nat.le_of_ble_eq_true rfl, Nat.le_of_ble_eq_true rfl⟩ rfl hl.1 rfl ⟨Nat.sub_le _ _, Nat.sub_le _ _⟩ (Nat.le_of_ble_eq_true rfl) dX2_readRemarks_27 (fun H locs hM => ?_)
      clear ho
      refine lv_bipush (v := (123 : Int32)) hx hb dX2_readRemarks_30 (by decide) ?_
      refine lv_icmp_eq (tgt := 51) hx hb dX2_readRemarks_32 (by decide) (fun cc1 => ?_) (fun cc1 => ?_)
      · replace hf := m_ifPT hf cc1
        exact w_X2_readRemarks_51 (x0 := x0) (x1 := x1) (x3 := x3) X hret hself8 hf hCT hM (lv_sub hl [0, 1, 3] rfl)
      · replace hf := m_ifPF hf cc1
        refine lv_aload_n hx hb dX2_readRemarks_35 rfl (lv_at hl 0 rfl) ?_
        obtain ⟨ca, hf⟩ := m_chkPE hf
        replace ca := z_in hM (by decide) ca
        refine z_get (k := 2) (j := 2) (C := RX2) (T := TX2) (N := 12) (fl := zf_2) (v := va_rf ((zP o2.2 2 x0).map (zh y))) X hw_X2_readRemarks_2 hM rfl zc_2 ca (by decide) fl_X2_readRemarks_2_2 rfl dX2_readRemarks_36 ?_
        clear ca
        obtain ⟨b3, hb9, hf⟩ := m_calPE hf
        refine z_topr hb9 ?_
        clear hb9
        refine lv_aload_n hx hb dX2_readRemarks_39 rfl (lv_at hl 0 rfl) ?_
        obtain ⟨ca, hf⟩ := m_chkPE hf
        replace ca := z_in hM (by decide) ca
        refine z_get (k := 2) (j := 4) (C := RX2) (T := TX2) (N := 12) (fl := zf_2) (v := .int (zI o2.2 4 x0)) X hw_X2_readRemarks_2 hM rfl zc_2 ca (by decide) fl_X2_readRemarks_2_4 rfl dX2_readRemarks_40 ?_
        clear ca
        obtain ⟨ca, hf⟩ := m_chkPE hf
        replace ca := z_in hM (by decide) ca
        obtain ⟨o4, ho, hf⟩ := m_calPE hf
        refine z_gcallVi (k := 6) (C := RX6) (T := TX6) (N := 2) (fl := zf_6) X hM rfl zc_6 ca (c_X6_at ho) gX2_readRemarks_X6_at rfl ⟨rfl, rfl⟩ hd_X6_at ⟨Nat.le_of_ble_eq_true rfl, Nat.le_of_ble_eq_true rfl⟩ rfl hl.1 rfl ⟨Nat.sub_le _ _, Nat.sub_le _ _⟩ (Nat.le_of_ble_eq_true rfl) dX2_readRemarks_43 (fun H locs hM => ?_)
        clear ho
        refine lv_bipush (v := (59 : Int32)) hx hb dX2_readRemarks_46 (by decide) ?_
        refine lv_icmp_ne (tgt := 67) hx hb dX2_readRemarks_48 (by decide) (fun cc1 => ?_) (fun cc1 => ?_)
        · replace hf := m_ifPF hf cc1
          exact w_X2_readRemarks_67 (x2 := x2) X hret hf hCT hM (lv_sub hl [2] rfl)
        · replace hf := m_ifPT hf cc1
          exact w_X2_readRemarks_51 (x0 := x0) (x1 := x1) (x3 := x3) X hret hself8 hf hCT hM (lv_sub hl [0, 1, 3] rfl)
noncomputable def g_X2_readRemarks_8 (Pw : Int32 → ZS → Prop) : Nat → Nat → Nat → Int32 → Int32 → ZS → Nat → Nat → Prop
  | 0 => fun _ _ _ _ _ _ _ => False
  | n + 1 => g_X2_readRemarks_8s Pw (g_X2_readRemarks_8 Pw n)
theorem w_X2_readRemarks_8 {p : Program} {l : Launch} {e : Env} {s : State} {m : MethodId} {args : Array Value} {below : List Frame} {meth : Method} {c : Code} {Q : State → Prop} {D : va_G} {y : Nat → ClassId} {A0 : Nat → Prop} {kc kt : Nat} {Pw : Int32 → ZS → Prop} (X : CallFix p m c cX2_readRemarks 4 s args wsX2_readRemarks RX2) (hret : zQi p l e ({ frames := 4, cells := kc, slots := kt, locals := 132 } : Room) s m args below meth c Q cX2_readRemarks D y A0 .boolean Pw) (n : Nat) : ∀ (x0 : Nat) (x1 : Nat) (x2 : Int32) (x3 : Int32) (S : ZS) (C T : Nat) (H : Heap) (locs : List Loc) (ls : Array Slot), g_X2_readRemarks_8 Pw n x0 x1 x2 x3 S C T → C ≤ kc ∧ T ≤ kt → zH D y A0 s H locs S → lv_has ls 4 [(0, .ref (zh y x0)), (1, .ref (zh y x1)), (2, .int x2), (3, .int x3)] → W p l e ({ frames := 4, cells := kc, slots := kt, locals := 132 } : Room) s m args below meth c H locs (kc - C) (kt - T) Q (F0 m 8 ls []) := by
  induction n with
  | zero => intro x0 x1 x2 x3 S C T H locs ls hf; exact absurd hf id
  | succ n ih => intro x0 x1 x2 x3 S C T H locs ls hf hCT hM hl; exact ws_X2_readRemarks_8 X hret (self8 := g_X2_readRemarks_8 Pw n) ih hf hCT hM hl
noncomputable def g_X2_readRemarks_0 (Pw : Int32 → ZS → Prop) (x0 : Nat) (x1 : Nat) (S : ZS) (C T : Nat) : Prop :=
  m_chkQ (zK S x0 = 2) (
  m_calP (f_X2_skipBlanks x0 S) (fun o1 =>
  g_X2_readRemarks_8 Pw mFuel x0 x1 (1 : Int32) (0 : Int32) o1.2 (C) (T)))

set_option maxRecDepth 100000 in
set_option maxHeartbeats 4000000 in
theorem w_X2_readRemarks_0 {p : Program} {l : Launch} {e : Env} {s : State} {m : MethodId} {args : Array Value} {below : List Frame} {meth : Method} {c : Code} {Q : State → Prop} {D : va_G} {y : Nat → ClassId} {A0 : Nat → Prop} {kc kt : Nat} {Pw : Int32 → ZS → Prop} (X : CallFix p m c cX2_readRemarks 4 s args wsX2_readRemarks RX2) (hret : zQi p l e ({ frames := 4, cells := kc, slots := kt, locals := 132 } : Room) s m args below meth c Q cX2_readRemarks D y A0 .boolean Pw) {x0 : Nat} {x1 : Nat} {S : ZS} {C T : Nat} {H : Heap} {locs : List Loc} {ls : Array Slot} (hf : g_X2_readRemarks_0 Pw x0 x1 S C T) (hCT : C ≤ kc ∧ T ≤ kt) (hM : zH D y A0 s H locs S) (hl : lv_has ls 4 [(0, .ref (zh y x0)), (1, .ref (zh y x1))]) : W p l e ({ frames := 4, cells := kc, slots := kt, locals := 132 } : Room) s m args below meth c H locs (kc - C) (kt - T) Q (F0 m 0 ls []) := by
  obtain ⟨hx, hb, hml, hown, hts⟩ := id X
  unfold g_X2_readRemarks_0 at hf
  refine lv_iconst (v := (1 : Int32)) hx hb dX2_readRemarks_0 (by decide) ?_
  refine lv_istore_n (lv' := [(2, .int (1 : Int32)), (0, .ref (zh y x0)), (1, .ref (zh y x1))]) hx hb dX2_readRemarks_1 rfl hl (by decide) rfl (fun ls hl => ?_)
  refine lv_aload_n hx hb dX2_readRemarks_2 rfl (lv_at hl 1 rfl) ?_
  obtain ⟨ca, hf⟩ := m_chkPE hf
  replace ca := z_in hM (by decide) ca
  obtain ⟨o1, ho, hf⟩ := m_calPE hf
  refine z_gcallVv (k := 2) (C := RX2) (T := TX2) (N := 12) (fl := zf_2) X hM rfl zc_2 ca (c_X2_skipBlanks ho) gX2_readRemarks_X2_skipBlanks rfl ⟨rfl, rfl⟩ hd_X2_skipBlanks ⟨Nat.le_of_ble_eq_true rfl, Nat.le_of_ble_eq_true rfl⟩ rfl hl.1 rfl ⟨Nat.sub_le _ _, Nat.sub_le _ _⟩ (Nat.le_of_ble_eq_true rfl) dX2_readRemarks_3 (fun H locs hM => ?_)
  clear ho
  refine lv_iconst (v := (0 : Int32)) hx hb dX2_readRemarks_6 (by decide) ?_
  refine lv_istore_n (lv' := [(3, .int (0 : Int32)), (2, .int (1 : Int32)), (0, .ref (zh y x0)), (1, .ref (zh y x1))]) hx hb dX2_readRemarks_7 rfl hl (by decide) rfl (fun ls hl => ?_)
  exact w_X2_readRemarks_8 X hret _ x0 x1 (1 : Int32) (0 : Int32) _ _ _ _ _ _ hf hCT hM (lv_sub hl [2, 3, 1, 0] rfl)
noncomputable def g_X2_readRemarks (x0 : Nat) (x1 : Nat) (S : ZS) (mc ms : Nat) (Pw : Int32 → ZS → Prop) : Prop := g_X2_readRemarks_0 Pw x0 x1 S mc ms
theorem c_X2_readRemarks {l : Launch} {D : va_G} {y : Nat → ClassId} {x0 : Nat} {x1 : Nat} {S : ZS} {kc kt : Nat} {Pw : Int32 → ZS → Prop} (hf : g_X2_readRemarks x0 x1 S kc kt Pw) : zWi l yX2_readRemarks wsX2_readRemarks ({ frames := 4, cells := kc, slots := kt, locals := 132 } : Room) [.ref (zh y x0), .ref (zh y x1)] D y S kc kt Pw :=
  z_wentI (own := RX2) (cc := cX2_readRemarks) (maxL := 4) (by decide) rfl rfl (Nat.le_of_ble_eq_true rfl) ⟨rfl, rfl⟩ (fun p e s m args below meth c A0 Q H locs ls X hret hM hl => w_X2_readRemarks_0 X hret hf ⟨Nat.le_refl _, Nat.le_refl _⟩ hM (lv_sub hl [0, 1] rfl))
theorem hd_X2_readHead : yX2_readHead.cls = RX2 ∧ yX2_readHead.cls ≠ "java/lang/invoke/MethodHandle" ∧ yX2_readHead.cls ≠ "java/lang/invoke/VarHandle" ∧ (parseMethodDescriptor yX2_readHead.desc).map (fun d => d.parameters.length) = some 0 := by decide +kernel
theorem fl_X2_readHead_2_2 : Cond.fieldLink RX2 28 "MoveTexts$GameReader" "text" "LMoveTexts$Row;" ∈ wsX2_readHead := by decide +kernel
theorem fl_X2_readHead_2_3 : Cond.fieldLink RX2 35 "MoveTexts$GameReader" "game" "LMoveTexts$Game;" ∈ wsX2_readHead := by decide +kernel
theorem fl_X2_readHead_2_4 : Cond.fieldLink RX2 39 "MoveTexts$GameReader" "at" "I" ∈ wsX2_readHead := by decide +kernel
theorem hw_X2_readHead_2 : ∀ w ∈ wsX20, w ∈ wsX2_readHead := by decide +kernel
noncomputable def g_X2_readHead_74 (Pw : Int32 → ZS → Prop) (t0 : Int32) (S : ZS) (C T : Nat) : Prop :=
  m_chkQ (vp_nar .boolean t0 = t0) (Pw t0 S)

set_option maxRecDepth 100000 in
set_option maxHeartbeats 4000000 in
theorem w_X2_readHead_74 {p : Program} {l : Launch} {e : Env} {s : State} {m : MethodId} {args : Array Value} {below : List Frame} {meth : Method} {c : Code} {Q : State → Prop} {D : va_G} {y : Nat → ClassId} {A0 : Nat → Prop} {kc kt : Nat} {Pw : Int32 → ZS → Prop} (X : CallFix p m c cX2_readHead 3 s args wsX2_readHead RX2) (hret : zQi p l e ({ frames := 8, cells := kc, slots := kt, locals := 183 } : Room) s m args below meth c Q cX2_readHead D y A0 .boolean Pw) {t0 : Int32} {S : ZS} {C T : Nat} {H : Heap} {locs : List Loc} {ls : Array Slot} (hf : g_X2_readHead_74 Pw t0 S C T) (hCT : C ≤ kc ∧ T ≤ kt) (hM : zH D y A0 s H locs S) (hl : lv_has ls 3 []) : W p l e ({ frames := 8, cells := kc, slots := kt, locals := 183 } : Room) s m args below meth c H locs (kc - C) (kt - T) Q (F0 m 74 ls [.int t0]) := by
  obtain ⟨hx, hb, hml, hown, hts⟩ := id X
  unfold g_X2_readHead_74 at hf
  obtain ⟨cd, hf⟩ := m_chkPE hf
  exact hret _ _ _ _ H locs _ ls hf hM (m_nb cd) dX2_readHead_74
noncomputable def g_X2_readHead_73 (Pw : Int32 → ZS → Prop) (S : ZS) (C T : Nat) : Prop :=
  g_X2_readHead_74 Pw (0 : Int32) S (C) (T)

set_option maxRecDepth 100000 in
set_option maxHeartbeats 4000000 in
theorem w_X2_readHead_73 {p : Program} {l : Launch} {e : Env} {s : State} {m : MethodId} {args : Array Value} {below : List Frame} {meth : Method} {c : Code} {Q : State → Prop} {D : va_G} {y : Nat → ClassId} {A0 : Nat → Prop} {kc kt : Nat} {Pw : Int32 → ZS → Prop} (X : CallFix p m c cX2_readHead 3 s args wsX2_readHead RX2) (hret : zQi p l e ({ frames := 8, cells := kc, slots := kt, locals := 183 } : Room) s m args below meth c Q cX2_readHead D y A0 .boolean Pw) {S : ZS} {C T : Nat} {H : Heap} {locs : List Loc} {ls : Array Slot} (hf : g_X2_readHead_73 Pw  S C T) (hCT : C ≤ kc ∧ T ≤ kt) (hM : zH D y A0 s H locs S) (hl : lv_has ls 3 []) : W p l e ({ frames := 8, cells := kc, slots := kt, locals := 183 } : Room) s m args below meth c H locs (kc - C) (kt - T) Q (F0 m 73 ls []) := by
  obtain ⟨hx, hb, hml, hown, hts⟩ := id X
  unfold g_X2_readHead_73 at hf
  refine lv_iconst (v := (0 : Int32)) hx hb dX2_readHead_73 (by decide) ?_
  exact w_X2_readHead_74 (t0 := (0 : Int32)) X hret hf hCT hM (lv_sub hl [] rfl)
noncomputable def g_X2_readHead_50 (Pw : Int32 → ZS → Prop) (x0 : Nat) (x1 : Int32) (S : ZS) (C T : Nat) : Prop :=
  m_ifQ (x1 = 0) (
  g_X2_readHead_73 Pw  S (C) (T)
  ) (
  m_chkQ (zK S x0 = 2) (
  m_calP (zP S 3 x0) (fun b1 =>
  m_chkQ (zK S b1 = 1) (
  m_calP (f_X1_at b1 (0 : Int32) S) (fun o2 =>
  m_chkQ (zK o2.2 x0 = 2) (
  m_gal (C) (T) (fun mc ms Pw => g_X2_readRemarks x0 o2.1 o2.2 mc ms Pw) (fun r4 S5 C6 T7 =>
  m_ifQ (r4 = 0) (
  g_X2_readHead_73 Pw  S5 (C6) (T7)
  ) (
  g_X2_readHead_74 Pw (1 : Int32) S5 (C6) (T7)
  )))))))
  )

set_option maxRecDepth 100000 in
set_option maxHeartbeats 4000000 in
theorem w_X2_readHead_50 {p : Program} {l : Launch} {e : Env} {s : State} {m : MethodId} {args : Array Value} {below : List Frame} {meth : Method} {c : Code} {Q : State → Prop} {D : va_G} {y : Nat → ClassId} {A0 : Nat → Prop} {kc kt : Nat} {Pw : Int32 → ZS → Prop} (X : CallFix p m c cX2_readHead 3 s args wsX2_readHead RX2) (hret : zQi p l e ({ frames := 8, cells := kc, slots := kt, locals := 183 } : Room) s m args below meth c Q cX2_readHead D y A0 .boolean Pw) {x0 : Nat} {x1 : Int32} {S : ZS} {C T : Nat} {H : Heap} {locs : List Loc} {ls : Array Slot} (hf : g_X2_readHead_50 Pw x0 x1 S C T) (hCT : C ≤ kc ∧ T ≤ kt) (hM : zH D y A0 s H locs S) (hl : lv_has ls 3 [(0, .ref (zh y x0)), (1, .int x1)]) : W p l e ({ frames := 8, cells := kc, slots := kt, locals := 183 } : Room) s m args below meth c H locs (kc - C) (kt - T) Q (F0 m 50 ls []) := by
  obtain ⟨hx, hb, hml, hown, hts⟩ := id X
  unfold g_X2_readHead_50 at hf
  refine lv_iload_n hx hb dX2_readHead_50 rfl (lv_at hl 1 rfl) ?_
  refine lv_if_eq (tgt := 73) hx hb dX2_readHead_51 (by decide) (fun cc1 => ?_) (fun cc1 => ?_)
  · replace hf := m_ifPT hf cc1
    exact w_X2_readHead_73 X hret hf hCT hM (lv_sub hl [] rfl)
  · replace hf := m_ifPF hf cc1
    refine lv_aload_n hx hb dX2_readHead_54 rfl (lv_at hl 0 rfl) ?_
    refine lv_aload_n hx hb dX2_readHead_55 rfl (lv_at hl 0 rfl) ?_
    obtain ⟨ca, hf⟩ := m_chkPE hf
    replace ca := z_in hM (by decide) ca
    refine z_get (k := 2) (j := 3) (C := RX2) (T := TX2) (N := 12) (fl := zf_2) (v := va_rf ((zP S 3 x0).map (zh y))) X hw_X2_readHead_2 hM rfl zc_2 ca (by decide) fl_X2_readHead_2_3 rfl dX2_readHead_56 ?_
    clear ca
    obtain ⟨b1, hb9, hf⟩ := m_calPE hf
    refine z_topr hb9 ?_
    clear hb9
    refine lv_iconst (v := (0 : Int32)) hx hb dX2_readHead_59 (by decide) ?_
    obtain ⟨ca, hf⟩ := m_chkPE hf
    replace ca := z_in hM (by decide) ca
    obtain ⟨o2, ho, hf⟩ := m_calPE hf
    refine z_gcallVr (k := 1) (C := RX1) (T := TX1) (N := 8) (fl := zf_1) X hM rfl zc_1 ca (c_X1_at ho) gX2_readHead_X1_at rfl ⟨rfl, rfl⟩ hd_X1_at ⟨Nat.le_of_ble_eq_true rfl, Nat.le_of_ble_eq_true rfl⟩ rfl hl.1 rfl ⟨Nat.sub_le _ _, Nat.sub_le _ _⟩ (Nat.le_of_ble_eq_true rfl) dX2_readHead_60 (fun H locs hM => ?_)
    clear ho
    obtain ⟨ca, hf⟩ := m_chkPE hf
    replace ca := z_in hM (by decide) ca
    obtain ⟨mc, ms, hcm, ho⟩ := m_galE hf
    refine z_wcallVi (k := 2) (C := RX2) (T := TX2) (N := 12) (fl := zf_2) X hM rfl zc_2 ca (c_X2_readRemarks ho) gX2_readHead_X2_readRemarks rfl ⟨rfl, rfl⟩ ⟨by show kc - (C) + mc ≤ kc; omega, by show kt - (T) + ms ≤ kt; omega⟩ hd_X2_readRemarks ⟨Nat.le_of_ble_eq_true rfl, Nat.le_of_ble_eq_true rfl⟩ rfl hl.1 rfl (Nat.le_of_ble_eq_true rfl) dX2_readHead_63 (fun r4 S5 H locs hf hM => ?_)
    refine z_eqCS (c2 := kc - (C - mc)) (t2 := kt - (T - ms)) (by omega) (by omega) ?_
    replace hCT : C - mc ≤ kc ∧ T - ms ≤ kt := by omega
    generalize C - mc = C6 at hf hCT ⊢
    generalize T - ms = T7 at hf hCT ⊢
    clear ho hcm
    refine lv_if_eq (tgt := 73) hx hb dX2_readHead_66 (by decide) (fun cc1 => ?_) (fun cc1 => ?_)
    · replace hf := m_ifPT hf cc1
      exact w_X2_readHead_73 X hret hf hCT hM (lv_sub hl [] rfl)
    · replace hf := m_ifPF hf cc1
      refine lv_iconst (v := (1 : Int32)) hx hb dX2_readHead_69 (by decide) ?_
      refine lv_goto (tgt := 74) hx hb dX2_readHead_70 (by decide) ?_
      exact w_X2_readHead_74 (t0 := (1 : Int32)) X hret hf hCT hM (lv_sub hl [] rfl)
noncomputable def g_X2_readHead_8s (Pw : Int32 → ZS → Prop) (self8 : Nat → Int32 → Int32 → ZS → Nat → Nat → Prop) (x0 : Nat) (x1 : Int32) (x2 : Int32) (S : ZS) (C T : Nat) : Prop :=
  m_ifQ ((2000 : Int32) ≤ x2) (
  g_X2_readHead_50 Pw x0 x1 S (C) (T)
  ) (
  m_ifQ (x1 = 0) (
  g_X2_readHead_50 Pw x0 x1 S (C) (T)
  ) (
  m_chkQ (zK S x0 = 2) (
  m_calP (zP S 2 x0) (fun b1 =>
  m_chkQ (zK S x0 = 2) (
  m_chkQ (zK S b1 = 6) (
  m_calP (f_X6_at b1 (zI S 4 x0) S) (fun o2 =>
  m_ifQ (o2.1 = (91 : Int32)) (
  m_chkQ (zK o2.2 x0 = 2) (
  m_gal (C) (T) (fun mc ms Pw => g_X2_readTag x0 o2.2 mc ms Pw) (fun r4 S5 C6 T7 =>
  m_chkQ (zK S5 x0 = 2) (
  m_calP (f_X2_skipBlanks x0 S5) (fun o8 =>
  m_bndP (x2 + (1 : Int32)) (fun v9 =>
  self8 x0 r4 v9 o8.2 (C6) (T7))))))
  ) (
  g_X2_readHead_50 Pw x0 x1 o2.2 (C) (T)
  ))))))
  )
  )

set_option maxRecDepth 100000 in
set_option maxHeartbeats 4000000 in
theorem ws_X2_readHead_8 {p : Program} {l : Launch} {e : Env} {s : State} {m : MethodId} {args : Array Value} {below : List Frame} {meth : Method} {c : Code} {Q : State → Prop} {D : va_G} {y : Nat → ClassId} {A0 : Nat → Prop} {kc kt : Nat} {Pw : Int32 → ZS → Prop} (X : CallFix p m c cX2_readHead 3 s args wsX2_readHead RX2) (hret : zQi p l e ({ frames := 8, cells := kc, slots := kt, locals := 183 } : Room) s m args below meth c Q cX2_readHead D y A0 .boolean Pw) {self8 : Nat → Int32 → Int32 → ZS → Nat → Nat → Prop} (hself8 : ∀ (x0 : Nat) (x1 : Int32) (x2 : Int32) (S : ZS) (C T : Nat) (H : Heap) (locs : List Loc) (ls : Array Slot), self8 x0 x1 x2 S C T → C ≤ kc ∧ T ≤ kt → zH D y A0 s H locs S → lv_has ls 3 [(0, .ref (zh y x0)), (1, .int x1), (2, .int x2)] → W p l e ({ frames := 8, cells := kc, slots := kt, locals := 183 } : Room) s m args below meth c H locs (kc - C) (kt - T) Q (F0 m 8 ls [])) {x0 : Nat} {x1 : Int32} {x2 : Int32} {S : ZS} {C T : Nat} {H : Heap} {locs : List Loc} {ls : Array Slot} (hf : g_X2_readHead_8s Pw self8 x0 x1 x2 S C T) (hCT : C ≤ kc ∧ T ≤ kt) (hM : zH D y A0 s H locs S) (hl : lv_has ls 3 [(0, .ref (zh y x0)), (1, .int x1), (2, .int x2)]) : W p l e ({ frames := 8, cells := kc, slots := kt, locals := 183 } : Room) s m args below meth c H locs (kc - C) (kt - T) Q (F0 m 8 ls []) := by
  obtain ⟨hx, hb, hml, hown, hts⟩ := id X
  unfold g_X2_readHead_8s at hf
  refine lv_iload_n hx hb dX2_readHead_8 rfl (lv_at hl 2 rfl) ?_
  refine lv_sipush (v := (2000 : Int32)) hx hb dX2_readHead_9 (by decide) ?_
  refine lv_icmp_ge (tgt := 50) hx hb dX2_readHead_12 (by decide) (fun cc1 => ?_) (fun cc1 => ?_)
  · replace hf := m_ifPT hf cc1
    exact w_X2_readHead_50 (x0 := x0) (x1 := x1) X hret hf hCT hM (lv_sub hl [0, 1] rfl)
  · replace hf := m_ifPF hf cc1
    refine lv_iload_n hx hb dX2_readHead_15 rfl (lv_at hl 1 rfl) ?_
    refine lv_if_eq (tgt := 50) hx hb dX2_readHead_16 (by decide) (fun cc1 => ?_) (fun cc1 => ?_)
    · replace hf := m_ifPT hf cc1
      exact w_X2_readHead_50 (x0 := x0) (x1 := x1) X hret hf hCT hM (lv_sub hl [0, 1] rfl)
    · replace hf := m_ifPF hf cc1
      refine lv_aload_n hx hb dX2_readHead_19 rfl (lv_at hl 0 rfl) ?_
      obtain ⟨ca, hf⟩ := m_chkPE hf
      replace ca := z_in hM (by decide) ca
      refine z_get (k := 2) (j := 2) (C := RX2) (T := TX2) (N := 12) (fl := zf_2) (v := va_rf ((zP S 2 x0).map (zh y))) X hw_X2_readHead_2 hM rfl zc_2 ca (by decide) fl_X2_readHead_2_2 rfl dX2_readHead_20 ?_
      clear ca
      obtain ⟨b1, hb9, hf⟩ := m_calPE hf
      refine z_topr hb9 ?_
      clear hb9
      refine lv_aload_n hx hb dX2_readHead_23 rfl (lv_at hl 0 rfl) ?_
      obtain ⟨ca, hf⟩ := m_chkPE hf
      replace ca := z_in hM (by decide) ca
      refine z_get (k := 2) (j := 4) (C := RX2) (T := TX2) (N := 12) (fl := zf_2) (v := .int (zI S 4 x0)) X hw_X2_readHead_2 hM rfl zc_2 ca (by decide) fl_X2_readHead_2_4 rfl dX2_readHead_24 ?_
      clear ca
      obtain ⟨ca, hf⟩ := m_chkPE hf
      replace ca := z_in hM (by decide) ca
      obtain ⟨o2, ho, hf⟩ := m_calPE hf
      refine z_gcallVi (k := 6) (C := RX6) (T := TX6) (N := 2) (fl := zf_6) X hM rfl zc_6 ca (c_X6_at ho) gX2_readHead_X6_at rfl ⟨rfl, rfl⟩ hd_X6_at ⟨Nat.le_of_ble_eq_true rfl, Nat.le_of_ble_eq_true rfl⟩ rfl hl.1 rfl ⟨Nat.sub_le _ _, Nat.sub_le _ _⟩ (Nat.le_of_ble_eq_true rfl) dX2_readHead_27 (fun H locs hM => ?_)
      clear ho
      refine lv_bipush (v := (91 : Int32)) hx hb dX2_readHead_30 (by decide) ?_
      refine lv_icmp_ne (tgt := 50) hx hb dX2_readHead_32 (by decide) (fun cc1 => ?_) (fun cc1 => ?_)
      · replace hf := m_ifPF hf cc1
        exact w_X2_readHead_50 (x0 := x0) (x1 := x1) X hret hf hCT hM (lv_sub hl [0, 1] rfl)
      · replace hf := m_ifPT hf cc1
        refine lv_aload_n hx hb dX2_readHead_35 rfl (lv_at hl 0 rfl) ?_
        obtain ⟨ca, hf⟩ := m_chkPE hf
        replace ca := z_in hM (by decide) ca
        obtain ⟨mc, ms, hcm, ho⟩ := m_galE hf
        refine z_wcallVi (k := 2) (C := RX2) (T := TX2) (N := 12) (fl := zf_2) X hM rfl zc_2 ca (c_X2_readTag ho) gX2_readHead_X2_readTag rfl ⟨rfl, rfl⟩ ⟨by show kc - (C) + mc ≤ kc; omega, by show kt - (T) + ms ≤ kt; omega⟩ hd_X2_readTag ⟨Nat.le_of_ble_eq_true rfl, Nat.le_of_ble_eq_true rfl⟩ rfl hl.1 rfl (Nat.le_of_ble_eq_true rfl) dX2_readHead_36 (fun r4 S5 H locs hf hM => ?_)
        refine z_eqCS (c2 := kc - (C - mc)) (t2 := kt - (T - ms)) (by omega) (by omega) ?_
        replace hCT : C - mc ≤ kc ∧ T - ms ≤ kt := by omega
        generalize C - mc = C6 at hf hCT ⊢
        generalize T - ms = T7 at hf hCT ⊢
        clear ho hcm
        refine lv_istore_n (lv' := [(1, .int r4), (0, .ref (zh y x0)), (2, .int x2)]) hx hb dX2_readHead_39 rfl hl (by decide) rfl (fun ls hl => ?_)
        refine lv_aload_n hx hb dX2_readHead_40 rfl (lv_at hl 1 rfl) ?_
        obtain ⟨ca, hf⟩ := m_chkPE hf
        replace ca := z_in hM (by decide) ca
        obtain ⟨o8, ho, hf⟩ := m_calPE hf
        refine z_gcallVv (k := 2) (C := RX2) (T := TX2) (N := 12) (fl := zf_2) X hM rfl zc_2 ca (c_X2_skipBlanks ho) gX2_readHead_X2_skipBlanks rfl ⟨rfl, rfl⟩ hd_X2_skipBlanks ⟨Nat.le_of_ble_eq_true rfl, Nat.le_of_ble_eq_true rfl⟩ rfl hl.1 rfl ⟨Nat.sub_le _ _, Nat.sub_le _ _⟩ (Nat.le_of_ble_eq_true rfl) dX2_readHead_41 (fun H locs hM => ?_)
        clear ho
        obtain ⟨v9, ev, hf⟩ := m_bndPE hf
        refine lv_iinc (v := v9) (lv' := [(2, .int v9), (1, .int r4), (0, .ref (zh y x0))]) hx hb dX2_readHead_44 hl (k := 2) rfl (by rw [ev]; rfl) (by decide) rfl (fun ls hl => ?_)
        clear ev
        refine lv_goto (tgt := 8) hx hb dX2_readHead_47 (by decide) ?_
        exact hself8 x0 r4 v9 _ _ _ _ _ _ hf hCT hM (lv_sub hl [2, 1, 0] rfl)
noncomputable def g_X2_readHead_8 (Pw : Int32 → ZS → Prop) : Nat → Nat → Int32 → Int32 → ZS → Nat → Nat → Prop
  | 0 => fun _ _ _ _ _ _ => False
  | n + 1 => g_X2_readHead_8s Pw (g_X2_readHead_8 Pw n)
theorem w_X2_readHead_8 {p : Program} {l : Launch} {e : Env} {s : State} {m : MethodId} {args : Array Value} {below : List Frame} {meth : Method} {c : Code} {Q : State → Prop} {D : va_G} {y : Nat → ClassId} {A0 : Nat → Prop} {kc kt : Nat} {Pw : Int32 → ZS → Prop} (X : CallFix p m c cX2_readHead 3 s args wsX2_readHead RX2) (hret : zQi p l e ({ frames := 8, cells := kc, slots := kt, locals := 183 } : Room) s m args below meth c Q cX2_readHead D y A0 .boolean Pw) (n : Nat) : ∀ (x0 : Nat) (x1 : Int32) (x2 : Int32) (S : ZS) (C T : Nat) (H : Heap) (locs : List Loc) (ls : Array Slot), g_X2_readHead_8 Pw n x0 x1 x2 S C T → C ≤ kc ∧ T ≤ kt → zH D y A0 s H locs S → lv_has ls 3 [(0, .ref (zh y x0)), (1, .int x1), (2, .int x2)] → W p l e ({ frames := 8, cells := kc, slots := kt, locals := 183 } : Room) s m args below meth c H locs (kc - C) (kt - T) Q (F0 m 8 ls []) := by
  induction n with
  | zero => intro x0 x1 x2 S C T H locs ls hf; exact absurd hf id
  | succ n ih => intro x0 x1 x2 S C T H locs ls hf hCT hM hl; exact ws_X2_readHead_8 X hret (self8 := g_X2_readHead_8 Pw n) ih hf hCT hM hl
noncomputable def g_X2_readHead_0 (Pw : Int32 → ZS → Prop) (x0 : Nat) (S : ZS) (C T : Nat) : Prop :=
  m_chkQ (zK S x0 = 2) (
  m_calP (f_X2_skipBlanks x0 S) (fun o1 =>
  g_X2_readHead_8 Pw mFuel x0 (1 : Int32) (0 : Int32) o1.2 (C) (T)))

set_option maxRecDepth 100000 in
set_option maxHeartbeats 4000000 in
theorem w_X2_readHead_0 {p : Program} {l : Launch} {e : Env} {s : State} {m : MethodId} {args : Array Value} {below : List Frame} {meth : Method} {c : Code} {Q : State → Prop} {D : va_G} {y : Nat → ClassId} {A0 : Nat → Prop} {kc kt : Nat} {Pw : Int32 → ZS → Prop} (X : CallFix p m c cX2_readHead 3 s args wsX2_readHead RX2) (hret : zQi p l e ({ frames := 8, cells := kc, slots := kt, locals := 183 } : Room) s m args below meth c Q cX2_readHead D y A0 .boolean Pw) {x0 : Nat} {S : ZS} {C T : Nat} {H : Heap} {locs : List Loc} {ls : Array Slot} (hf : g_X2_readHead_0 Pw x0 S C T) (hCT : C ≤ kc ∧ T ≤ kt) (hM : zH D y A0 s H locs S) (hl : lv_has ls 3 [(0, .ref (zh y x0))]) : W p l e ({ frames := 8, cells := kc, slots := kt, locals := 183 } : Room) s m args below meth c H locs (kc - C) (kt - T) Q (F0 m 0 ls []) := by
  obtain ⟨hx, hb, hml, hown, hts⟩ := id X
  unfold g_X2_readHead_0 at hf
  refine lv_iconst (v := (1 : Int32)) hx hb dX2_readHead_0 (by decide) ?_
  refine lv_istore_n (lv' := [(1, .int (1 : Int32)), (0, .ref (zh y x0))]) hx hb dX2_readHead_1 rfl hl (by decide) rfl (fun ls hl => ?_)
  refine lv_aload_n hx hb dX2_readHead_2 rfl (lv_at hl 1 rfl) ?_
  obtain ⟨ca, hf⟩ := m_chkPE hf
  replace ca := z_in hM (by decide) ca
  obtain ⟨o1, ho, hf⟩ := m_calPE hf
  refine z_gcallVv (k := 2) (C := RX2) (T := TX2) (N := 12) (fl := zf_2) X hM rfl zc_2 ca (c_X2_skipBlanks ho) gX2_readHead_X2_skipBlanks rfl ⟨rfl, rfl⟩ hd_X2_skipBlanks ⟨Nat.le_of_ble_eq_true rfl, Nat.le_of_ble_eq_true rfl⟩ rfl hl.1 rfl ⟨Nat.sub_le _ _, Nat.sub_le _ _⟩ (Nat.le_of_ble_eq_true rfl) dX2_readHead_3 (fun H locs hM => ?_)
  clear ho
  refine lv_iconst (v := (0 : Int32)) hx hb dX2_readHead_6 (by decide) ?_
  refine lv_istore_n (lv' := [(2, .int (0 : Int32)), (1, .int (1 : Int32)), (0, .ref (zh y x0))]) hx hb dX2_readHead_7 rfl hl (by decide) rfl (fun ls hl => ?_)
  exact w_X2_readHead_8 X hret _ x0 (1 : Int32) (0 : Int32) _ _ _ _ _ _ hf hCT hM (lv_sub hl [2, 1, 0] rfl)
noncomputable def g_X2_readHead (x0 : Nat) (S : ZS) (mc ms : Nat) (Pw : Int32 → ZS → Prop) : Prop := g_X2_readHead_0 Pw x0 S mc ms
theorem c_X2_readHead {l : Launch} {D : va_G} {y : Nat → ClassId} {x0 : Nat} {S : ZS} {kc kt : Nat} {Pw : Int32 → ZS → Prop} (hf : g_X2_readHead x0 S kc kt Pw) : zWi l yX2_readHead wsX2_readHead ({ frames := 8, cells := kc, slots := kt, locals := 183 } : Room) [.ref (zh y x0)] D y S kc kt Pw :=
  z_wentI (own := RX2) (cc := cX2_readHead) (maxL := 3) (by decide) rfl rfl (Nat.le_of_ble_eq_true rfl) ⟨rfl, rfl⟩ (fun p e s m args below meth c A0 Q H locs ls X hret hM hl => w_X2_readHead_0 X hret hf ⟨Nat.le_refl _, Nat.le_refl _⟩ hM (lv_sub hl [0] rfl))
theorem hd_X2_resultHere : yX2_resultHere.cls = RX2 ∧ yX2_resultHere.cls ≠ "java/lang/invoke/MethodHandle" ∧ yX2_resultHere.cls ≠ "java/lang/invoke/VarHandle" ∧ (parseMethodDescriptor yX2_resultHere.desc).map (fun d => d.parameters.length) = some 0 := by decide +kernel
theorem fl_X2_resultHere_2_2 : Cond.fieldLink RX2 28 "MoveTexts$GameReader" "text" "LMoveTexts$Row;" ∈ wsX2_resultHere := by decide +kernel
theorem fl_X2_resultHere_2_4 : Cond.fieldLink RX2 39 "MoveTexts$GameReader" "at" "I" ∈ wsX2_resultHere := by decide +kernel
theorem hw_X2_resultHere_2 : ∀ w ∈ wsX20, w ∈ wsX2_resultHere := by decide +kernel
theorem nn_X2_resultHere_224 : ((RX2, 224, yX11_resultSign, "MoveTexts") ∈ zNW ∧ Cond.initialized yX11_resultSign.cls ∈ wsX2_resultHere) ∧ Cond.static yX11_resultSign ∈ wsX2_resultHere := by decide +kernel
noncomputable def f_X2_resultHere_2s (self2 : Nat → Int32 → ZS → Option (Int32 × ZS)) (x0 : Nat) (x1 : Int32) (S : ZS) : Option (Int32 × ZS) :=
  m_if ((4 : Int32) ≤ x1) (
  some ((-1 : Int32), S)
  ) (
  m_chk (zK S x0 = 2) (
  m_cal (zP S 2 x0) (fun b1 =>
  m_cal (f_X11_resultSign x1 S) (fun o2 =>
  m_chk (zK o2.2 x0 = 2) (
  m_chk (zK o2.2 b1 = 6) (
  m_cal (f_X6_holds b1 o2.1 (zI o2.2 4 x0) o2.2) (fun o3 =>
  m_if (o3.1 = 0) (
  m_bnd (x1 + (1 : Int32)) (fun v4 =>
  self2 x0 v4 o3.2)
  ) (
  some (x1, o3.2)
  )))))))
  )

set_option maxRecDepth 100000 in
set_option maxHeartbeats 4000000 in
theorem ws_X2_resultHere_2 {p : Program} {l : Launch} {e : Env} {s : State} {m : MethodId} {args : Array Value} {below : List Frame} {meth : Method} {c : Code} {Q : State → Prop} {D : va_G} {y : Nat → ClassId} {A0 : Nat → Prop} {o : Int32 × ZS} (X : CallFix p m c cX2_resultHere 2 s args wsX2_resultHere RX2) (hret : zRi p l e ({ frames := 5, cells := 0, slots := 0, locals := 108 } : Room) s m args below meth c Q cX2_resultHere D y A0 .int o) {self2 : Nat → Int32 → ZS → Option (Int32 × ZS)} (hself2 : ∀ (x0 : Nat) (x1 : Int32) (S : ZS) (H : Heap) (locs : List Loc) (ls : Array Slot), self2 x0 x1 S = some o → zH D y A0 s H locs S → lv_has ls 2 [(0, .ref (zh y x0)), (1, .int x1)] → W p l e ({ frames := 5, cells := 0, slots := 0, locals := 108 } : Room) s m args below meth c H locs 0 0 Q (F0 m 2 ls [])) {x0 : Nat} {x1 : Int32} {S : ZS} {H : Heap} {locs : List Loc} {ls : Array Slot} (hf : f_X2_resultHere_2s self2 x0 x1 S = some o) (hM : zH D y A0 s H locs S) (hl : lv_has ls 2 [(0, .ref (zh y x0)), (1, .int x1)]) : W p l e ({ frames := 5, cells := 0, slots := 0, locals := 108 } : Room) s m args below meth c H locs 0 0 Q (F0 m 2 ls []) := by
  obtain ⟨hx, hb, hml, hown, hts⟩ := id X
  unfold f_X2_resultHere_2s at hf
  refine lv_iload_n hx hb dX2_resultHere_2 rfl (lv_at hl 1 rfl) ?_
  refine lv_iconst (v := (4 : Int32)) hx hb dX2_resultHere_3 (by decide) ?_
  refine lv_icmp_ge (tgt := 33) hx hb dX2_resultHere_4 (by decide) (fun cc1 => ?_) (fun cc1 => ?_)
  · replace hf := m_ifT hf cc1
    refine lv_iconst (v := (-1 : Int32)) hx hb dX2_resultHere_33 (by decide) ?_
    cases hf
    exact hret H locs _ ls hM rfl dX2_resultHere_34
  · replace hf := m_ifF hf cc1
    refine lv_aload_n hx hb dX2_resultHere_7 rfl (lv_at hl 0 rfl) ?_
    obtain ⟨ca, hf⟩ := m_chkE hf
    replace ca := z_in hM (by decide) ca
    refine z_get (k := 2) (j := 2) (C := RX2) (T := TX2) (N := 12) (fl := zf_2) (v := va_rf ((zP S 2 x0).map (zh y))) X hw_X2_resultHere_2 hM rfl zc_2 ca (by decide) fl_X2_resultHere_2_2 rfl dX2_resultHere_8 ?_
    clear ca
    obtain ⟨b1, hb9, hf⟩ := m_calE hf
    refine z_topr hb9 ?_
    clear hb9
    refine lv_iload_n hx hb dX2_resultHere_11 rfl (lv_at hl 1 rfl) ?_
    obtain ⟨o2, ho, hf⟩ := m_calE hf
    refine z_callSNr X hM (c_X11_resultSign ho) gX2_resultHere_X11_resultSign_n224 nn_X2_resultHere_224.1.1 nn_X2_resultHere_224.1.2 nn_X2_resultHere_224.2 rfl ⟨rfl, rfl⟩ hd_X11_resultSign ⟨Nat.le_of_ble_eq_true rfl, Nat.le_of_ble_eq_true rfl⟩ rfl hl.1 rfl (Nat.le_of_ble_eq_true rfl) dX2_resultHere_12 (fun H locs hM => ?_)
    clear ho
    refine lv_aload_n hx hb dX2_resultHere_15 rfl (lv_at hl 0 rfl) ?_
    obtain ⟨ca, hf⟩ := m_chkE hf
    replace ca := z_in hM (by decide) ca
    refine z_get (k := 2) (j := 4) (C := RX2) (T := TX2) (N := 12) (fl := zf_2) (v := .int (zI o2.2 4 x0)) X hw_X2_resultHere_2 hM rfl zc_2 ca (by decide) fl_X2_resultHere_2_4 rfl dX2_resultHere_16 ?_
    clear ca
    obtain ⟨ca, hf⟩ := m_chkE hf
    replace ca := z_in hM (by decide) ca
    obtain ⟨o3, ho, hf⟩ := m_calE hf
    refine z_callVi (k := 6) (C := RX6) (T := TX6) (N := 2) (fl := zf_6) X hM rfl zc_6 ca (c_X6_holds ho) gX2_resultHere_X6_holds rfl ⟨rfl, rfl⟩ hd_X6_holds ⟨Nat.le_of_ble_eq_true rfl, Nat.le_of_ble_eq_true rfl⟩ rfl hl.1 rfl (Nat.le_of_ble_eq_true rfl) dX2_resultHere_19 (fun H locs hM => ?_)
    clear ho
    refine lv_if_eq (tgt := 27) hx hb dX2_resultHere_22 (by decide) (fun cc1 => ?_) (fun cc1 => ?_)
    · replace hf := m_ifT hf cc1
      obtain ⟨v4, ev, hf⟩ := m_bndE hf
      refine lv_iinc (v := v4) (lv' := [(1, .int v4), (0, .ref (zh y x0))]) hx hb dX2_resultHere_27 hl (k := 1) rfl (by rw [ev]; rfl) (by decide) rfl (fun ls hl => ?_)
      clear ev
      refine lv_goto (tgt := 2) hx hb dX2_resultHere_30 (by decide) ?_
      exact hself2 x0 v4 _ _ _ _ hf hM (lv_sub hl [1, 0] rfl)
    · replace hf := m_ifF hf cc1
      refine lv_iload_n hx hb dX2_resultHere_25 rfl (lv_at hl 1 rfl) ?_
      cases hf
      exact hret H locs _ ls hM rfl dX2_resultHere_26
noncomputable def f_X2_resultHere_2 : Nat → Nat → Int32 → ZS → Option (Int32 × ZS)
  | 0 => fun _ _ _ => none
  | n + 1 => f_X2_resultHere_2s (f_X2_resultHere_2 n)
theorem w_X2_resultHere_2 {p : Program} {l : Launch} {e : Env} {s : State} {m : MethodId} {args : Array Value} {below : List Frame} {meth : Method} {c : Code} {Q : State → Prop} {D : va_G} {y : Nat → ClassId} {A0 : Nat → Prop} {o : Int32 × ZS} (X : CallFix p m c cX2_resultHere 2 s args wsX2_resultHere RX2) (hret : zRi p l e ({ frames := 5, cells := 0, slots := 0, locals := 108 } : Room) s m args below meth c Q cX2_resultHere D y A0 .int o) (n : Nat) : ∀ (x0 : Nat) (x1 : Int32) (S : ZS) (H : Heap) (locs : List Loc) (ls : Array Slot), f_X2_resultHere_2 n x0 x1 S = some o → zH D y A0 s H locs S → lv_has ls 2 [(0, .ref (zh y x0)), (1, .int x1)] → W p l e ({ frames := 5, cells := 0, slots := 0, locals := 108 } : Room) s m args below meth c H locs 0 0 Q (F0 m 2 ls []) := by
  induction n with
  | zero => intro x0 x1 S H locs ls hf; cases hf
  | succ n ih => intro x0 x1 S H locs ls hf hM hl; exact ws_X2_resultHere_2 X hret (self2 := f_X2_resultHere_2 n) ih hf hM hl
noncomputable def f_X2_resultHere_0 (x0 : Nat) (S : ZS) : Option (Int32 × ZS) :=
  f_X2_resultHere_2 mFuel x0 (0 : Int32) S

set_option maxRecDepth 100000 in
set_option maxHeartbeats 4000000 in
theorem w_X2_resultHere_0 {p : Program} {l : Launch} {e : Env} {s : State} {m : MethodId} {args : Array Value} {below : List Frame} {meth : Method} {c : Code} {Q : State → Prop} {D : va_G} {y : Nat → ClassId} {A0 : Nat → Prop} {o : Int32 × ZS} (X : CallFix p m c cX2_resultHere 2 s args wsX2_resultHere RX2) (hret : zRi p l e ({ frames := 5, cells := 0, slots := 0, locals := 108 } : Room) s m args below meth c Q cX2_resultHere D y A0 .int o) {x0 : Nat} {S : ZS} {H : Heap} {locs : List Loc} {ls : Array Slot} (hf : f_X2_resultHere_0 x0 S = some o) (hM : zH D y A0 s H locs S) (hl : lv_has ls 2 [(0, .ref (zh y x0))]) : W p l e ({ frames := 5, cells := 0, slots := 0, locals := 108 } : Room) s m args below meth c H locs 0 0 Q (F0 m 0 ls []) := by
  obtain ⟨hx, hb, hml, hown, hts⟩ := id X
  unfold f_X2_resultHere_0 at hf
  refine lv_iconst (v := (0 : Int32)) hx hb dX2_resultHere_0 (by decide) ?_
  refine lv_istore_n (lv' := [(1, .int (0 : Int32)), (0, .ref (zh y x0))]) hx hb dX2_resultHere_1 rfl hl (by decide) rfl (fun ls hl => ?_)
  exact w_X2_resultHere_2 X hret _ x0 (0 : Int32) _ _ _ _ hf hM (lv_sub hl [1, 0] rfl)
noncomputable def f_X2_resultHere (x0 : Nat) (S : ZS) : Option (Int32 × ZS) := f_X2_resultHere_0 x0 S
theorem c_X2_resultHere {l : Launch} {D : va_G} {y : Nat → ClassId} {x0 : Nat} {S : ZS} {o : Int32 × ZS} (hf : f_X2_resultHere x0 S = some o) : zMi l yX2_resultHere wsX2_resultHere ({ frames := 5, cells := 0, slots := 0, locals := 108 } : Room) [.ref (zh y x0)] D y S o :=
  z_entryI (own := RX2) (cc := cX2_resultHere) (maxL := 2) (by decide) rfl rfl (Nat.le_of_ble_eq_true rfl) (fun p e s m args below meth c A0 Q H locs ls X hret hM hl => w_X2_resultHere_0 X hret hf hM (lv_sub hl [0] rfl))
theorem hd_X2_openLine : yX2_openLine.cls = RX2 ∧ yX2_openLine.cls ≠ "java/lang/invoke/MethodHandle" ∧ yX2_openLine.cls ≠ "java/lang/invoke/VarHandle" ∧ (parseMethodDescriptor yX2_openLine.desc).map (fun d => d.parameters.length) = some 1 := by decide +kernel
theorem fl_X2_openLine_2_10 : Cond.fieldLink RX2 61 "MoveTexts$GameReader" "before" "[LMoveTexts$Board;" ∈ wsX2_openLine := by decide +kernel
theorem fl_X2_openLine_2_11 : Cond.fieldLink RX2 65 "MoveTexts$GameReader" "behind" "[LMoveTexts$Board;" ∈ wsX2_openLine := by decide +kernel
theorem fl_X2_openLine_2_3 : Cond.fieldLink RX2 35 "MoveTexts$GameReader" "game" "LMoveTexts$Game;" ∈ wsX2_openLine := by decide +kernel
theorem fl_X2_openLine_2_4 : Cond.fieldLink RX2 39 "MoveTexts$GameReader" "at" "I" ∈ wsX2_openLine := by decide +kernel
theorem fl_X2_openLine_2_8 : Cond.fieldLink RX2 52 "MoveTexts$GameReader" "root" "[I" ∈ wsX2_openLine := by decide +kernel
theorem fl_X2_openLine_2_9 : Cond.fieldLink RX2 56 "MoveTexts$GameReader" "last" "[I" ∈ wsX2_openLine := by decide +kernel
theorem fl_X2_openLine_4_0 : Cond.fieldLink RX2 176 "MoveTexts$Node" "parent" "I" ∈ wsX2_openLine := by decide +kernel
theorem hw_X2_openLine_2 : ∀ w ∈ wsX20, w ∈ wsX2_openLine := by decide +kernel
theorem hw_X2_openLine_4 : ∀ w ∈ wsX40, w ∈ wsX2_openLine := by decide +kernel
noncomputable def f_X2_openLine_0 (x0 : Nat) (x1 : Int32) (S : ZS) : Option (Int32 × ZS) :=
  m_chk (zK S x0 = 2) (
  m_cal (zP S 8 x0) (fun b1 =>
  m_chk (zK S x0 = 2) (
  m_cal (zP S 3 x0) (fun b2 =>
  m_chk (zK S x0 = 2) (
  m_cal (zP S 9 x0) (fun b3 =>
  m_bnd (x1 - (1 : Int32)) (fun v4 =>
  m_chk (zK S b3 = 14) (
  m_chk (¬ (v4 < 0 ∨ zN S b3 ≤ (v4).toNatClampNeg)) (
  m_bnd (zA S b3 (v4).toNatClampNeg) (fun v5 =>
  m_chk (zK S b2 = 1) (
  m_cal (f_X1_at b2 v5 S) (fun o6 =>
  m_chk (zK o6.2 o6.1 = 4) (
  m_chk (zK o6.2 b1 = 14) (
  m_chk (¬ (x1 < 0 ∨ zN o6.2 b1 ≤ (x1).toNatClampNeg)) (
  m_bnd (zsA o6.2 b1 (x1).toNatClampNeg (zI o6.2 0 o6.1)) (fun S7 =>
  m_chk (zK S7 x0 = 2) (
  m_cal (zP S7 9 x0) (fun b8 =>
  m_chk (zK S7 x0 = 2) (
  m_cal (zP S7 8 x0) (fun b9 =>
  m_chk (zK S7 b9 = 14) (
  m_chk (¬ (x1 < 0 ∨ zN S7 b9 ≤ (x1).toNatClampNeg)) (
  m_bnd (zA S7 b9 (x1).toNatClampNeg) (fun v10 =>
  m_chk (zK S7 b8 = 14) (
  m_chk (¬ (x1 < 0 ∨ zN S7 b8 ≤ (x1).toNatClampNeg)) (
  m_bnd (zsA S7 b8 (x1).toNatClampNeg v10) (fun S11 =>
  m_chk (zK S11 x0 = 2) (
  m_cal (zP S11 11 x0) (fun b12 =>
  m_chk (zK S11 b12 = 15) (
  m_chk (¬ (x1 < 0 ∨ zN S11 b12 ≤ (x1).toNatClampNeg)) (
  m_cal (zB S11 b12 (x1).toNatClampNeg) (fun b13 =>
  m_chk (zK S11 x0 = 2) (
  m_cal (zP S11 10 x0) (fun b14 =>
  m_bnd (x1 - (1 : Int32)) (fun v15 =>
  m_chk (zK S11 b14 = 15) (
  m_chk (¬ (v15 < 0 ∨ zN S11 b14 ≤ (v15).toNatClampNeg)) (
  m_cal (zB S11 b14 (v15).toNatClampNeg) (fun b16 =>
  m_chk (zK S11 b13 = 0) (
  m_cal (f_X0_copyFrom b13 b16 S11) (fun o17 =>
  m_chk (zK o17.2 x0 = 2) (
  m_bnd ((zI o17.2 4 x0) + (1 : Int32)) (fun v18 =>
  m_chk (zK o17.2 x0 = 2) (
  m_bnd (zsI o17.2 4 x0 v18) (fun S19 =>
  some (0, S19))))))))))))))))))))))))))))))))))))))))))))

set_option maxRecDepth 100000 in
set_option maxHeartbeats 4000000 in
theorem w_X2_openLine_0 {p : Program} {l : Launch} {e : Env} {s : State} {m : MethodId} {args : Array Value} {below : List Frame} {meth : Method} {c : Code} {Q : State → Prop} {D : va_G} {y : Nat → ClassId} {A0 : Nat → Prop} {o : Int32 × ZS} (X : CallFix p m c cX2_openLine 2 s args wsX2_openLine RX2) (hret : zRv p l e ({ frames := 2, cells := 0, slots := 0, locals := 81 } : Room) s m args below meth c Q cX2_openLine D y A0 o) {x0 : Nat} {x1 : Int32} {S : ZS} {H : Heap} {locs : List Loc} {ls : Array Slot} (hf : f_X2_openLine_0 x0 x1 S = some o) (hM : zH D y A0 s H locs S) (hl : lv_has ls 2 [(0, .ref (zh y x0)), (1, .int x1)]) : W p l e ({ frames := 2, cells := 0, slots := 0, locals := 81 } : Room) s m args below meth c H locs 0 0 Q (F0 m 0 ls []) := by
  obtain ⟨hx, hb, hml, hown, hts⟩ := id X
  unfold f_X2_openLine_0 at hf
  refine lv_aload_n hx hb dX2_openLine_0 rfl (lv_at hl 0 rfl) ?_
  obtain ⟨ca, hf⟩ := m_chkE hf
  replace ca := z_in hM (by decide) ca
  refine z_get (k := 2) (j := 8) (C := RX2) (T := TX2) (N := 12) (fl := zf_2) (v := va_rf ((zP S 8 x0).map (zh y))) X hw_X2_openLine_2 hM rfl zc_2 ca (by decide) fl_X2_openLine_2_8 rfl dX2_openLine_1 ?_
  clear ca
  obtain ⟨b1, hb9, hf⟩ := m_calE hf
  refine z_topr hb9 ?_
  clear hb9
  refine lv_iload_n hx hb dX2_openLine_4 rfl (lv_at hl 1 rfl) ?_
  refine lv_aload_n hx hb dX2_openLine_5 rfl (lv_at hl 0 rfl) ?_
  obtain ⟨ca, hf⟩ := m_chkE hf
  replace ca := z_in hM (by decide) ca
  refine z_get (k := 2) (j := 3) (C := RX2) (T := TX2) (N := 12) (fl := zf_2) (v := va_rf ((zP S 3 x0).map (zh y))) X hw_X2_openLine_2 hM rfl zc_2 ca (by decide) fl_X2_openLine_2_3 rfl dX2_openLine_6 ?_
  clear ca
  obtain ⟨b2, hb9, hf⟩ := m_calE hf
  refine z_topr hb9 ?_
  clear hb9
  refine lv_aload_n hx hb dX2_openLine_9 rfl (lv_at hl 0 rfl) ?_
  obtain ⟨ca, hf⟩ := m_chkE hf
  replace ca := z_in hM (by decide) ca
  refine z_get (k := 2) (j := 9) (C := RX2) (T := TX2) (N := 12) (fl := zf_2) (v := va_rf ((zP S 9 x0).map (zh y))) X hw_X2_openLine_2 hM rfl zc_2 ca (by decide) fl_X2_openLine_2_9 rfl dX2_openLine_10 ?_
  clear ca
  obtain ⟨b3, hb9, hf⟩ := m_calE hf
  refine z_topr hb9 ?_
  clear hb9
  refine lv_iload_n hx hb dX2_openLine_13 rfl (lv_at hl 1 rfl) ?_
  refine lv_iconst (v := (1 : Int32)) hx hb dX2_openLine_14 (by decide) ?_
  refine lv_isub hx hb dX2_openLine_15 ?_
  obtain ⟨v4, ev, hf⟩ := m_bndE hf
  refine m_top ev ?_
  clear ev
  obtain ⟨ca, hf⟩ := m_chkE hf
  replace ca := z_in hM (by decide) ca
  obtain ⟨cd, hf⟩ := m_chkE hf
  refine z_iald X hM ca cd dX2_openLine_16 ?_
  clear ca cd
  obtain ⟨v5, ev, hf⟩ := m_bndE hf
  refine m_top ev ?_
  clear ev
  obtain ⟨ca, hf⟩ := m_chkE hf
  replace ca := z_in hM (by decide) ca
  obtain ⟨o6, ho, hf⟩ := m_calE hf
  refine z_callVr (k := 1) (C := RX1) (T := TX1) (N := 8) (fl := zf_1) X hM rfl zc_1 ca (c_X1_at ho) gX2_openLine_X1_at rfl ⟨rfl, rfl⟩ hd_X1_at ⟨Nat.le_of_ble_eq_true rfl, Nat.le_of_ble_eq_true rfl⟩ rfl hl.1 rfl (Nat.le_of_ble_eq_true rfl) dX2_openLine_17 (fun H locs hM => ?_)
  clear ho
  obtain ⟨ca, hf⟩ := m_chkE hf
  replace ca := z_in hM (by decide) ca
  refine z_get (k := 4) (j := 0) (C := RX4) (T := TX4) (N := 7) (fl := zf_4) (v := .int (zI o6.2 0 o6.1)) X hw_X2_openLine_4 hM rfl zc_4 ca (by decide) fl_X2_openLine_4_0 rfl dX2_openLine_20 ?_
  clear ca
  obtain ⟨ca, hf⟩ := m_chkE hf
  replace ca := z_in hM (by decide) ca
  obtain ⟨cd, hf⟩ := m_chkE hf
  refine z_iast X hM ca cd dX2_openLine_23 (fun H locs hM => ?_)
  clear ca cd
  obtain ⟨S7, ev, hf⟩ := m_bndE hf
  replace hM := z_hS hM ev
  clear ev
  refine lv_aload_n hx hb dX2_openLine_24 rfl (lv_at hl 0 rfl) ?_
  obtain ⟨ca, hf⟩ := m_chkE hf
  replace ca := z_in hM (by decide) ca
  refine z_get (k := 2) (j := 9) (C := RX2) (T := TX2) (N := 12) (fl := zf_2) (v := va_rf ((zP S7 9 x0).map (zh y))) X hw_X2_openLine_2 hM rfl zc_2 ca (by decide) fl_X2_openLine_2_9 rfl dX2_openLine_25 ?_
  clear ca
  obtain ⟨b8, hb9, hf⟩ := m_calE hf
  refine z_topr hb9 ?_
  clear hb9
  refine lv_iload_n hx hb dX2_openLine_28 rfl (lv_at hl 1 rfl) ?_
  refine lv_aload_n hx hb dX2_openLine_29 rfl (lv_at hl 0 rfl) ?_
  obtain ⟨ca, hf⟩ := m_chkE hf
  replace ca := z_in hM (by decide) ca
  refine z_get (k := 2) (j := 8) (C := RX2) (T := TX2) (N := 12) (fl := zf_2) (v := va_rf ((zP S7 8 x0).map (zh y))) X hw_X2_openLine_2 hM rfl zc_2 ca (by decide) fl_X2_openLine_2_8 rfl dX2_openLine_30 ?_
  clear ca
  obtain ⟨b9, hb9, hf⟩ := m_calE hf
  refine z_topr hb9 ?_
  clear hb9
  refine lv_iload_n hx hb dX2_openLine_33 rfl (lv_at hl 1 rfl) ?_
  obtain ⟨ca, hf⟩ := m_chkE hf
  replace ca := z_in hM (by decide) ca
  obtain ⟨cd, hf⟩ := m_chkE hf
  refine z_iald X hM ca cd dX2_openLine_34 ?_
  clear ca cd
  obtain ⟨v10, ev, hf⟩ := m_bndE hf
  refine m_top ev ?_
  clear ev
  obtain ⟨ca, hf⟩ := m_chkE hf
  replace ca := z_in hM (by decide) ca
  obtain ⟨cd, hf⟩ := m_chkE hf
  refine z_iast X hM ca cd dX2_openLine_35 (fun H locs hM => ?_)
  clear ca cd
  obtain ⟨S11, ev, hf⟩ := m_bndE hf
  replace hM := z_hS hM ev
  clear ev
  refine lv_aload_n hx hb dX2_openLine_36 rfl (lv_at hl 0 rfl) ?_
  obtain ⟨ca, hf⟩ := m_chkE hf
  replace ca := z_in hM (by decide) ca
  refine z_get (k := 2) (j := 11) (C := RX2) (T := TX2) (N := 12) (fl := zf_2) (v := va_rf ((zP S11 11 x0).map (zh y))) X hw_X2_openLine_2 hM rfl zc_2 ca (by decide) fl_X2_openLine_2_11 rfl dX2_openLine_37 ?_
  clear ca
  obtain ⟨b12, hb9, hf⟩ := m_calE hf
  refine z_topr hb9 ?_
  clear hb9
  refine lv_iload_n hx hb dX2_openLine_40 rfl (lv_at hl 1 rfl) ?_
  obtain ⟨ca, hf⟩ := m_chkE hf
  replace ca := z_in hM (by decide) ca
  obtain ⟨cd, hf⟩ := m_chkE hf
  refine z_aald (k := 15) (t0 := 2) (C := "MoveTexts$Board") X hM (fun _ _ _ _ _ => rfl) rfl ca cd dX2_openLine_41 ?_
  clear ca cd
  obtain ⟨b13, hb9, hf⟩ := m_calE hf
  refine z_topr hb9 ?_
  clear hb9
  refine lv_aload_n hx hb dX2_openLine_42 rfl (lv_at hl 0 rfl) ?_
  obtain ⟨ca, hf⟩ := m_chkE hf
  replace ca := z_in hM (by decide) ca
  refine z_get (k := 2) (j := 10) (C := RX2) (T := TX2) (N := 12) (fl := zf_2) (v := va_rf ((zP S11 10 x0).map (zh y))) X hw_X2_openLine_2 hM rfl zc_2 ca (by decide) fl_X2_openLine_2_10 rfl dX2_openLine_43 ?_
  clear ca
  obtain ⟨b14, hb9, hf⟩ := m_calE hf
  refine z_topr hb9 ?_
  clear hb9
  refine lv_iload_n hx hb dX2_openLine_46 rfl (lv_at hl 1 rfl) ?_
  refine lv_iconst (v := (1 : Int32)) hx hb dX2_openLine_47 (by decide) ?_
  refine lv_isub hx hb dX2_openLine_48 ?_
  obtain ⟨v15, ev, hf⟩ := m_bndE hf
  refine m_top ev ?_
  clear ev
  obtain ⟨ca, hf⟩ := m_chkE hf
  replace ca := z_in hM (by decide) ca
  obtain ⟨cd, hf⟩ := m_chkE hf
  refine z_aald (k := 15) (t0 := 2) (C := "MoveTexts$Board") X hM (fun _ _ _ _ _ => rfl) rfl ca cd dX2_openLine_49 ?_
  clear ca cd
  obtain ⟨b16, hb9, hf⟩ := m_calE hf
  refine z_topr hb9 ?_
  clear hb9
  obtain ⟨ca, hf⟩ := m_chkE hf
  replace ca := z_in hM (by decide) ca
  obtain ⟨o17, ho, hf⟩ := m_calE hf
  refine z_callVv (k := 0) (C := RX0) (T := TX0) (N := 7) (fl := zf_0) X hM rfl zc_0 ca (c_X0_copyFrom ho) gX2_openLine_X0_copyFrom rfl ⟨rfl, rfl⟩ hd_X0_copyFrom ⟨Nat.le_of_ble_eq_true rfl, Nat.le_of_ble_eq_true rfl⟩ rfl hl.1 rfl (Nat.le_of_ble_eq_true rfl) dX2_openLine_50 (fun H locs hM => ?_)
  clear ho
  refine lv_aload_n hx hb dX2_openLine_53 rfl (lv_at hl 0 rfl) ?_
  refine lv_dup hx hb dX2_openLine_54 rfl ?_
  obtain ⟨ca, hf⟩ := m_chkE hf
  replace ca := z_in hM (by decide) ca
  refine z_get (k := 2) (j := 4) (C := RX2) (T := TX2) (N := 12) (fl := zf_2) (v := .int (zI o17.2 4 x0)) X hw_X2_openLine_2 hM rfl zc_2 ca (by decide) fl_X2_openLine_2_4 rfl dX2_openLine_55 ?_
  clear ca
  refine lv_iconst (v := (1 : Int32)) hx hb dX2_openLine_58 (by decide) ?_
  refine lv_iadd hx hb dX2_openLine_59 ?_
  obtain ⟨v18, ev, hf⟩ := m_bndE hf
  refine m_top ev ?_
  clear ev
  obtain ⟨ca, hf⟩ := m_chkE hf
  replace ca := z_in hM (by decide) ca
  refine z_putI (k := 2) (j := 4) (C := RX2) (T := TX2) (N := 12) (fl := zf_2) (ty := .int) X hw_X2_openLine_2 tyX2_ok nmX2 hM rfl zc_2 ca (by decide) fl_X2_openLine_2_4 rfl (tyX2_ok 4 (by decide)) rfl rfl zi_2_4 (Nat.le_of_ble_eq_true rfl) dX2_openLine_60 (fun H locs hM => ?_)
  clear ca
  obtain ⟨S19, ev, hf⟩ := m_bndE hf
  replace hM := z_hS hM ev
  clear ev
  cases hf
  exact hret H locs _ ls hM dX2_openLine_63
noncomputable def f_X2_openLine (x0 : Nat) (x1 : Int32) (S : ZS) : Option (Int32 × ZS) := f_X2_openLine_0 x0 x1 S
theorem c_X2_openLine {l : Launch} {D : va_G} {y : Nat → ClassId} {x0 : Nat} {x1 : Int32} {S : ZS} {o : Int32 × ZS} (hf : f_X2_openLine x0 x1 S = some o) : zMv l yX2_openLine wsX2_openLine ({ frames := 2, cells := 0, slots := 0, locals := 81 } : Room) [.ref (zh y x0), .int x1] D y S o :=
  z_entryV (own := RX2) (cc := cX2_openLine) (maxL := 2) (by decide) rfl rfl (Nat.le_of_ble_eq_true rfl) (fun p e s m args below meth c A0 Q H locs ls X hret hM hl => w_X2_openLine_0 X hret hf hM (lv_sub hl [0, 1] rfl))
theorem hd_X2_readDigits : yX2_readDigits.cls = RX2 ∧ yX2_readDigits.cls ≠ "java/lang/invoke/MethodHandle" ∧ yX2_readDigits.cls ≠ "java/lang/invoke/VarHandle" ∧ (parseMethodDescriptor yX2_readDigits.desc).map (fun d => d.parameters.length) = some 1 := by decide +kernel
theorem fl_X2_readDigits_2_2 : Cond.fieldLink RX2 28 "MoveTexts$GameReader" "text" "LMoveTexts$Row;" ∈ wsX2_readDigits := by decide +kernel
theorem fl_X2_readDigits_2_4 : Cond.fieldLink RX2 39 "MoveTexts$GameReader" "at" "I" ∈ wsX2_readDigits := by decide +kernel
theorem hw_X2_readDigits_2 : ∀ w ∈ wsX20, w ∈ wsX2_readDigits := by decide +kernel
theorem nn_X2_readDigits_136 : ((RX2, 136, yX11_isDigit, "MoveTexts") ∈ zNW ∧ Cond.initialized yX11_isDigit.cls ∈ wsX2_readDigits) ∧ Cond.static yX11_isDigit ∈ wsX2_readDigits := by decide +kernel
noncomputable def f_X2_readDigits_67 (x3 : Int32) (S : ZS) : Option (Int32 × ZS) :=
  some (x3, S)

set_option maxRecDepth 100000 in
set_option maxHeartbeats 4000000 in
theorem w_X2_readDigits_67 {p : Program} {l : Launch} {e : Env} {s : State} {m : MethodId} {args : Array Value} {below : List Frame} {meth : Method} {c : Code} {Q : State → Prop} {D : va_G} {y : Nat → ClassId} {A0 : Nat → Prop} {o : Int32 × ZS} (X : CallFix p m c cX2_readDigits 4 s args wsX2_readDigits RX2) (hret : zRi p l e ({ frames := 1, cells := 0, slots := 0, locals := 21 } : Room) s m args below meth c Q cX2_readDigits D y A0 .int o) {x3 : Int32} {S : ZS} {H : Heap} {locs : List Loc} {ls : Array Slot} (hf : f_X2_readDigits_67 x3 S = some o) (hM : zH D y A0 s H locs S) (hl : lv_has ls 4 [(3, .int x3)]) : W p l e ({ frames := 1, cells := 0, slots := 0, locals := 21 } : Room) s m args below meth c H locs 0 0 Q (F0 m 67 ls []) := by
  obtain ⟨hx, hb, hml, hown, hts⟩ := id X
  unfold f_X2_readDigits_67 at hf
  refine lv_iload_n hx hb dX2_readDigits_67 rfl (lv_at hl 0 rfl) ?_
  cases hf
  exact hret H locs _ ls hM rfl dX2_readDigits_68
noncomputable def f_X2_readDigits_9s (self9 : Nat → Int32 → Int32 → ZS → Option (Int32 × ZS)) (x0 : Nat) (x2 : Int32) (x3 : Int32) (S : ZS) : Option (Int32 × ZS) :=
  m_chk (zK S x0 = 2) (
  m_if (x2 ≤ (zI S 4 x0)) (
  f_X2_readDigits_67 x3 S
  ) (
  m_chk (zK S x0 = 2) (
  m_cal (zP S 2 x0) (fun b1 =>
  m_chk (zK S x0 = 2) (
  m_chk (zK S b1 = 6) (
  m_cal (f_X6_at b1 (zI S 4 x0) S) (fun o2 =>
  m_cal (f_X11_isDigit o2.1 o2.2) (fun o3 =>
  m_if (o3.1 = 0) (
  f_X2_readDigits_67 x3 o3.2
  ) (
  m_bnd ((10 : Int32) * x3) (fun v4 =>
  m_chk (zK o3.2 x0 = 2) (
  m_cal (zP o3.2 2 x0) (fun b5 =>
  m_chk (zK o3.2 x0 = 2) (
  m_chk (zK o3.2 b5 = 6) (
  m_cal (f_X6_at b5 (zI o3.2 4 x0) o3.2) (fun o6 =>
  m_bnd (v4 + o6.1) (fun v7 =>
  m_bnd (v7 - (48 : Int32)) (fun v8 =>
  m_chk (zK o6.2 x0 = 2) (
  m_bnd ((zI o6.2 4 x0) + (1 : Int32)) (fun v9 =>
  m_chk (zK o6.2 x0 = 2) (
  m_bnd (zsI o6.2 4 x0 v9) (fun S10 =>
  self9 x0 x2 v8 S10))))))))))))
  )))))))
  ))

set_option maxRecDepth 100000 in
set_option maxHeartbeats 4000000 in
theorem ws_X2_readDigits_9 {p : Program} {l : Launch} {e : Env} {s : State} {m : MethodId} {args : Array Value} {below : List Frame} {meth : Method} {c : Code} {Q : State → Prop} {D : va_G} {y : Nat → ClassId} {A0 : Nat → Prop} {o : Int32 × ZS} (X : CallFix p m c cX2_readDigits 4 s args wsX2_readDigits RX2) (hret : zRi p l e ({ frames := 1, cells := 0, slots := 0, locals := 21 } : Room) s m args below meth c Q cX2_readDigits D y A0 .int o) {self9 : Nat → Int32 → Int32 → ZS → Option (Int32 × ZS)} (hself9 : ∀ (x0 : Nat) (x2 : Int32) (x3 : Int32) (S : ZS) (H : Heap) (locs : List Loc) (ls : Array Slot), self9 x0 x2 x3 S = some o → zH D y A0 s H locs S → lv_has ls 4 [(0, .ref (zh y x0)), (2, .int x2), (3, .int x3)] → W p l e ({ frames := 1, cells := 0, slots := 0, locals := 21 } : Room) s m args below meth c H locs 0 0 Q (F0 m 9 ls [])) {x0 : Nat} {x2 : Int32} {x3 : Int32} {S : ZS} {H : Heap} {locs : List Loc} {ls : Array Slot} (hf : f_X2_readDigits_9s self9 x0 x2 x3 S = some o) (hM : zH D y A0 s H locs S) (hl : lv_has ls 4 [(0, .ref (zh y x0)), (2, .int x2), (3, .int x3)]) : W p l e ({ frames := 1, cells := 0, slots := 0, locals := 21 } : Room) s m args below meth c H locs 0 0 Q (F0 m 9 ls []) := by
  obtain ⟨hx, hb, hml, hown, hts⟩ := id X
  unfold f_X2_readDigits_9s at hf
  refine lv_aload_n hx hb dX2_readDigits_9 rfl (lv_at hl 0 rfl) ?_
  obtain ⟨ca, hf⟩ := m_chkE hf
  replace ca := z_in hM (by decide) ca
  refine z_get (k := 2) (j := 4) (C := RX2) (T := TX2) (N := 12) (fl := zf_2) (v := .int (zI S 4 x0)) X hw_X2_readDigits_2 hM rfl zc_2 ca (by decide) fl_X2_readDigits_2_4 rfl dX2_readDigits_10 ?_
  clear ca
  refine lv_iload_n hx hb dX2_readDigits_13 rfl (lv_at hl 1 rfl) ?_
  refine lv_icmp_ge (tgt := 67) hx hb dX2_readDigits_14 (by decide) (fun cc1 => ?_) (fun cc1 => ?_)
  · replace hf := m_ifT hf cc1
    exact w_X2_readDigits_67 (x3 := x3) X hret hf hM (lv_sub hl [2] rfl)
  · replace hf := m_ifF hf cc1
    refine lv_aload_n hx hb dX2_readDigits_17 rfl (lv_at hl 0 rfl) ?_
    obtain ⟨ca, hf⟩ := m_chkE hf
    replace ca := z_in hM (by decide) ca
    refine z_get (k := 2) (j := 2) (C := RX2) (T := TX2) (N := 12) (fl := zf_2) (v := va_rf ((zP S 2 x0).map (zh y))) X hw_X2_readDigits_2 hM rfl zc_2 ca (by decide) fl_X2_readDigits_2_2 rfl dX2_readDigits_18 ?_
    clear ca
    obtain ⟨b1, hb9, hf⟩ := m_calE hf
    refine z_topr hb9 ?_
    clear hb9
    refine lv_aload_n hx hb dX2_readDigits_21 rfl (lv_at hl 0 rfl) ?_
    obtain ⟨ca, hf⟩ := m_chkE hf
    replace ca := z_in hM (by decide) ca
    refine z_get (k := 2) (j := 4) (C := RX2) (T := TX2) (N := 12) (fl := zf_2) (v := .int (zI S 4 x0)) X hw_X2_readDigits_2 hM rfl zc_2 ca (by decide) fl_X2_readDigits_2_4 rfl dX2_readDigits_22 ?_
    clear ca
    obtain ⟨ca, hf⟩ := m_chkE hf
    replace ca := z_in hM (by decide) ca
    obtain ⟨o2, ho, hf⟩ := m_calE hf
    refine z_callVi (k := 6) (C := RX6) (T := TX6) (N := 2) (fl := zf_6) X hM rfl zc_6 ca (c_X6_at ho) gX2_readDigits_X6_at rfl ⟨rfl, rfl⟩ hd_X6_at ⟨Nat.le_of_ble_eq_true rfl, Nat.le_of_ble_eq_true rfl⟩ rfl hl.1 rfl (Nat.le_of_ble_eq_true rfl) dX2_readDigits_25 (fun H locs hM => ?_)
    clear ho
    obtain ⟨o3, ho, hf⟩ := m_calE hf
    refine z_callSNi X hM (c_X11_isDigit ho) gX2_readDigits_X11_isDigit_n136 nn_X2_readDigits_136.1.1 nn_X2_readDigits_136.1.2 nn_X2_readDigits_136.2 rfl ⟨rfl, rfl⟩ hd_X11_isDigit ⟨Nat.le_of_ble_eq_true rfl, Nat.le_of_ble_eq_true rfl⟩ rfl hl.1 rfl (Nat.le_of_ble_eq_true rfl) dX2_readDigits_28 (fun H locs hM => ?_)
    clear ho
    refine lv_if_eq (tgt := 67) hx hb dX2_readDigits_31 (by decide) (fun cc1 => ?_) (fun cc1 => ?_)
    · replace hf := m_ifT hf cc1
      exact w_X2_readDigits_67 (x3 := x3) X hret hf hM (lv_sub hl [2] rfl)
    · replace hf := m_ifF hf cc1
      refine lv_bipush (v := (10 : Int32)) hx hb dX2_readDigits_34 (by decide) ?_
      refine lv_iload_n hx hb dX2_readDigits_36 rfl (lv_at hl 2 rfl) ?_
      refine lv_imul hx hb dX2_readDigits_37 ?_
      obtain ⟨v4, ev, hf⟩ := m_bndE hf
      refine m_top ev ?_
      clear ev
      refine lv_aload_n hx hb dX2_readDigits_38 rfl (lv_at hl 0 rfl) ?_
      obtain ⟨ca, hf⟩ := m_chkE hf
      replace ca := z_in hM (by decide) ca
      refine z_get (k := 2) (j := 2) (C := RX2) (T := TX2) (N := 12) (fl := zf_2) (v := va_rf ((zP o3.2 2 x0).map (zh y))) X hw_X2_readDigits_2 hM rfl zc_2 ca (by decide) fl_X2_readDigits_2_2 rfl dX2_readDigits_39 ?_
      clear ca
      obtain ⟨b5, hb9, hf⟩ := m_calE hf
      refine z_topr hb9 ?_
      clear hb9
      refine lv_aload_n hx hb dX2_readDigits_42 rfl (lv_at hl 0 rfl) ?_
      obtain ⟨ca, hf⟩ := m_chkE hf
      replace ca := z_in hM (by decide) ca
      refine z_get (k := 2) (j := 4) (C := RX2) (T := TX2) (N := 12) (fl := zf_2) (v := .int (zI o3.2 4 x0)) X hw_X2_readDigits_2 hM rfl zc_2 ca (by decide) fl_X2_readDigits_2_4 rfl dX2_readDigits_43 ?_
      clear ca
      obtain ⟨ca, hf⟩ := m_chkE hf
      replace ca := z_in hM (by decide) ca
      obtain ⟨o6, ho, hf⟩ := m_calE hf
      refine z_callVi (k := 6) (C := RX6) (T := TX6) (N := 2) (fl := zf_6) X hM rfl zc_6 ca (c_X6_at ho) gX2_readDigits_X6_at rfl ⟨rfl, rfl⟩ hd_X6_at ⟨Nat.le_of_ble_eq_true rfl, Nat.le_of_ble_eq_true rfl⟩ rfl hl.1 rfl (Nat.le_of_ble_eq_true rfl) dX2_readDigits_46 (fun H locs hM => ?_)
      clear ho
      refine lv_iadd hx hb dX2_readDigits_49 ?_
      obtain ⟨v7, ev, hf⟩ := m_bndE hf
      refine m_top ev ?_
      clear ev
      refine lv_bipush (v := (48 : Int32)) hx hb dX2_readDigits_50 (by decide) ?_
      refine lv_isub hx hb dX2_readDigits_52 ?_
      obtain ⟨v8, ev, hf⟩ := m_bndE hf
      refine m_top ev ?_
      clear ev
      refine lv_istore_n (lv' := [(3, .int v8), (0, .ref (zh y x0)), (2, .int x2)]) hx hb dX2_readDigits_53 rfl hl (by decide) rfl (fun ls hl => ?_)
      refine lv_aload_n hx hb dX2_readDigits_54 rfl (lv_at hl 1 rfl) ?_
      refine lv_dup hx hb dX2_readDigits_55 rfl ?_
      obtain ⟨ca, hf⟩ := m_chkE hf
      replace ca := z_in hM (by decide) ca
      refine z_get (k := 2) (j := 4) (C := RX2) (T := TX2) (N := 12) (fl := zf_2) (v := .int (zI o6.2 4 x0)) X hw_X2_readDigits_2 hM rfl zc_2 ca (by decide) fl_X2_readDigits_2_4 rfl dX2_readDigits_56 ?_
      clear ca
      refine lv_iconst (v := (1 : Int32)) hx hb dX2_readDigits_59 (by decide) ?_
      refine lv_iadd hx hb dX2_readDigits_60 ?_
      obtain ⟨v9, ev, hf⟩ := m_bndE hf
      refine m_top ev ?_
      clear ev
      obtain ⟨ca, hf⟩ := m_chkE hf
      replace ca := z_in hM (by decide) ca
      refine z_putI (k := 2) (j := 4) (C := RX2) (T := TX2) (N := 12) (fl := zf_2) (ty := .int) X hw_X2_readDigits_2 tyX2_ok nmX2 hM rfl zc_2 ca (by decide) fl_X2_readDigits_2_4 rfl (tyX2_ok 4 (by decide)) rfl rfl zi_2_4 (Nat.le_of_ble_eq_true rfl) dX2_readDigits_61 (fun H locs hM => ?_)
      clear ca
      obtain ⟨S10, ev, hf⟩ := m_bndE hf
      replace hM := z_hS hM ev
      clear ev
      refine lv_goto (tgt := 9) hx hb dX2_readDigits_64 (by decide) ?_
      exact hself9 x0 x2 v8 _ _ _ _ hf hM (lv_sub hl [1, 2, 0] rfl)
noncomputable def f_X2_readDigits_9 : Nat → Nat → Int32 → Int32 → ZS → Option (Int32 × ZS)
  | 0 => fun _ _ _ _ => none
  | n + 1 => f_X2_readDigits_9s (f_X2_readDigits_9 n)
theorem w_X2_readDigits_9 {p : Program} {l : Launch} {e : Env} {s : State} {m : MethodId} {args : Array Value} {below : List Frame} {meth : Method} {c : Code} {Q : State → Prop} {D : va_G} {y : Nat → ClassId} {A0 : Nat → Prop} {o : Int32 × ZS} (X : CallFix p m c cX2_readDigits 4 s args wsX2_readDigits RX2) (hret : zRi p l e ({ frames := 1, cells := 0, slots := 0, locals := 21 } : Room) s m args below meth c Q cX2_readDigits D y A0 .int o) (n : Nat) : ∀ (x0 : Nat) (x2 : Int32) (x3 : Int32) (S : ZS) (H : Heap) (locs : List Loc) (ls : Array Slot), f_X2_readDigits_9 n x0 x2 x3 S = some o → zH D y A0 s H locs S → lv_has ls 4 [(0, .ref (zh y x0)), (2, .int x2), (3, .int x3)] → W p l e ({ frames := 1, cells := 0, slots := 0, locals := 21 } : Room) s m args below meth c H locs 0 0 Q (F0 m 9 ls []) := by
  induction n with
  | zero => intro x0 x2 x3 S H locs ls hf; cases hf
  | succ n ih => intro x0 x2 x3 S H locs ls hf hM hl; exact ws_X2_readDigits_9 X hret (self9 := f_X2_readDigits_9 n) ih hf hM hl
noncomputable def f_X2_readDigits_0 (x0 : Nat) (x1 : Int32) (S : ZS) : Option (Int32 × ZS) :=
  m_chk (zK S x0 = 2) (
  m_bnd ((zI S 4 x0) + x1) (fun v1 =>
  f_X2_readDigits_9 mFuel x0 v1 (0 : Int32) S))

set_option maxRecDepth 100000 in
set_option maxHeartbeats 4000000 in
theorem w_X2_readDigits_0 {p : Program} {l : Launch} {e : Env} {s : State} {m : MethodId} {args : Array Value} {below : List Frame} {meth : Method} {c : Code} {Q : State → Prop} {D : va_G} {y : Nat → ClassId} {A0 : Nat → Prop} {o : Int32 × ZS} (X : CallFix p m c cX2_readDigits 4 s args wsX2_readDigits RX2) (hret : zRi p l e ({ frames := 1, cells := 0, slots := 0, locals := 21 } : Room) s m args below meth c Q cX2_readDigits D y A0 .int o) {x0 : Nat} {x1 : Int32} {S : ZS} {H : Heap} {locs : List Loc} {ls : Array Slot} (hf : f_X2_readDigits_0 x0 x1 S = some o) (hM : zH D y A0 s H locs S) (hl : lv_has ls 4 [(0, .ref (zh y x0)), (1, .int x1)]) : W p l e ({ frames := 1, cells := 0, slots := 0, locals := 21 } : Room) s m args below meth c H locs 0 0 Q (F0 m 0 ls []) := by
  obtain ⟨hx, hb, hml, hown, hts⟩ := id X
  unfold f_X2_readDigits_0 at hf
  refine lv_aload_n hx hb dX2_readDigits_0 rfl (lv_at hl 0 rfl) ?_
  obtain ⟨ca, hf⟩ := m_chkE hf
  replace ca := z_in hM (by decide) ca
  refine z_get (k := 2) (j := 4) (C := RX2) (T := TX2) (N := 12) (fl := zf_2) (v := .int (zI S 4 x0)) X hw_X2_readDigits_2 hM rfl zc_2 ca (by decide) fl_X2_readDigits_2_4 rfl dX2_readDigits_1 ?_
  clear ca
  refine lv_iload_n hx hb dX2_readDigits_4 rfl (lv_at hl 1 rfl) ?_
  refine lv_iadd hx hb dX2_readDigits_5 ?_
  obtain ⟨v1, ev, hf⟩ := m_bndE hf
  refine m_top ev ?_
  clear ev
  refine lv_istore_n (lv' := [(2, .int v1), (0, .ref (zh y x0)), (1, .int x1)]) hx hb dX2_readDigits_6 rfl hl (by decide) rfl (fun ls hl => ?_)
  refine lv_iconst (v := (0 : Int32)) hx hb dX2_readDigits_7 (by decide) ?_
  refine lv_istore_n (lv' := [(3, .int (0 : Int32)), (2, .int v1), (0, .ref (zh y x0)), (1, .int x1)]) hx hb dX2_readDigits_8 rfl hl (by decide) rfl (fun ls hl => ?_)
  exact w_X2_readDigits_9 X hret _ x0 v1 (0 : Int32) _ _ _ _ hf hM (lv_sub hl [2, 1, 0] rfl)
noncomputable def f_X2_readDigits (x0 : Nat) (x1 : Int32) (S : ZS) : Option (Int32 × ZS) := f_X2_readDigits_0 x0 x1 S
theorem c_X2_readDigits {l : Launch} {D : va_G} {y : Nat → ClassId} {x0 : Nat} {x1 : Int32} {S : ZS} {o : Int32 × ZS} (hf : f_X2_readDigits x0 x1 S = some o) : zMi l yX2_readDigits wsX2_readDigits ({ frames := 1, cells := 0, slots := 0, locals := 21 } : Room) [.ref (zh y x0), .int x1] D y S o :=
  z_entryI (own := RX2) (cc := cX2_readDigits) (maxL := 4) (by decide) rfl rfl (Nat.le_of_ble_eq_true rfl) (fun p e s m args below meth c A0 Q H locs ls X hret hM hl => w_X2_readDigits_0 X hret hf hM (lv_sub hl [0, 1] rfl))
theorem hd_X2_readNumber : yX2_readNumber.cls = RX2 ∧ yX2_readNumber.cls ≠ "java/lang/invoke/MethodHandle" ∧ yX2_readNumber.cls ≠ "java/lang/invoke/VarHandle" ∧ (parseMethodDescriptor yX2_readNumber.desc).map (fun d => d.parameters.length) = some 1 := by decide +kernel
theorem fl_X2_readNumber_2_2 : Cond.fieldLink RX2 28 "MoveTexts$GameReader" "text" "LMoveTexts$Row;" ∈ wsX2_readNumber := by decide +kernel
theorem fl_X2_readNumber_2_4 : Cond.fieldLink RX2 39 "MoveTexts$GameReader" "at" "I" ∈ wsX2_readNumber := by decide +kernel
theorem hw_X2_readNumber_2 : ∀ w ∈ wsX20, w ∈ wsX2_readNumber := by decide +kernel
noncomputable def f_X2_readNumber_78 (t0 : Int32) (S : ZS) : Option (Int32 × ZS) :=
  m_chk (vp_nar .boolean t0 = t0) (some (t0, S))

set_option maxRecDepth 100000 in
set_option maxHeartbeats 4000000 in
theorem w_X2_readNumber_78 {p : Program} {l : Launch} {e : Env} {s : State} {m : MethodId} {args : Array Value} {below : List Frame} {meth : Method} {c : Code} {Q : State → Prop} {D : va_G} {y : Nat → ClassId} {A0 : Nat → Prop} {o : Int32 × ZS} (X : CallFix p m c cX2_readNumber 4 s args wsX2_readNumber RX2) (hret : zRi p l e ({ frames := 2, cells := 0, slots := 0, locals := 44 } : Room) s m args below meth c Q cX2_readNumber D y A0 .boolean o) {t0 : Int32} {S : ZS} {H : Heap} {locs : List Loc} {ls : Array Slot} (hf : f_X2_readNumber_78 t0 S = some o) (hM : zH D y A0 s H locs S) (hl : lv_has ls 4 []) : W p l e ({ frames := 2, cells := 0, slots := 0, locals := 44 } : Room) s m args below meth c H locs 0 0 Q (F0 m 78 ls [.int t0]) := by
  obtain ⟨hx, hb, hml, hown, hts⟩ := id X
  unfold f_X2_readNumber_78 at hf
  obtain ⟨cd, hf⟩ := m_chkE hf
  cases hf
  exact hret H locs _ ls hM (m_nb cd) dX2_readNumber_78
noncomputable def f_X2_readNumber_73 (S : ZS) : Option (Int32 × ZS) :=
  f_X2_readNumber_78 (1 : Int32) S

set_option maxRecDepth 100000 in
set_option maxHeartbeats 4000000 in
theorem w_X2_readNumber_73 {p : Program} {l : Launch} {e : Env} {s : State} {m : MethodId} {args : Array Value} {below : List Frame} {meth : Method} {c : Code} {Q : State → Prop} {D : va_G} {y : Nat → ClassId} {A0 : Nat → Prop} {o : Int32 × ZS} (X : CallFix p m c cX2_readNumber 4 s args wsX2_readNumber RX2) (hret : zRi p l e ({ frames := 2, cells := 0, slots := 0, locals := 44 } : Room) s m args below meth c Q cX2_readNumber D y A0 .boolean o) {S : ZS} {H : Heap} {locs : List Loc} {ls : Array Slot} (hf : f_X2_readNumber_73  S = some o) (hM : zH D y A0 s H locs S) (hl : lv_has ls 4 []) : W p l e ({ frames := 2, cells := 0, slots := 0, locals := 44 } : Room) s m args below meth c H locs 0 0 Q (F0 m 73 ls []) := by
  obtain ⟨hx, hb, hml, hown, hts⟩ := id X
  unfold f_X2_readNumber_73 at hf
  refine lv_iconst (v := (1 : Int32)) hx hb dX2_readNumber_73 (by decide) ?_
  refine lv_goto (tgt := 78) hx hb dX2_readNumber_74 (by decide) ?_
  exact w_X2_readNumber_78 (t0 := (1 : Int32)) X hret hf hM (lv_sub hl [] rfl)
noncomputable def f_X2_readNumber_54 (x0 : Nat) (x1 : Int32) (x2 : Int32) (x3 : Int32) (S : ZS) : Option (Int32 × ZS) :=
  m_chk (zK S x0 = 2) (
  m_cal (f_X2_skipBlanks x0 S) (fun o1 =>
  m_if (x3 = x1) (
  f_X2_readNumber_73  o1.2
  ) (
  m_chk (zK o1.2 x0 = 2) (
  m_cal (f_X2_refuse x0 (7 : Int32) x2 o1.2) (fun o2 =>
  m_if (o2.1 = 0) (
  f_X2_readNumber_78 (0 : Int32) o2.2
  ) (
  f_X2_readNumber_73  o2.2
  )))
  )))

set_option maxRecDepth 100000 in
set_option maxHeartbeats 4000000 in
theorem w_X2_readNumber_54 {p : Program} {l : Launch} {e : Env} {s : State} {m : MethodId} {args : Array Value} {below : List Frame} {meth : Method} {c : Code} {Q : State → Prop} {D : va_G} {y : Nat → ClassId} {A0 : Nat → Prop} {o : Int32 × ZS} (X : CallFix p m c cX2_readNumber 4 s args wsX2_readNumber RX2) (hret : zRi p l e ({ frames := 2, cells := 0, slots := 0, locals := 44 } : Room) s m args below meth c Q cX2_readNumber D y A0 .boolean o) {x0 : Nat} {x1 : Int32} {x2 : Int32} {x3 : Int32} {S : ZS} {H : Heap} {locs : List Loc} {ls : Array Slot} (hf : f_X2_readNumber_54 x0 x1 x2 x3 S = some o) (hM : zH D y A0 s H locs S) (hl : lv_has ls 4 [(0, .ref (zh y x0)), (1, .int x1), (2, .int x2), (3, .int x3)]) : W p l e ({ frames := 2, cells := 0, slots := 0, locals := 44 } : Room) s m args below meth c H locs 0 0 Q (F0 m 54 ls []) := by
  obtain ⟨hx, hb, hml, hown, hts⟩ := id X
  unfold f_X2_readNumber_54 at hf
  refine lv_aload_n hx hb dX2_readNumber_54 rfl (lv_at hl 0 rfl) ?_
  obtain ⟨ca, hf⟩ := m_chkE hf
  replace ca := z_in hM (by decide) ca
  obtain ⟨o1, ho, hf⟩ := m_calE hf
  refine z_callVv (k := 2) (C := RX2) (T := TX2) (N := 12) (fl := zf_2) X hM rfl zc_2 ca (c_X2_skipBlanks ho) gX2_readNumber_X2_skipBlanks rfl ⟨rfl, rfl⟩ hd_X2_skipBlanks ⟨Nat.le_of_ble_eq_true rfl, Nat.le_of_ble_eq_true rfl⟩ rfl hl.1 rfl (Nat.le_of_ble_eq_true rfl) dX2_readNumber_55 (fun H locs hM => ?_)
  clear ho
  refine lv_iload_n hx hb dX2_readNumber_58 rfl (lv_at hl 3 rfl) ?_
  refine lv_iload_n hx hb dX2_readNumber_59 rfl (lv_at hl 1 rfl) ?_
  refine lv_icmp_eq (tgt := 73) hx hb dX2_readNumber_60 (by decide) (fun cc1 => ?_) (fun cc1 => ?_)
  · replace hf := m_ifT hf cc1
    exact w_X2_readNumber_73 X hret hf hM (lv_sub hl [] rfl)
  · replace hf := m_ifF hf cc1
    refine lv_aload_n hx hb dX2_readNumber_63 rfl (lv_at hl 0 rfl) ?_
    refine lv_bipush (v := (7 : Int32)) hx hb dX2_readNumber_64 (by decide) ?_
    refine lv_iload_n hx hb dX2_readNumber_66 rfl (lv_at hl 2 rfl) ?_
    obtain ⟨ca, hf⟩ := m_chkE hf
    replace ca := z_in hM (by decide) ca
    obtain ⟨o2, ho, hf⟩ := m_calE hf
    refine z_callVi (k := 2) (C := RX2) (T := TX2) (N := 12) (fl := zf_2) X hM rfl zc_2 ca (c_X2_refuse ho) gX2_readNumber_X2_refuse rfl ⟨rfl, rfl⟩ hd_X2_refuse ⟨Nat.le_of_ble_eq_true rfl, Nat.le_of_ble_eq_true rfl⟩ rfl hl.1 rfl (Nat.le_of_ble_eq_true rfl) dX2_readNumber_67 (fun H locs hM => ?_)
    clear ho
    refine lv_if_eq (tgt := 77) hx hb dX2_readNumber_70 (by decide) (fun cc1 => ?_) (fun cc1 => ?_)
    · replace hf := m_ifT hf cc1
      refine lv_iconst (v := (0 : Int32)) hx hb dX2_readNumber_77 (by decide) ?_
      exact w_X2_readNumber_78 (t0 := (0 : Int32)) X hret hf hM (lv_sub hl [] rfl)
    · replace hf := m_ifF hf cc1
      exact w_X2_readNumber_73 X hret hf hM (lv_sub hl [] rfl)
noncomputable def f_X2_readNumber_11s (self11 : Nat → Int32 → Int32 → Int32 → ZS → Option (Int32 × ZS)) (x0 : Nat) (x1 : Int32) (x2 : Int32) (x3 : Int32) (S : ZS) : Option (Int32 × ZS) :=
  m_chk (zK S x0 = 2) (
  m_chk (zK S x0 = 2) (
  m_cal (zP S 2 x0) (fun b1 =>
  m_chk (zK S b1 = 6) (
  m_cal (f_X6_size b1 S) (fun o2 =>
  m_if (o2.1 ≤ (zI S 4 x0)) (
  f_X2_readNumber_54 x0 x1 x2 x3 o2.2
  ) (
  m_chk (zK o2.2 x0 = 2) (
  m_cal (zP o2.2 2 x0) (fun b3 =>
  m_chk (zK o2.2 x0 = 2) (
  m_chk (zK o2.2 b3 = 6) (
  m_cal (f_X6_at b3 (zI o2.2 4 x0) o2.2) (fun o4 =>
  m_if (o4.1 = (46 : Int32)) (
  m_chk (zK o4.2 x0 = 2) (
  m_bnd ((zI o4.2 4 x0) + (1 : Int32)) (fun v5 =>
  m_chk (zK o4.2 x0 = 2) (
  m_bnd (zsI o4.2 4 x0 v5) (fun S6 =>
  self11 x0 x1 x2 x3 S6))))
  ) (
  f_X2_readNumber_54 x0 x1 x2 x3 o4.2
  ))))))
  ))))))

set_option maxRecDepth 100000 in
set_option maxHeartbeats 4000000 in
theorem ws_X2_readNumber_11 {p : Program} {l : Launch} {e : Env} {s : State} {m : MethodId} {args : Array Value} {below : List Frame} {meth : Method} {c : Code} {Q : State → Prop} {D : va_G} {y : Nat → ClassId} {A0 : Nat → Prop} {o : Int32 × ZS} (X : CallFix p m c cX2_readNumber 4 s args wsX2_readNumber RX2) (hret : zRi p l e ({ frames := 2, cells := 0, slots := 0, locals := 44 } : Room) s m args below meth c Q cX2_readNumber D y A0 .boolean o) {self11 : Nat → Int32 → Int32 → Int32 → ZS → Option (Int32 × ZS)} (hself11 : ∀ (x0 : Nat) (x1 : Int32) (x2 : Int32) (x3 : Int32) (S : ZS) (H : Heap) (locs : List Loc) (ls : Array Slot), self11 x0 x1 x2 x3 S = some o → zH D y A0 s H locs S → lv_has ls 4 [(0, .ref (zh y x0)), (1, .int x1), (2, .int x2), (3, .int x3)] → W p l e ({ frames := 2, cells := 0, slots := 0, locals := 44 } : Room) s m args below meth c H locs 0 0 Q (F0 m 11 ls [])) {x0 : Nat} {x1 : Int32} {x2 : Int32} {x3 : Int32} {S : ZS} {H : Heap} {locs : List Loc} {ls : Array Slot} (hf : f_X2_readNumber_11s self11 x0 x1 x2 x3 S = some o) (hM : zH D y A0 s H locs S) (hl : lv_has ls 4 [(0, .ref (zh y x0)), (1, .int x1), (2, .int x2), (3, .int x3)]) : W p l e ({ frames := 2, cells := 0, slots := 0, locals := 44 } : Room) s m args below meth c H locs 0 0 Q (F0 m 11 ls []) := by
  obtain ⟨hx, hb, hml, hown, hts⟩ := id X
  unfold f_X2_readNumber_11s at hf
  refine lv_aload_n hx hb dX2_readNumber_11 rfl (lv_at hl 0 rfl) ?_
  obtain ⟨ca, hf⟩ := m_chkE hf
  replace ca := z_in hM (by decide) ca
  refine z_get (k := 2) (j := 4) (C := RX2) (T := TX2) (N := 12) (fl := zf_2) (v := .int (zI S 4 x0)) X hw_X2_readNumber_2 hM rfl zc_2 ca (by decide) fl_X2_readNumber_2_4 rfl dX2_readNumber_12 ?_
  clear ca
  refine lv_aload_n hx hb dX2_readNumber_15 rfl (lv_at hl 0 rfl) ?_
  obtain ⟨ca, hf⟩ := m_chkE hf
  replace ca := z_in hM (by decide) ca
  refine z_get (k := 2) (j := 2) (C := RX2) (T := TX2) (N := 12) (fl := zf_2) (v := va_rf ((zP S 2 x0).map (zh y))) X hw_X2_readNumber_2 hM rfl zc_2 ca (by decide) fl_X2_readNumber_2_2 rfl dX2_readNumber_16 ?_
  clear ca
  obtain ⟨b1, hb9, hf⟩ := m_calE hf
  refine z_topr hb9 ?_
  clear hb9
  obtain ⟨ca, hf⟩ := m_chkE hf
  replace ca := z_in hM (by decide) ca
  obtain ⟨o2, ho, hf⟩ := m_calE hf
  refine z_callVi (k := 6) (C := RX6) (T := TX6) (N := 2) (fl := zf_6) X hM rfl zc_6 ca (c_X6_size ho) gX2_readNumber_X6_size rfl ⟨rfl, rfl⟩ hd_X6_size ⟨Nat.le_of_ble_eq_true rfl, Nat.le_of_ble_eq_true rfl⟩ rfl hl.1 rfl (Nat.le_of_ble_eq_true rfl) dX2_readNumber_19 (fun H locs hM => ?_)
  clear ho
  refine lv_icmp_ge (tgt := 54) hx hb dX2_readNumber_22 (by decide) (fun cc1 => ?_) (fun cc1 => ?_)
  · replace hf := m_ifT hf cc1
    exact w_X2_readNumber_54 (x0 := x0) (x1 := x1) (x2 := x2) (x3 := x3) X hret hf hM (lv_sub hl [0, 1, 2, 3] rfl)
  · replace hf := m_ifF hf cc1
    refine lv_aload_n hx hb dX2_readNumber_25 rfl (lv_at hl 0 rfl) ?_
    obtain ⟨ca, hf⟩ := m_chkE hf
    replace ca := z_in hM (by decide) ca
    refine z_get (k := 2) (j := 2) (C := RX2) (T := TX2) (N := 12) (fl := zf_2) (v := va_rf ((zP o2.2 2 x0).map (zh y))) X hw_X2_readNumber_2 hM rfl zc_2 ca (by decide) fl_X2_readNumber_2_2 rfl dX2_readNumber_26 ?_
    clear ca
    obtain ⟨b3, hb9, hf⟩ := m_calE hf
    refine z_topr hb9 ?_
    clear hb9
    refine lv_aload_n hx hb dX2_readNumber_29 rfl (lv_at hl 0 rfl) ?_
    obtain ⟨ca, hf⟩ := m_chkE hf
    replace ca := z_in hM (by decide) ca
    refine z_get (k := 2) (j := 4) (C := RX2) (T := TX2) (N := 12) (fl := zf_2) (v := .int (zI o2.2 4 x0)) X hw_X2_readNumber_2 hM rfl zc_2 ca (by decide) fl_X2_readNumber_2_4 rfl dX2_readNumber_30 ?_
    clear ca
    obtain ⟨ca, hf⟩ := m_chkE hf
    replace ca := z_in hM (by decide) ca
    obtain ⟨o4, ho, hf⟩ := m_calE hf
    refine z_callVi (k := 6) (C := RX6) (T := TX6) (N := 2) (fl := zf_6) X hM rfl zc_6 ca (c_X6_at ho) gX2_readNumber_X6_at rfl ⟨rfl, rfl⟩ hd_X6_at ⟨Nat.le_of_ble_eq_true rfl, Nat.le_of_ble_eq_true rfl⟩ rfl hl.1 rfl (Nat.le_of_ble_eq_true rfl) dX2_readNumber_33 (fun H locs hM => ?_)
    clear ho
    refine lv_bipush (v := (46 : Int32)) hx hb dX2_readNumber_36 (by decide) ?_
    refine lv_icmp_ne (tgt := 54) hx hb dX2_readNumber_38 (by decide) (fun cc1 => ?_) (fun cc1 => ?_)
    · replace hf := m_ifF hf cc1
      exact w_X2_readNumber_54 (x0 := x0) (x1 := x1) (x2 := x2) (x3 := x3) X hret hf hM (lv_sub hl [0, 1, 2, 3] rfl)
    · replace hf := m_ifT hf cc1
      refine lv_aload_n hx hb dX2_readNumber_41 rfl (lv_at hl 0 rfl) ?_
      refine lv_dup hx hb dX2_readNumber_42 rfl ?_
      obtain ⟨ca, hf⟩ := m_chkE hf
      replace ca := z_in hM (by decide) ca
      refine z_get (k := 2) (j := 4) (C := RX2) (T := TX2) (N := 12) (fl := zf_2) (v := .int (zI o4.2 4 x0)) X hw_X2_readNumber_2 hM rfl zc_2 ca (by decide) fl_X2_readNumber_2_4 rfl dX2_readNumber_43 ?_
      clear ca
      refine lv_iconst (v := (1 : Int32)) hx hb dX2_readNumber_46 (by decide) ?_
      refine lv_iadd hx hb dX2_readNumber_47 ?_
      obtain ⟨v5, ev, hf⟩ := m_bndE hf
      refine m_top ev ?_
      clear ev
      obtain ⟨ca, hf⟩ := m_chkE hf
      replace ca := z_in hM (by decide) ca
      refine z_putI (k := 2) (j := 4) (C := RX2) (T := TX2) (N := 12) (fl := zf_2) (ty := .int) X hw_X2_readNumber_2 tyX2_ok nmX2 hM rfl zc_2 ca (by decide) fl_X2_readNumber_2_4 rfl (tyX2_ok 4 (by decide)) rfl rfl zi_2_4 (Nat.le_of_ble_eq_true rfl) dX2_readNumber_48 (fun H locs hM => ?_)
      clear ca
      obtain ⟨S6, ev, hf⟩ := m_bndE hf
      replace hM := z_hS hM ev
      clear ev
      refine lv_goto (tgt := 11) hx hb dX2_readNumber_51 (by decide) ?_
      exact hself11 x0 x1 x2 x3 _ _ _ _ hf hM (lv_sub hl [0, 1, 2, 3] rfl)
noncomputable def f_X2_readNumber_11 : Nat → Nat → Int32 → Int32 → Int32 → ZS → Option (Int32 × ZS)
  | 0 => fun _ _ _ _ _ => none
  | n + 1 => f_X2_readNumber_11s (f_X2_readNumber_11 n)
theorem w_X2_readNumber_11 {p : Program} {l : Launch} {e : Env} {s : State} {m : MethodId} {args : Array Value} {below : List Frame} {meth : Method} {c : Code} {Q : State → Prop} {D : va_G} {y : Nat → ClassId} {A0 : Nat → Prop} {o : Int32 × ZS} (X : CallFix p m c cX2_readNumber 4 s args wsX2_readNumber RX2) (hret : zRi p l e ({ frames := 2, cells := 0, slots := 0, locals := 44 } : Room) s m args below meth c Q cX2_readNumber D y A0 .boolean o) (n : Nat) : ∀ (x0 : Nat) (x1 : Int32) (x2 : Int32) (x3 : Int32) (S : ZS) (H : Heap) (locs : List Loc) (ls : Array Slot), f_X2_readNumber_11 n x0 x1 x2 x3 S = some o → zH D y A0 s H locs S → lv_has ls 4 [(0, .ref (zh y x0)), (1, .int x1), (2, .int x2), (3, .int x3)] → W p l e ({ frames := 2, cells := 0, slots := 0, locals := 44 } : Room) s m args below meth c H locs 0 0 Q (F0 m 11 ls []) := by
  induction n with
  | zero => intro x0 x1 x2 x3 S H locs ls hf; cases hf
  | succ n ih => intro x0 x1 x2 x3 S H locs ls hf hM hl; exact ws_X2_readNumber_11 X hret (self11 := f_X2_readNumber_11 n) ih hf hM hl
noncomputable def f_X2_readNumber_0 (x0 : Nat) (x1 : Int32) (S : ZS) : Option (Int32 × ZS) :=
  m_chk (zK S x0 = 2) (
  m_chk (zK S x0 = 2) (
  m_cal (f_X2_readDigits x0 (4 : Int32) S) (fun o1 =>
  f_X2_readNumber_11 mFuel x0 x1 (zI S 4 x0) o1.1 o1.2)))

set_option maxRecDepth 100000 in
set_option maxHeartbeats 4000000 in
theorem w_X2_readNumber_0 {p : Program} {l : Launch} {e : Env} {s : State} {m : MethodId} {args : Array Value} {below : List Frame} {meth : Method} {c : Code} {Q : State → Prop} {D : va_G} {y : Nat → ClassId} {A0 : Nat → Prop} {o : Int32 × ZS} (X : CallFix p m c cX2_readNumber 4 s args wsX2_readNumber RX2) (hret : zRi p l e ({ frames := 2, cells := 0, slots := 0, locals := 44 } : Room) s m args below meth c Q cX2_readNumber D y A0 .boolean o) {x0 : Nat} {x1 : Int32} {S : ZS} {H : Heap} {locs : List Loc} {ls : Array Slot} (hf : f_X2_readNumber_0 x0 x1 S = some o) (hM : zH D y A0 s H locs S) (hl : lv_has ls 4 [(0, .ref (zh y x0)), (1, .int x1)]) : W p l e ({ frames := 2, cells := 0, slots := 0, locals := 44 } : Room) s m args below meth c H locs 0 0 Q (F0 m 0 ls []) := by
  obtain ⟨hx, hb, hml, hown, hts⟩ := id X
  unfold f_X2_readNumber_0 at hf
  refine lv_aload_n hx hb dX2_readNumber_0 rfl (lv_at hl 0 rfl) ?_
  obtain ⟨ca, hf⟩ := m_chkE hf
  replace ca := z_in hM (by decide) ca
  refine z_get (k := 2) (j := 4) (C := RX2) (T := TX2) (N := 12) (fl := zf_2) (v := .int (zI S 4 x0)) X hw_X2_readNumber_2 hM rfl zc_2 ca (by decide) fl_X2_readNumber_2_4 rfl dX2_readNumber_1 ?_
  clear ca
  refine lv_istore_n (lv' := [(2, .int (zI S 4 x0)), (0, .ref (zh y x0)), (1, .int x1)]) hx hb dX2_readNumber_4 rfl hl (by decide) rfl (fun ls hl => ?_)
  refine lv_aload_n hx hb dX2_readNumber_5 rfl (lv_at hl 1 rfl) ?_
  refine lv_iconst (v := (4 : Int32)) hx hb dX2_readNumber_6 (by decide) ?_
  obtain ⟨ca, hf⟩ := m_chkE hf
  replace ca := z_in hM (by decide) ca
  obtain ⟨o1, ho, hf⟩ := m_calE hf
  refine z_callVi (k := 2) (C := RX2) (T := TX2) (N := 12) (fl := zf_2) X hM rfl zc_2 ca (c_X2_readDigits ho) gX2_readNumber_X2_readDigits rfl ⟨rfl, rfl⟩ hd_X2_readDigits ⟨Nat.le_of_ble_eq_true rfl, Nat.le_of_ble_eq_true rfl⟩ rfl hl.1 rfl (Nat.le_of_ble_eq_true rfl) dX2_readNumber_7 (fun H locs hM => ?_)
  clear ho
  refine lv_istore_n (lv' := [(3, .int o1.1), (2, .int (zI S 4 x0)), (0, .ref (zh y x0)), (1, .int x1)]) hx hb dX2_readNumber_10 rfl hl (by decide) rfl (fun ls hl => ?_)
  exact w_X2_readNumber_11 X hret _ x0 x1 (zI S 4 x0) o1.1 _ _ _ _ hf hM (lv_sub hl [2, 3, 1, 0] rfl)
noncomputable def f_X2_readNumber (x0 : Nat) (x1 : Int32) (S : ZS) : Option (Int32 × ZS) := f_X2_readNumber_0 x0 x1 S
theorem c_X2_readNumber {l : Launch} {D : va_G} {y : Nat → ClassId} {x0 : Nat} {x1 : Int32} {S : ZS} {o : Int32 × ZS} (hf : f_X2_readNumber x0 x1 S = some o) : zMi l yX2_readNumber wsX2_readNumber ({ frames := 2, cells := 0, slots := 0, locals := 44 } : Room) [.ref (zh y x0), .int x1] D y S o :=
  z_entryI (own := RX2) (cc := cX2_readNumber) (maxL := 4) (by decide) rfl rfl (Nat.le_of_ble_eq_true rfl) (fun p e s m args below meth c A0 Q H locs ls X hret hM hl => w_X2_readNumber_0 X hret hf hM (lv_sub hl [0, 1] rfl))
theorem hd_X2_isSign : yX2_isSign.cls ≠ "java/lang/invoke/MethodHandle" ∧ yX2_isSign.cls ≠ "java/lang/invoke/VarHandle" ∧ (parseMethodDescriptor yX2_isSign.desc).map (fun d => d.parameters.length) = some 1 := by decide +kernel
theorem nn_X2_isSign_132 : ((RX2, 132, yX11_isLetter, "MoveTexts") ∈ zNW ∧ Cond.initialized yX11_isLetter.cls ∈ wsX2_isSign) ∧ Cond.static yX11_isLetter ∈ wsX2_isSign := by decide +kernel
theorem nn_X2_isSign_136 : ((RX2, 136, yX11_isDigit, "MoveTexts") ∈ zNW ∧ Cond.initialized yX11_isDigit.cls ∈ wsX2_isSign) ∧ Cond.static yX11_isDigit ∈ wsX2_isSign := by decide +kernel
noncomputable def f_X2_isSign_43 (t0 : Int32) (S : ZS) : Option (Int32 × ZS) :=
  m_chk (vp_nar .boolean t0 = t0) (some (t0, S))

set_option maxRecDepth 100000 in
set_option maxHeartbeats 4000000 in
theorem w_X2_isSign_43 {p : Program} {l : Launch} {e : Env} {s : State} {m : MethodId} {args : Array Value} {below : List Frame} {meth : Method} {c : Code} {Q : State → Prop} {D : va_G} {y : Nat → ClassId} {A0 : Nat → Prop} {o : Int32 × ZS} (X : CallFix p m c cX2_isSign 1 s args wsX2_isSign RX2) (hret : zRi p l e ({ frames := 1, cells := 0, slots := 0, locals := 20 } : Room) s m args below meth c Q cX2_isSign D y A0 .boolean o) {t0 : Int32} {S : ZS} {H : Heap} {locs : List Loc} {ls : Array Slot} (hf : f_X2_isSign_43 t0 S = some o) (hM : zH D y A0 s H locs S) (hl : lv_has ls 1 []) : W p l e ({ frames := 1, cells := 0, slots := 0, locals := 20 } : Room) s m args below meth c H locs 0 0 Q (F0 m 43 ls [.int t0]) := by
  obtain ⟨hx, hb, hml, hown, hts⟩ := id X
  unfold f_X2_isSign_43 at hf
  obtain ⟨cd, hf⟩ := m_chkE hf
  cases hf
  exact hret H locs _ ls hM (m_nb cd) dX2_isSign_43
noncomputable def f_X2_isSign_38 (S : ZS) : Option (Int32 × ZS) :=
  f_X2_isSign_43 (1 : Int32) S

set_option maxRecDepth 100000 in
set_option maxHeartbeats 4000000 in
theorem w_X2_isSign_38 {p : Program} {l : Launch} {e : Env} {s : State} {m : MethodId} {args : Array Value} {below : List Frame} {meth : Method} {c : Code} {Q : State → Prop} {D : va_G} {y : Nat → ClassId} {A0 : Nat → Prop} {o : Int32 × ZS} (X : CallFix p m c cX2_isSign 1 s args wsX2_isSign RX2) (hret : zRi p l e ({ frames := 1, cells := 0, slots := 0, locals := 20 } : Room) s m args below meth c Q cX2_isSign D y A0 .boolean o) {S : ZS} {H : Heap} {locs : List Loc} {ls : Array Slot} (hf : f_X2_isSign_38  S = some o) (hM : zH D y A0 s H locs S) (hl : lv_has ls 1 []) : W p l e ({ frames := 1, cells := 0, slots := 0, locals := 20 } : Room) s m args below meth c H locs 0 0 Q (F0 m 38 ls []) := by
  obtain ⟨hx, hb, hml, hown, hts⟩ := id X
  unfold f_X2_isSign_38 at hf
  refine lv_iconst (v := (1 : Int32)) hx hb dX2_isSign_38 (by decide) ?_
  refine lv_goto (tgt := 43) hx hb dX2_isSign_39 (by decide) ?_
  exact w_X2_isSign_43 (t0 := (1 : Int32)) X hret hf hM (lv_sub hl [] rfl)
noncomputable def f_X2_isSign_0 (x0 : Int32) (S : ZS) : Option (Int32 × ZS) :=
  m_cal (f_X11_isLetter x0 S) (fun o1 =>
  m_if (o1.1 = 0) (
  m_cal (f_X11_isDigit x0 o1.2) (fun o2 =>
  m_if (o2.1 = 0) (
  m_if (x0 = (61 : Int32)) (
  f_X2_isSign_38  o2.2
  ) (
  m_if (x0 = (45 : Int32)) (
  f_X2_isSign_38  o2.2
  ) (
  m_if (x0 = (43 : Int32)) (
  f_X2_isSign_38  o2.2
  ) (
  m_if (x0 = (35 : Int32)) (
  f_X2_isSign_38  o2.2
  ) (
  f_X2_isSign_43 (0 : Int32) o2.2
  )
  )
  )
  )
  ) (
  f_X2_isSign_38  o2.2
  ))
  ) (
  f_X2_isSign_38  o1.2
  ))

set_option maxRecDepth 100000 in
set_option maxHeartbeats 4000000 in
theorem w_X2_isSign_0 {p : Program} {l : Launch} {e : Env} {s : State} {m : MethodId} {args : Array Value} {below : List Frame} {meth : Method} {c : Code} {Q : State → Prop} {D : va_G} {y : Nat → ClassId} {A0 : Nat → Prop} {o : Int32 × ZS} (X : CallFix p m c cX2_isSign 1 s args wsX2_isSign RX2) (hret : zRi p l e ({ frames := 1, cells := 0, slots := 0, locals := 20 } : Room) s m args below meth c Q cX2_isSign D y A0 .boolean o) {x0 : Int32} {S : ZS} {H : Heap} {locs : List Loc} {ls : Array Slot} (hf : f_X2_isSign_0 x0 S = some o) (hM : zH D y A0 s H locs S) (hl : lv_has ls 1 [(0, .int x0)]) : W p l e ({ frames := 1, cells := 0, slots := 0, locals := 20 } : Room) s m args below meth c H locs 0 0 Q (F0 m 0 ls []) := by
  obtain ⟨hx, hb, hml, hown, hts⟩ := id X
  unfold f_X2_isSign_0 at hf
  refine lv_iload_n hx hb dX2_isSign_0 rfl (lv_at hl 0 rfl) ?_
  obtain ⟨o1, ho, hf⟩ := m_calE hf
  refine z_callSNi X hM (c_X11_isLetter ho) gX2_isSign_X11_isLetter_n132 nn_X2_isSign_132.1.1 nn_X2_isSign_132.1.2 nn_X2_isSign_132.2 rfl ⟨rfl, rfl⟩ hd_X11_isLetter ⟨Nat.le_of_ble_eq_true rfl, Nat.le_of_ble_eq_true rfl⟩ rfl hl.1 rfl (Nat.le_of_ble_eq_true rfl) dX2_isSign_1 (fun H locs hM => ?_)
  clear ho
  refine lv_if_ne (tgt := 38) hx hb dX2_isSign_4 (by decide) (fun cc1 => ?_) (fun cc1 => ?_)
  · replace hf := m_ifF hf cc1
    exact w_X2_isSign_38 X hret hf hM (lv_sub hl [] rfl)
  · replace hf := m_ifT hf cc1
    refine lv_iload_n hx hb dX2_isSign_7 rfl (lv_at hl 0 rfl) ?_
    obtain ⟨o2, ho, hf⟩ := m_calE hf
    refine z_callSNi X hM (c_X11_isDigit ho) gX2_isSign_X11_isDigit_n136 nn_X2_isSign_136.1.1 nn_X2_isSign_136.1.2 nn_X2_isSign_136.2 rfl ⟨rfl, rfl⟩ hd_X11_isDigit ⟨Nat.le_of_ble_eq_true rfl, Nat.le_of_ble_eq_true rfl⟩ rfl hl.1 rfl (Nat.le_of_ble_eq_true rfl) dX2_isSign_8 (fun H locs hM => ?_)
    clear ho
    refine lv_if_ne (tgt := 38) hx hb dX2_isSign_11 (by decide) (fun cc1 => ?_) (fun cc1 => ?_)
    · replace hf := m_ifF hf cc1
      exact w_X2_isSign_38 X hret hf hM (lv_sub hl [] rfl)
    · replace hf := m_ifT hf cc1
      refine lv_iload_n hx hb dX2_isSign_14 rfl (lv_at hl 0 rfl) ?_
      refine lv_bipush (v := (61 : Int32)) hx hb dX2_isSign_15 (by decide) ?_
      refine lv_icmp_eq (tgt := 38) hx hb dX2_isSign_17 (by decide) (fun cc1 => ?_) (fun cc1 => ?_)
      · replace hf := m_ifT hf cc1
        exact w_X2_isSign_38 X hret hf hM (lv_sub hl [] rfl)
      · replace hf := m_ifF hf cc1
        refine lv_iload_n hx hb dX2_isSign_20 rfl (lv_at hl 0 rfl) ?_
        refine lv_bipush (v := (45 : Int32)) hx hb dX2_isSign_21 (by decide) ?_
        refine lv_icmp_eq (tgt := 38) hx hb dX2_isSign_23 (by decide) (fun cc1 => ?_) (fun cc1 => ?_)
        · replace hf := m_ifT hf cc1
          exact w_X2_isSign_38 X hret hf hM (lv_sub hl [] rfl)
        · replace hf := m_ifF hf cc1
          refine lv_iload_n hx hb dX2_isSign_26 rfl (lv_at hl 0 rfl) ?_
          refine lv_bipush (v := (43 : Int32)) hx hb dX2_isSign_27 (by decide) ?_
          refine lv_icmp_eq (tgt := 38) hx hb dX2_isSign_29 (by decide) (fun cc1 => ?_) (fun cc1 => ?_)
          · replace hf := m_ifT hf cc1
            exact w_X2_isSign_38 X hret hf hM (lv_sub hl [] rfl)
          · replace hf := m_ifF hf cc1
            refine lv_iload_n hx hb dX2_isSign_32 rfl (lv_at hl 0 rfl) ?_
            refine lv_bipush (v := (35 : Int32)) hx hb dX2_isSign_33 (by decide) ?_
            refine lv_icmp_ne (tgt := 42) hx hb dX2_isSign_35 (by decide) (fun cc1 => ?_) (fun cc1 => ?_)
            · replace hf := m_ifF hf cc1
              refine lv_iconst (v := (0 : Int32)) hx hb dX2_isSign_42 (by decide) ?_
              exact w_X2_isSign_43 (t0 := (0 : Int32)) X hret hf hM (lv_sub hl [] rfl)
            · replace hf := m_ifT hf cc1
              exact w_X2_isSign_38 X hret hf hM (lv_sub hl [] rfl)
noncomputable def f_X2_isSign (x0 : Int32) (S : ZS) : Option (Int32 × ZS) := f_X2_isSign_0 x0 S
theorem c_X2_isSign {l : Launch} {D : va_G} {y : Nat → ClassId} {x0 : Int32} {S : ZS} {o : Int32 × ZS} (hf : f_X2_isSign x0 S = some o) : zMi l yX2_isSign wsX2_isSign ({ frames := 1, cells := 0, slots := 0, locals := 20 } : Room) [.int x0] D y S o :=
  z_entryI (own := RX2) (cc := cX2_isSign) (maxL := 1) (by decide) rfl rfl (Nat.le_of_ble_eq_true rfl) (fun p e s m args below meth c A0 Q H locs ls X hret hM hl => w_X2_isSign_0 X hret hf hM (lv_sub hl [0] rfl))
theorem hd_X2_skipSigns : yX2_skipSigns.cls = RX2 ∧ yX2_skipSigns.cls ≠ "java/lang/invoke/MethodHandle" ∧ yX2_skipSigns.cls ≠ "java/lang/invoke/VarHandle" ∧ (parseMethodDescriptor yX2_skipSigns.desc).map (fun d => d.parameters.length) = some 0 := by decide +kernel
theorem fl_X2_skipSigns_2_2 : Cond.fieldLink RX2 28 "MoveTexts$GameReader" "text" "LMoveTexts$Row;" ∈ wsX2_skipSigns := by decide +kernel
theorem fl_X2_skipSigns_2_4 : Cond.fieldLink RX2 39 "MoveTexts$GameReader" "at" "I" ∈ wsX2_skipSigns := by decide +kernel
theorem hw_X2_skipSigns_2 : ∀ w ∈ wsX20, w ∈ wsX2_skipSigns := by decide +kernel
noncomputable def f_X2_skipSigns_44 (S : ZS) : Option (Int32 × ZS) :=
  some (0, S)

set_option maxRecDepth 100000 in
set_option maxHeartbeats 4000000 in
theorem w_X2_skipSigns_44 {p : Program} {l : Launch} {e : Env} {s : State} {m : MethodId} {args : Array Value} {below : List Frame} {meth : Method} {c : Code} {Q : State → Prop} {D : va_G} {y : Nat → ClassId} {A0 : Nat → Prop} {o : Int32 × ZS} (X : CallFix p m c cX2_skipSigns 1 s args wsX2_skipSigns RX2) (hret : zRv p l e ({ frames := 2, cells := 0, slots := 0, locals := 40 } : Room) s m args below meth c Q cX2_skipSigns D y A0 o) {S : ZS} {H : Heap} {locs : List Loc} {ls : Array Slot} (hf : f_X2_skipSigns_44  S = some o) (hM : zH D y A0 s H locs S) (hl : lv_has ls 1 []) : W p l e ({ frames := 2, cells := 0, slots := 0, locals := 40 } : Room) s m args below meth c H locs 0 0 Q (F0 m 44 ls []) := by
  obtain ⟨hx, hb, hml, hown, hts⟩ := id X
  unfold f_X2_skipSigns_44 at hf
  cases hf
  exact hret H locs _ ls hM dX2_skipSigns_44
noncomputable def f_X2_skipSigns_0s (self0 : Nat → ZS → Option (Int32 × ZS)) (x0 : Nat) (S : ZS) : Option (Int32 × ZS) :=
  m_chk (zK S x0 = 2) (
  m_chk (zK S x0 = 2) (
  m_cal (zP S 2 x0) (fun b1 =>
  m_chk (zK S b1 = 6) (
  m_cal (f_X6_size b1 S) (fun o2 =>
  m_if (o2.1 ≤ (zI S 4 x0)) (
  f_X2_skipSigns_44  o2.2
  ) (
  m_chk (zK o2.2 x0 = 2) (
  m_cal (zP o2.2 2 x0) (fun b3 =>
  m_chk (zK o2.2 x0 = 2) (
  m_chk (zK o2.2 b3 = 6) (
  m_cal (f_X6_at b3 (zI o2.2 4 x0) o2.2) (fun o4 =>
  m_cal (f_X2_isSign o4.1 o4.2) (fun o5 =>
  m_if (o5.1 = 0) (
  f_X2_skipSigns_44  o5.2
  ) (
  m_chk (zK o5.2 x0 = 2) (
  m_bnd ((zI o5.2 4 x0) + (1 : Int32)) (fun v6 =>
  m_chk (zK o5.2 x0 = 2) (
  m_bnd (zsI o5.2 4 x0 v6) (fun S7 =>
  self0 x0 S7))))
  )))))))
  ))))))

set_option maxRecDepth 100000 in
set_option maxHeartbeats 4000000 in
theorem ws_X2_skipSigns_0 {p : Program} {l : Launch} {e : Env} {s : State} {m : MethodId} {args : Array Value} {below : List Frame} {meth : Method} {c : Code} {Q : State → Prop} {D : va_G} {y : Nat → ClassId} {A0 : Nat → Prop} {o : Int32 × ZS} (X : CallFix p m c cX2_skipSigns 1 s args wsX2_skipSigns RX2) (hret : zRv p l e ({ frames := 2, cells := 0, slots := 0, locals := 40 } : Room) s m args below meth c Q cX2_skipSigns D y A0 o) {self0 : Nat → ZS → Option (Int32 × ZS)} (hself0 : ∀ (x0 : Nat) (S : ZS) (H : Heap) (locs : List Loc) (ls : Array Slot), self0 x0 S = some o → zH D y A0 s H locs S → lv_has ls 1 [(0, .ref (zh y x0))] → W p l e ({ frames := 2, cells := 0, slots := 0, locals := 40 } : Room) s m args below meth c H locs 0 0 Q (F0 m 0 ls [])) {x0 : Nat} {S : ZS} {H : Heap} {locs : List Loc} {ls : Array Slot} (hf : f_X2_skipSigns_0s self0 x0 S = some o) (hM : zH D y A0 s H locs S) (hl : lv_has ls 1 [(0, .ref (zh y x0))]) : W p l e ({ frames := 2, cells := 0, slots := 0, locals := 40 } : Room) s m args below meth c H locs 0 0 Q (F0 m 0 ls []) := by
  obtain ⟨hx, hb, hml, hown, hts⟩ := id X
  unfold f_X2_skipSigns_0s at hf
  refine lv_aload_n hx hb dX2_skipSigns_0 rfl (lv_at hl 0 rfl) ?_
  obtain ⟨ca, hf⟩ := m_chkE hf
  replace ca := z_in hM (by decide) ca
  refine z_get (k := 2) (j := 4) (C := RX2) (T := TX2) (N := 12) (fl := zf_2) (v := .int (zI S 4 x0)) X hw_X2_skipSigns_2 hM rfl zc_2 ca (by decide) fl_X2_skipSigns_2_4 rfl dX2_skipSigns_1 ?_
  clear ca
  refine lv_aload_n hx hb dX2_skipSigns_4 rfl (lv_at hl 0 rfl) ?_
  obtain ⟨ca, hf⟩ := m_chkE hf
  replace ca := z_in hM (by decide) ca
  refine z_get (k := 2) (j := 2) (C := RX2) (T := TX2) (N := 12) (fl := zf_2) (v := va_rf ((zP S 2 x0).map (zh y))) X hw_X2_skipSigns_2 hM rfl zc_2 ca (by decide) fl_X2_skipSigns_2_2 rfl dX2_skipSigns_5 ?_
  clear ca
  obtain ⟨b1, hb9, hf⟩ := m_calE hf
  refine z_topr hb9 ?_
  clear hb9
  obtain ⟨ca, hf⟩ := m_chkE hf
  replace ca := z_in hM (by decide) ca
  obtain ⟨o2, ho, hf⟩ := m_calE hf
  refine z_callVi (k := 6) (C := RX6) (T := TX6) (N := 2) (fl := zf_6) X hM rfl zc_6 ca (c_X6_size ho) gX2_skipSigns_X6_size rfl ⟨rfl, rfl⟩ hd_X6_size ⟨Nat.le_of_ble_eq_true rfl, Nat.le_of_ble_eq_true rfl⟩ rfl hl.1 rfl (Nat.le_of_ble_eq_true rfl) dX2_skipSigns_8 (fun H locs hM => ?_)
  clear ho
  refine lv_icmp_ge (tgt := 44) hx hb dX2_skipSigns_11 (by decide) (fun cc1 => ?_) (fun cc1 => ?_)
  · replace hf := m_ifT hf cc1
    exact w_X2_skipSigns_44 X hret hf hM (lv_sub hl [] rfl)
  · replace hf := m_ifF hf cc1
    refine lv_aload_n hx hb dX2_skipSigns_14 rfl (lv_at hl 0 rfl) ?_
    obtain ⟨ca, hf⟩ := m_chkE hf
    replace ca := z_in hM (by decide) ca
    refine z_get (k := 2) (j := 2) (C := RX2) (T := TX2) (N := 12) (fl := zf_2) (v := va_rf ((zP o2.2 2 x0).map (zh y))) X hw_X2_skipSigns_2 hM rfl zc_2 ca (by decide) fl_X2_skipSigns_2_2 rfl dX2_skipSigns_15 ?_
    clear ca
    obtain ⟨b3, hb9, hf⟩ := m_calE hf
    refine z_topr hb9 ?_
    clear hb9
    refine lv_aload_n hx hb dX2_skipSigns_18 rfl (lv_at hl 0 rfl) ?_
    obtain ⟨ca, hf⟩ := m_chkE hf
    replace ca := z_in hM (by decide) ca
    refine z_get (k := 2) (j := 4) (C := RX2) (T := TX2) (N := 12) (fl := zf_2) (v := .int (zI o2.2 4 x0)) X hw_X2_skipSigns_2 hM rfl zc_2 ca (by decide) fl_X2_skipSigns_2_4 rfl dX2_skipSigns_19 ?_
    clear ca
    obtain ⟨ca, hf⟩ := m_chkE hf
    replace ca := z_in hM (by decide) ca
    obtain ⟨o4, ho, hf⟩ := m_calE hf
    refine z_callVi (k := 6) (C := RX6) (T := TX6) (N := 2) (fl := zf_6) X hM rfl zc_6 ca (c_X6_at ho) gX2_skipSigns_X6_at rfl ⟨rfl, rfl⟩ hd_X6_at ⟨Nat.le_of_ble_eq_true rfl, Nat.le_of_ble_eq_true rfl⟩ rfl hl.1 rfl (Nat.le_of_ble_eq_true rfl) dX2_skipSigns_22 (fun H locs hM => ?_)
    clear ho
    obtain ⟨o5, ho, hf⟩ := m_calE hf
    refine z_callSi X hM (c_X2_isSign ho) gX2_skipSigns_X2_isSign rfl ⟨rfl, rfl⟩ hd_X2_isSign ⟨Nat.le_of_ble_eq_true rfl, Nat.le_of_ble_eq_true rfl⟩ rfl hl.1 rfl (Nat.le_of_ble_eq_true rfl) dX2_skipSigns_25 (fun H locs hM => ?_)
    clear ho
    refine lv_if_eq (tgt := 44) hx hb dX2_skipSigns_28 (by decide) (fun cc1 => ?_) (fun cc1 => ?_)
    · replace hf := m_ifT hf cc1
      exact w_X2_skipSigns_44 X hret hf hM (lv_sub hl [] rfl)
    · replace hf := m_ifF hf cc1
      refine lv_aload_n hx hb dX2_skipSigns_31 rfl (lv_at hl 0 rfl) ?_
      refine lv_dup hx hb dX2_skipSigns_32 rfl ?_
      obtain ⟨ca, hf⟩ := m_chkE hf
      replace ca := z_in hM (by decide) ca
      refine z_get (k := 2) (j := 4) (C := RX2) (T := TX2) (N := 12) (fl := zf_2) (v := .int (zI o5.2 4 x0)) X hw_X2_skipSigns_2 hM rfl zc_2 ca (by decide) fl_X2_skipSigns_2_4 rfl dX2_skipSigns_33 ?_
      clear ca
      refine lv_iconst (v := (1 : Int32)) hx hb dX2_skipSigns_36 (by decide) ?_
      refine lv_iadd hx hb dX2_skipSigns_37 ?_
      obtain ⟨v6, ev, hf⟩ := m_bndE hf
      refine m_top ev ?_
      clear ev
      obtain ⟨ca, hf⟩ := m_chkE hf
      replace ca := z_in hM (by decide) ca
      refine z_putI (k := 2) (j := 4) (C := RX2) (T := TX2) (N := 12) (fl := zf_2) (ty := .int) X hw_X2_skipSigns_2 tyX2_ok nmX2 hM rfl zc_2 ca (by decide) fl_X2_skipSigns_2_4 rfl (tyX2_ok 4 (by decide)) rfl rfl zi_2_4 (Nat.le_of_ble_eq_true rfl) dX2_skipSigns_38 (fun H locs hM => ?_)
      clear ca
      obtain ⟨S7, ev, hf⟩ := m_bndE hf
      replace hM := z_hS hM ev
      clear ev
      refine lv_goto (tgt := 0) hx hb dX2_skipSigns_41 (by decide) ?_
      exact hself0 x0 _ _ _ _ hf hM (lv_sub hl [0] rfl)
noncomputable def f_X2_skipSigns_0 : Nat → Nat → ZS → Option (Int32 × ZS)
  | 0 => fun _ _ => none
  | n + 1 => f_X2_skipSigns_0s (f_X2_skipSigns_0 n)
theorem w_X2_skipSigns_0 {p : Program} {l : Launch} {e : Env} {s : State} {m : MethodId} {args : Array Value} {below : List Frame} {meth : Method} {c : Code} {Q : State → Prop} {D : va_G} {y : Nat → ClassId} {A0 : Nat → Prop} {o : Int32 × ZS} (X : CallFix p m c cX2_skipSigns 1 s args wsX2_skipSigns RX2) (hret : zRv p l e ({ frames := 2, cells := 0, slots := 0, locals := 40 } : Room) s m args below meth c Q cX2_skipSigns D y A0 o) (n : Nat) : ∀ (x0 : Nat) (S : ZS) (H : Heap) (locs : List Loc) (ls : Array Slot), f_X2_skipSigns_0 n x0 S = some o → zH D y A0 s H locs S → lv_has ls 1 [(0, .ref (zh y x0))] → W p l e ({ frames := 2, cells := 0, slots := 0, locals := 40 } : Room) s m args below meth c H locs 0 0 Q (F0 m 0 ls []) := by
  induction n with
  | zero => intro x0 S H locs ls hf; cases hf
  | succ n ih => intro x0 S H locs ls hf hM hl; exact ws_X2_skipSigns_0 X hret (self0 := f_X2_skipSigns_0 n) ih hf hM hl
noncomputable def f_X2_skipSigns (x0 : Nat) (S : ZS) : Option (Int32 × ZS) := f_X2_skipSigns_0 mFuel x0 S
theorem c_X2_skipSigns {l : Launch} {D : va_G} {y : Nat → ClassId} {x0 : Nat} {S : ZS} {o : Int32 × ZS} (hf : f_X2_skipSigns x0 S = some o) : zMv l yX2_skipSigns wsX2_skipSigns ({ frames := 2, cells := 0, slots := 0, locals := 40 } : Room) [.ref (zh y x0)] D y S o :=
  z_entryV (own := RX2) (cc := cX2_skipSigns) (maxL := 1) (by decide) rfl rfl (Nat.le_of_ble_eq_true rfl) (fun p e s m args below meth c A0 Q H locs ls X hret hM hl => w_X2_skipSigns_0 X hret mFuel x0 S H locs ls hf hM (lv_sub hl [0] rfl))
theorem hd_X8_copyWhole : yX8_copyWhole.cls = RX8 ∧ yX8_copyWhole.cls ≠ "java/lang/invoke/MethodHandle" ∧ yX8_copyWhole.cls ≠ "java/lang/invoke/VarHandle" ∧ (parseMethodDescriptor yX8_copyWhole.desc).map (fun d => d.parameters.length) = some 3 := by decide +kernel
theorem fl_X8_copyWhole_8_1 : Cond.fieldLink RX8 21 "MoveTexts$SignReader" "row" "LMoveTexts$Row;" ∈ wsX8_copyWhole := by decide +kernel
theorem fl_X8_copyWhole_8_9 : Cond.fieldLink RX8 45 "MoveTexts$SignReader" "check" "C" ∈ wsX8_copyWhole := by decide +kernel
theorem hw_X8_copyWhole_8 : ∀ w ∈ wsX80, w ∈ wsX8_copyWhole := by decide +kernel
noncomputable def g_X8_copyWhole_113 (Pw : Int32 → ZS → Prop) (S : ZS) (C T : Nat) : Prop :=
  Pw 0 S

set_option maxRecDepth 100000 in
set_option maxHeartbeats 4000000 in
theorem w_X8_copyWhole_113 {p : Program} {l : Launch} {e : Env} {s : State} {m : MethodId} {args : Array Value} {below : List Frame} {meth : Method} {c : Code} {Q : State → Prop} {D : va_G} {y : Nat → ClassId} {A0 : Nat → Prop} {kc kt : Nat} {Pw : Int32 → ZS → Prop} (X : CallFix p m c cX8_copyWhole 5 s args wsX8_copyWhole RX8) (hret : zQv p l e ({ frames := 2, cells := kc, slots := kt, locals := 82 } : Room) s m args below meth c Q cX8_copyWhole D y A0 Pw) {S : ZS} {C T : Nat} {H : Heap} {locs : List Loc} {ls : Array Slot} (hf : g_X8_copyWhole_113 Pw  S C T) (hCT : C ≤ kc ∧ T ≤ kt) (hM : zH D y A0 s H locs S) (hl : lv_has ls 5 []) : W p l e ({ frames := 2, cells := kc, slots := kt, locals := 82 } : Room) s m args below meth c H locs (kc - C) (kt - T) Q (F0 m 113 ls []) := by
  obtain ⟨hx, hb, hml, hown, hts⟩ := id X
  unfold g_X8_copyWhole_113 at hf
  exact hret _ _ _ H locs _ ls hf hM dX8_copyWhole_113
noncomputable def g_X8_copyWhole_87 (Pw : Int32 → ZS → Prop) (x0 : Nat) (t0 : Int32) (t1 : Nat) (S : ZS) (C T : Nat) : Prop :=
  m_chkQ (zK S t1 = 8) (
  m_chkQ (vp_nar .char t0 = t0 ∧ fits .char (.int t0) = true) (
  m_bndP (zsI S 9 t1 t0) (fun S1 =>
  m_chkQ (zK S1 x0 = 8) (
  m_ifQ ((zI S1 9 x0) = 0) (
  g_X8_copyWhole_113 Pw  S1 (C) (T)
  ) (
  m_chkQ (zK S1 x0 = 8) (
  m_calP (zP S1 1 x0) (fun b2 =>
  m_chkQ (zK S1 x0 = 8) (
  m_calP (zP S1 1 x0) (fun b3 =>
  m_chkQ (zK S1 b3 = 6) (
  m_calP (f_X6_size b3 S1) (fun o4 =>
  m_bndP (o4.1 - (1 : Int32)) (fun v5 =>
  m_chkQ (zK o4.2 b2 = 6) (
  m_calP (f_X6_keep b2 v5 o4.2) (fun o6 =>
  g_X8_copyWhole_113 Pw  o6.2 (C) (T))))))))))
  )))))

set_option maxRecDepth 100000 in
set_option maxHeartbeats 4000000 in
theorem w_X8_copyWhole_87 {p : Program} {l : Launch} {e : Env} {s : State} {m : MethodId} {args : Array Value} {below : List Frame} {meth : Method} {c : Code} {Q : State → Prop} {D : va_G} {y : Nat → ClassId} {A0 : Nat → Prop} {kc kt : Nat} {Pw : Int32 → ZS → Prop} (X : CallFix p m c cX8_copyWhole 5 s args wsX8_copyWhole RX8) (hret : zQv p l e ({ frames := 2, cells := kc, slots := kt, locals := 82 } : Room) s m args below meth c Q cX8_copyWhole D y A0 Pw) {x0 : Nat} {t0 : Int32} {t1 : Nat} {S : ZS} {C T : Nat} {H : Heap} {locs : List Loc} {ls : Array Slot} (hf : g_X8_copyWhole_87 Pw x0 t0 t1 S C T) (hCT : C ≤ kc ∧ T ≤ kt) (hM : zH D y A0 s H locs S) (hl : lv_has ls 5 [(0, .ref (zh y x0))]) : W p l e ({ frames := 2, cells := kc, slots := kt, locals := 82 } : Room) s m args below meth c H locs (kc - C) (kt - T) Q (F0 m 87 ls [.int t0, .ref (zh y t1)]) := by
  obtain ⟨hx, hb, hml, hown, hts⟩ := id X
  unfold g_X8_copyWhole_87 at hf
  obtain ⟨ca, hf⟩ := m_chkPE hf
  replace ca := z_in hM (by decide) ca
  obtain ⟨cg, hf⟩ := m_chkPE hf
  refine z_putI (k := 8) (j := 9) (C := RX8) (T := TX8) (N := 12) (fl := zf_8) (ty := .char) X hw_X8_copyWhole_8 tyX8_ok nmX8 hM rfl zc_8 ca (by decide) fl_X8_copyWhole_8_9 rfl (tyX8_ok 9 (by decide)) (m_nc cg.1) cg.2 zi_8_9 (Nat.le_of_ble_eq_true rfl) dX8_copyWhole_87 (fun H locs hM => ?_)
  clear ca
  obtain ⟨S1, ev, hf⟩ := m_bndPE hf
  replace hM := z_hS hM ev
  clear ev
  refine lv_aload_n hx hb dX8_copyWhole_90 rfl (lv_at hl 0 rfl) ?_
  obtain ⟨ca, hf⟩ := m_chkPE hf
  replace ca := z_in hM (by decide) ca
  refine z_get (k := 8) (j := 9) (C := RX8) (T := TX8) (N := 12) (fl := zf_8) (v := .int (zI S1 9 x0)) X hw_X8_copyWhole_8 hM rfl zc_8 ca (by decide) fl_X8_copyWhole_8_9 rfl dX8_copyWhole_91 ?_
  clear ca
  refine lv_if_eq (tgt := 113) hx hb dX8_copyWhole_94 (by decide) (fun cc1 => ?_) (fun cc1 => ?_)
  · replace hf := m_ifPT hf cc1
    exact w_X8_copyWhole_113 X hret hf hCT hM (lv_sub hl [] rfl)
  · replace hf := m_ifPF hf cc1
    refine lv_aload_n hx hb dX8_copyWhole_97 rfl (lv_at hl 0 rfl) ?_
    obtain ⟨ca, hf⟩ := m_chkPE hf
    replace ca := z_in hM (by decide) ca
    refine z_get (k := 8) (j := 1) (C := RX8) (T := TX8) (N := 12) (fl := zf_8) (v := va_rf ((zP S1 1 x0).map (zh y))) X hw_X8_copyWhole_8 hM rfl zc_8 ca (by decide) fl_X8_copyWhole_8_1 rfl dX8_copyWhole_98 ?_
    clear ca
    obtain ⟨b2, hb9, hf⟩ := m_calPE hf
    refine z_topr hb9 ?_
    clear hb9
    refine lv_aload_n hx hb dX8_copyWhole_101 rfl (lv_at hl 0 rfl) ?_
    obtain ⟨ca, hf⟩ := m_chkPE hf
    replace ca := z_in hM (by decide) ca
    refine z_get (k := 8) (j := 1) (C := RX8) (T := TX8) (N := 12) (fl := zf_8) (v := va_rf ((zP S1 1 x0).map (zh y))) X hw_X8_copyWhole_8 hM rfl zc_8 ca (by decide) fl_X8_copyWhole_8_1 rfl dX8_copyWhole_102 ?_
    clear ca
    obtain ⟨b3, hb9, hf⟩ := m_calPE hf
    refine z_topr hb9 ?_
    clear hb9
    obtain ⟨ca, hf⟩ := m_chkPE hf
    replace ca := z_in hM (by decide) ca
    obtain ⟨o4, ho, hf⟩ := m_calPE hf
    refine z_gcallVi (k := 6) (C := RX6) (T := TX6) (N := 2) (fl := zf_6) X hM rfl zc_6 ca (c_X6_size ho) gX8_copyWhole_X6_size rfl ⟨rfl, rfl⟩ hd_X6_size ⟨Nat.le_of_ble_eq_true rfl, Nat.le_of_ble_eq_true rfl⟩ rfl hl.1 rfl ⟨Nat.sub_le _ _, Nat.sub_le _ _⟩ (Nat.le_of_ble_eq_true rfl) dX8_copyWhole_105 (fun H locs hM => ?_)
    clear ho
    refine lv_iconst (v := (1 : Int32)) hx hb dX8_copyWhole_108 (by decide) ?_
    refine lv_isub hx hb dX8_copyWhole_109 ?_
    obtain ⟨v5, ev, hf⟩ := m_bndPE hf
    refine m_top ev ?_
    clear ev
    obtain ⟨ca, hf⟩ := m_chkPE hf
    replace ca := z_in hM (by decide) ca
    obtain ⟨o6, ho, hf⟩ := m_calPE hf
    refine z_gcallVv (k := 6) (C := RX6) (T := TX6) (N := 2) (fl := zf_6) X hM rfl zc_6 ca (c_X6_keep ho) gX8_copyWhole_X6_keep rfl ⟨rfl, rfl⟩ hd_X6_keep ⟨Nat.le_of_ble_eq_true rfl, Nat.le_of_ble_eq_true rfl⟩ rfl hl.1 rfl ⟨Nat.sub_le _ _, Nat.sub_le _ _⟩ (Nat.le_of_ble_eq_true rfl) dX8_copyWhole_110 (fun H locs hM => ?_)
    clear ho
    exact w_X8_copyWhole_113 X hret hf hCT hM (lv_sub hl [] rfl)
noncomputable def g_X8_copyWhole_81 (Pw : Int32 → ZS → Prop) (x0 : Nat) (x4 : Int32) (t0 : Nat) (S : ZS) (C T : Nat) : Prop :=
  g_X8_copyWhole_87 Pw x0 x4 t0 S (C) (T)

set_option maxRecDepth 100000 in
set_option maxHeartbeats 4000000 in
theorem w_X8_copyWhole_81 {p : Program} {l : Launch} {e : Env} {s : State} {m : MethodId} {args : Array Value} {below : List Frame} {meth : Method} {c : Code} {Q : State → Prop} {D : va_G} {y : Nat → ClassId} {A0 : Nat → Prop} {kc kt : Nat} {Pw : Int32 → ZS → Prop} (X : CallFix p m c cX8_copyWhole 5 s args wsX8_copyWhole RX8) (hret : zQv p l e ({ frames := 2, cells := kc, slots := kt, locals := 82 } : Room) s m args below meth c Q cX8_copyWhole D y A0 Pw) {x0 : Nat} {x4 : Int32} {t0 : Nat} {S : ZS} {C T : Nat} {H : Heap} {locs : List Loc} {ls : Array Slot} (hf : g_X8_copyWhole_81 Pw x0 x4 t0 S C T) (hCT : C ≤ kc ∧ T ≤ kt) (hM : zH D y A0 s H locs S) (hl : lv_has ls 5 [(0, .ref (zh y x0)), (4, .int x4)]) : W p l e ({ frames := 2, cells := kc, slots := kt, locals := 82 } : Room) s m args below meth c H locs (kc - C) (kt - T) Q (F0 m 81 ls [.ref (zh y t0)]) := by
  obtain ⟨hx, hb, hml, hown, hts⟩ := id X
  unfold g_X8_copyWhole_81 at hf
  refine lv_iload hx hb dX8_copyWhole_81 (lv_at hl 1 rfl) ?_
  refine lv_goto (tgt := 87) hx hb dX8_copyWhole_83 (by decide) ?_
  exact w_X8_copyWhole_87 (x0 := x0) (t0 := x4) (t1 := t0) X hret hf hCT hM (lv_sub hl [0] rfl)
noncomputable def g_X8_copyWhole_48 (Pw : Int32 → ZS → Prop) (x0 : Nat) (S : ZS) (C T : Nat) : Prop :=
  m_chkQ (zK S x0 = 8) (
  m_calP (zP S 1 x0) (fun b1 =>
  m_chkQ (zK S x0 = 8) (
  m_calP (zP S 1 x0) (fun b2 =>
  m_chkQ (zK S b2 = 6) (
  m_calP (f_X6_size b2 S) (fun o3 =>
  m_bndP (o3.1 - (1 : Int32)) (fun v4 =>
  m_chkQ (zK o3.2 b1 = 6) (
  m_calP (f_X6_at b1 v4 o3.2) (fun o5 =>
  m_ifQ (o5.1 = (43 : Int32)) (
  g_X8_copyWhole_81 Pw x0 o5.1 x0 o5.2 (C) (T)
  ) (
  m_ifQ (o5.1 = (35 : Int32)) (
  g_X8_copyWhole_81 Pw x0 o5.1 x0 o5.2 (C) (T)
  ) (
  g_X8_copyWhole_87 Pw x0 (0 : Int32) x0 o5.2 (C) (T)
  )
  ))))))))))

set_option maxRecDepth 100000 in
set_option maxHeartbeats 4000000 in
theorem w_X8_copyWhole_48 {p : Program} {l : Launch} {e : Env} {s : State} {m : MethodId} {args : Array Value} {below : List Frame} {meth : Method} {c : Code} {Q : State → Prop} {D : va_G} {y : Nat → ClassId} {A0 : Nat → Prop} {kc kt : Nat} {Pw : Int32 → ZS → Prop} (X : CallFix p m c cX8_copyWhole 5 s args wsX8_copyWhole RX8) (hret : zQv p l e ({ frames := 2, cells := kc, slots := kt, locals := 82 } : Room) s m args below meth c Q cX8_copyWhole D y A0 Pw) {x0 : Nat} {S : ZS} {C T : Nat} {H : Heap} {locs : List Loc} {ls : Array Slot} (hf : g_X8_copyWhole_48 Pw x0 S C T) (hCT : C ≤ kc ∧ T ≤ kt) (hM : zH D y A0 s H locs S) (hl : lv_has ls 5 [(0, .ref (zh y x0))]) : W p l e ({ frames := 2, cells := kc, slots := kt, locals := 82 } : Room) s m args below meth c H locs (kc - C) (kt - T) Q (F0 m 48 ls []) := by
  obtain ⟨hx, hb, hml, hown, hts⟩ := id X
  unfold g_X8_copyWhole_48 at hf
  refine lv_aload_n hx hb dX8_copyWhole_48 rfl (lv_at hl 0 rfl) ?_
  obtain ⟨ca, hf⟩ := m_chkPE hf
  replace ca := z_in hM (by decide) ca
  refine z_get (k := 8) (j := 1) (C := RX8) (T := TX8) (N := 12) (fl := zf_8) (v := va_rf ((zP S 1 x0).map (zh y))) X hw_X8_copyWhole_8 hM rfl zc_8 ca (by decide) fl_X8_copyWhole_8_1 rfl dX8_copyWhole_49 ?_
  clear ca
  obtain ⟨b1, hb9, hf⟩ := m_calPE hf
  refine z_topr hb9 ?_
  clear hb9
  refine lv_aload_n hx hb dX8_copyWhole_52 rfl (lv_at hl 0 rfl) ?_
  obtain ⟨ca, hf⟩ := m_chkPE hf
  replace ca := z_in hM (by decide) ca
  refine z_get (k := 8) (j := 1) (C := RX8) (T := TX8) (N := 12) (fl := zf_8) (v := va_rf ((zP S 1 x0).map (zh y))) X hw_X8_copyWhole_8 hM rfl zc_8 ca (by decide) fl_X8_copyWhole_8_1 rfl dX8_copyWhole_53 ?_
  clear ca
  obtain ⟨b2, hb9, hf⟩ := m_calPE hf
  refine z_topr hb9 ?_
  clear hb9
  obtain ⟨ca, hf⟩ := m_chkPE hf
  replace ca := z_in hM (by decide) ca
  obtain ⟨o3, ho, hf⟩ := m_calPE hf
  refine z_gcallVi (k := 6) (C := RX6) (T := TX6) (N := 2) (fl := zf_6) X hM rfl zc_6 ca (c_X6_size ho) gX8_copyWhole_X6_size rfl ⟨rfl, rfl⟩ hd_X6_size ⟨Nat.le_of_ble_eq_true rfl, Nat.le_of_ble_eq_true rfl⟩ rfl hl.1 rfl ⟨Nat.sub_le _ _, Nat.sub_le _ _⟩ (Nat.le_of_ble_eq_true rfl) dX8_copyWhole_56 (fun H locs hM => ?_)
  clear ho
  refine lv_iconst (v := (1 : Int32)) hx hb dX8_copyWhole_59 (by decide) ?_
  refine lv_isub hx hb dX8_copyWhole_60 ?_
  obtain ⟨v4, ev, hf⟩ := m_bndPE hf
  refine m_top ev ?_
  clear ev
  obtain ⟨ca, hf⟩ := m_chkPE hf
  replace ca := z_in hM (by decide) ca
  obtain ⟨o5, ho, hf⟩ := m_calPE hf
  refine z_gcallVi (k := 6) (C := RX6) (T := TX6) (N := 2) (fl := zf_6) X hM rfl zc_6 ca (c_X6_at ho) gX8_copyWhole_X6_at rfl ⟨rfl, rfl⟩ hd_X6_at ⟨Nat.le_of_ble_eq_true rfl, Nat.le_of_ble_eq_true rfl⟩ rfl hl.1 rfl ⟨Nat.sub_le _ _, Nat.sub_le _ _⟩ (Nat.le_of_ble_eq_true rfl) dX8_copyWhole_61 (fun H locs hM => ?_)
  clear ho
  refine lv_istore (lv' := [(4, .int o5.1), (0, .ref (zh y x0))]) hx hb dX8_copyWhole_64 hl (by decide) rfl (fun ls hl => ?_)
  refine lv_aload_n hx hb dX8_copyWhole_66 rfl (lv_at hl 1 rfl) ?_
  refine lv_iload hx hb dX8_copyWhole_67 (lv_at hl 0 rfl) ?_
  refine lv_bipush (v := (43 : Int32)) hx hb dX8_copyWhole_69 (by decide) ?_
  refine lv_icmp_eq (tgt := 81) hx hb dX8_copyWhole_71 (by decide) (fun cc1 => ?_) (fun cc1 => ?_)
  · replace hf := m_ifPT hf cc1
    exact w_X8_copyWhole_81 (x0 := x0) (x4 := o5.1) (t0 := x0) X hret hf hCT hM (lv_sub hl [1, 0] rfl)
  · replace hf := m_ifPF hf cc1
    refine lv_iload hx hb dX8_copyWhole_74 (lv_at hl 0 rfl) ?_
    refine lv_bipush (v := (35 : Int32)) hx hb dX8_copyWhole_76 (by decide) ?_
    refine lv_icmp_ne (tgt := 86) hx hb dX8_copyWhole_78 (by decide) (fun cc1 => ?_) (fun cc1 => ?_)
    · replace hf := m_ifPF hf cc1
      refine lv_iconst (v := (0 : Int32)) hx hb dX8_copyWhole_86 (by decide) ?_
      exact w_X8_copyWhole_87 (x0 := x0) (t0 := (0 : Int32)) (t1 := x0) X hret hf hCT hM (lv_sub hl [1] rfl)
    · replace hf := m_ifPT hf cc1
      exact w_X8_copyWhole_81 (x0 := x0) (x4 := o5.1) (t0 := x0) X hret hf hCT hM (lv_sub hl [1, 0] rfl)
noncomputable def g_X8_copyWhole_11s (Pw : Int32 → ZS → Prop) (self11 : Nat → Nat → Int32 → Int32 → ZS → Nat → Nat → Prop) (x0 : Nat) (x1 : Nat) (x3 : Int32) (x4 : Int32) (S : ZS) (C T : Nat) : Prop :=
  m_ifQ (x3 ≤ x4) (
  g_X8_copyWhole_48 Pw x0 S (C) (T)
  ) (
  m_chkQ (zK S x0 = 8) (
  m_calP (zP S 1 x0) (fun b1 =>
  m_chkQ (zK S b1 = 6) (
  m_calP (f_X6_size b1 S) (fun o2 =>
  m_ifQ ((7 : Int32) < o2.1) (
  g_X8_copyWhole_48 Pw x0 o2.2 (C) (T)
  ) (
  m_chkQ (zK o2.2 x0 = 8) (
  m_calP (zP o2.2 1 x0) (fun b3 =>
  m_chkQ (zK o2.2 x1 = 6) (
  m_calP (f_X6_at x1 x4 o2.2) (fun o4 =>
  m_chkQ (zK o4.2 b3 = 6) (
  m_gal (C) (T) (fun mc ms Pw => g_X6_put b3 o4.1 o4.2 mc ms Pw) (fun r6 S7 C8 T9 =>
  m_bndP (x4 + (1 : Int32)) (fun v10 =>
  self11 x0 x1 x3 v10 S7 (C8) (T9))))))))
  )))))
  )

set_option maxRecDepth 100000 in
set_option maxHeartbeats 4000000 in
theorem ws_X8_copyWhole_11 {p : Program} {l : Launch} {e : Env} {s : State} {m : MethodId} {args : Array Value} {below : List Frame} {meth : Method} {c : Code} {Q : State → Prop} {D : va_G} {y : Nat → ClassId} {A0 : Nat → Prop} {kc kt : Nat} {Pw : Int32 → ZS → Prop} (X : CallFix p m c cX8_copyWhole 5 s args wsX8_copyWhole RX8) (hret : zQv p l e ({ frames := 2, cells := kc, slots := kt, locals := 82 } : Room) s m args below meth c Q cX8_copyWhole D y A0 Pw) {self11 : Nat → Nat → Int32 → Int32 → ZS → Nat → Nat → Prop} (hself11 : ∀ (x0 : Nat) (x1 : Nat) (x3 : Int32) (x4 : Int32) (S : ZS) (C T : Nat) (H : Heap) (locs : List Loc) (ls : Array Slot), self11 x0 x1 x3 x4 S C T → C ≤ kc ∧ T ≤ kt → zH D y A0 s H locs S → lv_has ls 5 [(0, .ref (zh y x0)), (1, .ref (zh y x1)), (3, .int x3), (4, .int x4)] → W p l e ({ frames := 2, cells := kc, slots := kt, locals := 82 } : Room) s m args below meth c H locs (kc - C) (kt - T) Q (F0 m 11 ls [])) {x0 : Nat} {x1 : Nat} {x3 : Int32} {x4 : Int32} {S : ZS} {C T : Nat} {H : Heap} {locs : List Loc} {ls : Array Slot} (hf : g_X8_copyWhole_11s Pw self11 x0 x1 x3 x4 S C T) (hCT : C ≤ kc ∧ T ≤ kt) (hM : zH D y A0 s H locs S) (hl : lv_has ls 5 [(0, .ref (zh y x0)), (1, .ref (zh y x1)), (3, .int x3), (4, .int x4)]) : W p l e ({ frames := 2, cells := kc, slots := kt, locals := 82 } : Room) s m args below meth c H locs (kc - C) (kt - T) Q (F0 m 11 ls []) := by
  obtain ⟨hx, hb, hml, hown, hts⟩ := id X
  unfold g_X8_copyWhole_11s at hf
  refine lv_iload hx hb dX8_copyWhole_11 (lv_at hl 3 rfl) ?_
  refine lv_iload_n hx hb dX8_copyWhole_13 rfl (lv_at hl 2 rfl) ?_
  refine lv_icmp_ge (tgt := 48) hx hb dX8_copyWhole_14 (by decide) (fun cc1 => ?_) (fun cc1 => ?_)
  · replace hf := m_ifPT hf cc1
    exact w_X8_copyWhole_48 (x0 := x0) X hret hf hCT hM (lv_sub hl [0] rfl)
  · replace hf := m_ifPF hf cc1
    refine lv_aload_n hx hb dX8_copyWhole_17 rfl (lv_at hl 0 rfl) ?_
    obtain ⟨ca, hf⟩ := m_chkPE hf
    replace ca := z_in hM (by decide) ca
    refine z_get (k := 8) (j := 1) (C := RX8) (T := TX8) (N := 12) (fl := zf_8) (v := va_rf ((zP S 1 x0).map (zh y))) X hw_X8_copyWhole_8 hM rfl zc_8 ca (by decide) fl_X8_copyWhole_8_1 rfl dX8_copyWhole_18 ?_
    clear ca
    obtain ⟨b1, hb9, hf⟩ := m_calPE hf
    refine z_topr hb9 ?_
    clear hb9
    obtain ⟨ca, hf⟩ := m_chkPE hf
    replace ca := z_in hM (by decide) ca
    obtain ⟨o2, ho, hf⟩ := m_calPE hf
    refine z_gcallVi (k := 6) (C := RX6) (T := TX6) (N := 2) (fl := zf_6) X hM rfl zc_6 ca (c_X6_size ho) gX8_copyWhole_X6_size rfl ⟨rfl, rfl⟩ hd_X6_size ⟨Nat.le_of_ble_eq_true rfl, Nat.le_of_ble_eq_true rfl⟩ rfl hl.1 rfl ⟨Nat.sub_le _ _, Nat.sub_le _ _⟩ (Nat.le_of_ble_eq_true rfl) dX8_copyWhole_21 (fun H locs hM => ?_)
    clear ho
    refine lv_bipush (v := (7 : Int32)) hx hb dX8_copyWhole_24 (by decide) ?_
    refine lv_icmp_gt (tgt := 48) hx hb dX8_copyWhole_26 (by decide) (fun cc1 => ?_) (fun cc1 => ?_)
    · replace hf := m_ifPT hf cc1
      exact w_X8_copyWhole_48 (x0 := x0) X hret hf hCT hM (lv_sub hl [0] rfl)
    · replace hf := m_ifPF hf cc1
      refine lv_aload_n hx hb dX8_copyWhole_29 rfl (lv_at hl 0 rfl) ?_
      obtain ⟨ca, hf⟩ := m_chkPE hf
      replace ca := z_in hM (by decide) ca
      refine z_get (k := 8) (j := 1) (C := RX8) (T := TX8) (N := 12) (fl := zf_8) (v := va_rf ((zP o2.2 1 x0).map (zh y))) X hw_X8_copyWhole_8 hM rfl zc_8 ca (by decide) fl_X8_copyWhole_8_1 rfl dX8_copyWhole_30 ?_
      clear ca
      obtain ⟨b3, hb9, hf⟩ := m_calPE hf
      refine z_topr hb9 ?_
      clear hb9
      refine lv_aload_n hx hb dX8_copyWhole_33 rfl (lv_at hl 1 rfl) ?_
      refine lv_iload hx hb dX8_copyWhole_34 (lv_at hl 3 rfl) ?_
      obtain ⟨ca, hf⟩ := m_chkPE hf
      replace ca := z_in hM (by decide) ca
      obtain ⟨o4, ho, hf⟩ := m_calPE hf
      refine z_gcallVi (k := 6) (C := RX6) (T := TX6) (N := 2) (fl := zf_6) X hM rfl zc_6 ca (c_X6_at ho) gX8_copyWhole_X6_at rfl ⟨rfl, rfl⟩ hd_X6_at ⟨Nat.le_of_ble_eq_true rfl, Nat.le_of_ble_eq_true rfl⟩ rfl hl.1 rfl ⟨Nat.sub_le _ _, Nat.sub_le _ _⟩ (Nat.le_of_ble_eq_true rfl) dX8_copyWhole_36 (fun H locs hM => ?_)
      clear ho
      obtain ⟨ca, hf⟩ := m_chkPE hf
      replace ca := z_in hM (by decide) ca
      obtain ⟨mc, ms, hcm, ho⟩ := m_galE hf
      refine z_wcallVv (k := 6) (C := RX6) (T := TX6) (N := 2) (fl := zf_6) X hM rfl zc_6 ca (c_X6_put ho) gX8_copyWhole_X6_put rfl ⟨rfl, rfl⟩ ⟨by show kc - (C) + mc ≤ kc; omega, by show kt - (T) + ms ≤ kt; omega⟩ hd_X6_put ⟨Nat.le_of_ble_eq_true rfl, Nat.le_of_ble_eq_true rfl⟩ rfl hl.1 rfl (Nat.le_of_ble_eq_true rfl) dX8_copyWhole_39 (fun S7 H locs hf hM => ?_)
      refine z_eqCS (c2 := kc - (C - mc)) (t2 := kt - (T - ms)) (by omega) (by omega) ?_
      replace hCT : C - mc ≤ kc ∧ T - ms ≤ kt := by omega
      generalize C - mc = C8 at hf hCT ⊢
      generalize T - ms = T9 at hf hCT ⊢
      clear ho hcm
      obtain ⟨v10, ev, hf⟩ := m_bndPE hf
      refine lv_iinc (v := v10) (lv' := [(4, .int v10), (0, .ref (zh y x0)), (1, .ref (zh y x1)), (3, .int x3)]) hx hb dX8_copyWhole_42 hl (k := 3) rfl (by rw [ev]; rfl) (by decide) rfl (fun ls hl => ?_)
      clear ev
      refine lv_goto (tgt := 11) hx hb dX8_copyWhole_45 (by decide) ?_
      exact hself11 x0 x1 x3 v10 _ _ _ _ _ _ hf hCT hM (lv_sub hl [1, 2, 3, 0] rfl)
noncomputable def g_X8_copyWhole_11 (Pw : Int32 → ZS → Prop) : Nat → Nat → Nat → Int32 → Int32 → ZS → Nat → Nat → Prop
  | 0 => fun _ _ _ _ _ _ _ => False
  | n + 1 => g_X8_copyWhole_11s Pw (g_X8_copyWhole_11 Pw n)
theorem w_X8_copyWhole_11 {p : Program} {l : Launch} {e : Env} {s : State} {m : MethodId} {args : Array Value} {below : List Frame} {meth : Method} {c : Code} {Q : State → Prop} {D : va_G} {y : Nat → ClassId} {A0 : Nat → Prop} {kc kt : Nat} {Pw : Int32 → ZS → Prop} (X : CallFix p m c cX8_copyWhole 5 s args wsX8_copyWhole RX8) (hret : zQv p l e ({ frames := 2, cells := kc, slots := kt, locals := 82 } : Room) s m args below meth c Q cX8_copyWhole D y A0 Pw) (n : Nat) : ∀ (x0 : Nat) (x1 : Nat) (x3 : Int32) (x4 : Int32) (S : ZS) (C T : Nat) (H : Heap) (locs : List Loc) (ls : Array Slot), g_X8_copyWhole_11 Pw n x0 x1 x3 x4 S C T → C ≤ kc ∧ T ≤ kt → zH D y A0 s H locs S → lv_has ls 5 [(0, .ref (zh y x0)), (1, .ref (zh y x1)), (3, .int x3), (4, .int x4)] → W p l e ({ frames := 2, cells := kc, slots := kt, locals := 82 } : Room) s m args below meth c H locs (kc - C) (kt - T) Q (F0 m 11 ls []) := by
  induction n with
  | zero => intro x0 x1 x3 x4 S C T H locs ls hf; exact absurd hf id
  | succ n ih => intro x0 x1 x3 x4 S C T H locs ls hf hCT hM hl; exact ws_X8_copyWhole_11 X hret (self11 := g_X8_copyWhole_11 Pw n) ih hf hCT hM hl
noncomputable def g_X8_copyWhole_0 (Pw : Int32 → ZS → Prop) (x0 : Nat) (x1 : Nat) (x2 : Int32) (x3 : Int32) (S : ZS) (C T : Nat) : Prop :=
  m_chkQ (zK S x0 = 8) (
  m_calP (zP S 1 x0) (fun b1 =>
  m_chkQ (zK S b1 = 6) (
  m_calP (f_X6_keep b1 (0 : Int32) S) (fun o2 =>
  g_X8_copyWhole_11 Pw mFuel x0 x1 x3 x2 o2.2 (C) (T)))))

set_option maxRecDepth 100000 in
set_option maxHeartbeats 4000000 in
theorem w_X8_copyWhole_0 {p : Program} {l : Launch} {e : Env} {s : State} {m : MethodId} {args : Array Value} {below : List Frame} {meth : Method} {c : Code} {Q : State → Prop} {D : va_G} {y : Nat → ClassId} {A0 : Nat → Prop} {kc kt : Nat} {Pw : Int32 → ZS → Prop} (X : CallFix p m c cX8_copyWhole 5 s args wsX8_copyWhole RX8) (hret : zQv p l e ({ frames := 2, cells := kc, slots := kt, locals := 82 } : Room) s m args below meth c Q cX8_copyWhole D y A0 Pw) {x0 : Nat} {x1 : Nat} {x2 : Int32} {x3 : Int32} {S : ZS} {C T : Nat} {H : Heap} {locs : List Loc} {ls : Array Slot} (hf : g_X8_copyWhole_0 Pw x0 x1 x2 x3 S C T) (hCT : C ≤ kc ∧ T ≤ kt) (hM : zH D y A0 s H locs S) (hl : lv_has ls 5 [(0, .ref (zh y x0)), (1, .ref (zh y x1)), (2, .int x2), (3, .int x3)]) : W p l e ({ frames := 2, cells := kc, slots := kt, locals := 82 } : Room) s m args below meth c H locs (kc - C) (kt - T) Q (F0 m 0 ls []) := by
  obtain ⟨hx, hb, hml, hown, hts⟩ := id X
  unfold g_X8_copyWhole_0 at hf
  refine lv_aload_n hx hb dX8_copyWhole_0 rfl (lv_at hl 0 rfl) ?_
  obtain ⟨ca, hf⟩ := m_chkPE hf
  replace ca := z_in hM (by decide) ca
  refine z_get (k := 8) (j := 1) (C := RX8) (T := TX8) (N := 12) (fl := zf_8) (v := va_rf ((zP S 1 x0).map (zh y))) X hw_X8_copyWhole_8 hM rfl zc_8 ca (by decide) fl_X8_copyWhole_8_1 rfl dX8_copyWhole_1 ?_
  clear ca
  obtain ⟨b1, hb9, hf⟩ := m_calPE hf
  refine z_topr hb9 ?_
  clear hb9
  refine lv_iconst (v := (0 : Int32)) hx hb dX8_copyWhole_4 (by decide) ?_
  obtain ⟨ca, hf⟩ := m_chkPE hf
  replace ca := z_in hM (by decide) ca
  obtain ⟨o2, ho, hf⟩ := m_calPE hf
  refine z_gcallVv (k := 6) (C := RX6) (T := TX6) (N := 2) (fl := zf_6) X hM rfl zc_6 ca (c_X6_keep ho) gX8_copyWhole_X6_keep rfl ⟨rfl, rfl⟩ hd_X6_keep ⟨Nat.le_of_ble_eq_true rfl, Nat.le_of_ble_eq_true rfl⟩ rfl hl.1 rfl ⟨Nat.sub_le _ _, Nat.sub_le _ _⟩ (Nat.le_of_ble_eq_true rfl) dX8_copyWhole_5 (fun H locs hM => ?_)
  clear ho
  refine lv_iload_n hx hb dX8_copyWhole_8 rfl (lv_at hl 2 rfl) ?_
  refine lv_istore (lv' := [(4, .int x2), (0, .ref (zh y x0)), (1, .ref (zh y x1)), (2, .int x2), (3, .int x3)]) hx hb dX8_copyWhole_9 hl (by decide) rfl (fun ls hl => ?_)
  exact w_X8_copyWhole_11 X hret _ x0 x1 x3 x2 _ _ _ _ _ _ hf hCT hM (lv_sub hl [1, 2, 4, 0] rfl)
noncomputable def g_X8_copyWhole (x0 : Nat) (x1 : Nat) (x2 : Int32) (x3 : Int32) (S : ZS) (mc ms : Nat) (Pw : Int32 → ZS → Prop) : Prop := g_X8_copyWhole_0 Pw x0 x1 x2 x3 S mc ms
theorem c_X8_copyWhole {l : Launch} {D : va_G} {y : Nat → ClassId} {x0 : Nat} {x1 : Nat} {x2 : Int32} {x3 : Int32} {S : ZS} {kc kt : Nat} {Pw : Int32 → ZS → Prop} (hf : g_X8_copyWhole x0 x1 x2 x3 S kc kt Pw) : zWv l yX8_copyWhole wsX8_copyWhole ({ frames := 2, cells := kc, slots := kt, locals := 82 } : Room) [.ref (zh y x0), .ref (zh y x1), .int x2, .int x3] D y S kc kt Pw :=
  z_wentV (own := RX8) (cc := cX8_copyWhole) (maxL := 5) (by decide) rfl rfl (Nat.le_of_ble_eq_true rfl) ⟨rfl, rfl⟩ (fun p e s m args below meth c A0 Q H locs ls X hret hM hl => w_X8_copyWhole_0 X hret hf ⟨Nat.le_refl _, Nat.le_refl _⟩ hM (lv_sub hl [0, 1, 2, 3] rfl))
end
