theorem fl_X5_readMoveNumber_0_6 : Cond.fieldLink RX5 112 "MoveTexts$Board" "number" "I" ∈ wsX5_readMoveNumber := by decide +kernel
theorem hw_X5_readMoveNumber_0 : ∀ w ∈ wsX00, w ∈ wsX5_readMoveNumber := by decide +kernel
def f_X5_readMoveNumber_20 (t0 : Int32) (S : ZS) : Option (Int32 × ZS) :=
  m_chk (vp_nar .boolean t0 = t0) (some (t0, S))

set_option maxRecDepth 100000 in
set_option maxHeartbeats 4000000 in
theorem w_X5_readMoveNumber_20 {p : Program} {l : Launch} {e : Env} {s : State} {m : MethodId} {args : Array Value} {below : List Frame} {meth : Method} {c : Code} {Q : State → Prop} {D : va_G} {y : Nat → ClassId} {A0 : Nat → Prop} {o : Int32 × ZS} (X : CallFix p m c cX5_readMoveNumber 2 s args wsX5_readMoveNumber RX5) (hret : zRi p l e ({ frames := 2, cells := 0, slots := 0, locals := 44 } : Room) s m args below meth c Q cX5_readMoveNumber D y A0 .boolean o) {t0 : Int32} {S : ZS} {H : Heap} {locs : List Loc} {ls : Array Slot} (hf : f_X5_readMoveNumber_20 t0 S = some o) (hM : zH D y A0 s H locs S) (hl : lv_has ls 2 []) : W p l e ({ frames := 2, cells := 0, slots := 0, locals := 44 } : Room) s m args below meth c H locs 0 0 Q (F0 m 20 ls [.int t0]) := by
  obtain ⟨hx, hb, hml, hown, hts⟩ := id X
  unfold f_X5_readMoveNumber_20 at hf
  obtain ⟨cd, hf⟩ := m_chkE hf
  cases hf
  exact hret H locs _ ls hM (m_nb cd) dX5_readMoveNumber_20
def f_X5_readMoveNumber_0 (x0 : Nat) (x1 : Nat) (S : ZS) : Option (Int32 × ZS) :=
  m_chk (x0 ∈ zL S ∧ zK S x0 = 5) (
  m_cal (f_X5_readNumber x0 S) (fun o1 =>
  m_chk (x1 ∈ zL o1.2 ∧ zK o1.2 x1 = 0) (
  m_bnd (zsI o1.2 6 x1 o1.1) (fun S2 =>
  m_chk (x1 ∈ zL S2 ∧ zK S2 x1 = 0) (
  m_if ((zI S2 6 x1) ≤ 0) (
  f_X5_readMoveNumber_20 (0 : Int32) S2
  ) (
  f_X5_readMoveNumber_20 (1 : Int32) S2
  ))))))

set_option maxRecDepth 100000 in
set_option maxHeartbeats 4000000 in
theorem w_X5_readMoveNumber_0 {p : Program} {l : Launch} {e : Env} {s : State} {m : MethodId} {args : Array Value} {below : List Frame} {meth : Method} {c : Code} {Q : State → Prop} {D : va_G} {y : Nat → ClassId} {A0 : Nat → Prop} {o : Int32 × ZS} (X : CallFix p m c cX5_readMoveNumber 2 s args wsX5_readMoveNumber RX5) (hret : zRi p l e ({ frames := 2, cells := 0, slots := 0, locals := 44 } : Room) s m args below meth c Q cX5_readMoveNumber D y A0 .boolean o) {x0 : Nat} {x1 : Nat} {S : ZS} {H : Heap} {locs : List Loc} {ls : Array Slot} (hf : f_X5_readMoveNumber_0 x0 x1 S = some o) (hM : zH D y A0 s H locs S) (hl : lv_has ls 2 [(0, .ref x0), (1, .ref x1)]) : W p l e ({ frames := 2, cells := 0, slots := 0, locals := 44 } : Room) s m args below meth c H locs 0 0 Q (F0 m 0 ls []) := by
  obtain ⟨hx, hb, hml, hown, hts⟩ := id X
  unfold f_X5_readMoveNumber_0 at hf
  refine lv_aload_n hx hb dX5_readMoveNumber_0 rfl (lv_at hl 1 rfl) ?_
  refine lv_aload_n hx hb dX5_readMoveNumber_1 rfl (lv_at hl 0 rfl) ?_
  obtain ⟨ca, hf⟩ := m_chkE hf
  obtain ⟨o1, ho, hf⟩ := m_calE hf
  refine z_callVi (k := 5) (C := RX5) (T := TX5) (N := 2) (fl := zf_5) X hM rfl zc_5 ca (c_X5_readNumber ho) gX5_readMoveNumber_X5_readNumber rfl ⟨rfl, rfl⟩ hd_X5_readNumber ⟨Nat.le_of_ble_eq_true rfl, Nat.le_of_ble_eq_true rfl⟩ rfl hl.1 rfl (Nat.le_of_ble_eq_true rfl) dX5_readMoveNumber_2 (fun H locs hM => ?_)
  clear ho
  obtain ⟨ca, hf⟩ := m_chkE hf
  refine z_putI (k := 0) (j := 6) (C := RX0) (T := TX0) (N := 7) (fl := zf_0) (ty := .int) X hw_X5_readMoveNumber_0 tyX0_ok nmX0 hM rfl zc_0 ca (by decide) fl_X5_readMoveNumber_0_6 rfl (tyX0_ok 6 (by decide)) rfl rfl zi_0_6 (Nat.le_of_ble_eq_true rfl) dX5_readMoveNumber_5 (fun H locs hM => ?_)
  clear ca
  obtain ⟨S2, ev, hf⟩ := m_bndE hf
  replace hM := z_hS hM ev
  clear ev
  refine lv_aload_n hx hb dX5_readMoveNumber_8 rfl (lv_at hl 1 rfl) ?_
  obtain ⟨ca, hf⟩ := m_chkE hf
  refine z_get (k := 0) (j := 6) (C := RX0) (T := TX0) (N := 7) (fl := zf_0) (v := .int (zI S2 6 x1)) X hw_X5_readMoveNumber_0 hM rfl zc_0 ca (by decide) fl_X5_readMoveNumber_0_6 rfl dX5_readMoveNumber_9 ?_
  clear ca
  refine lv_if_le (tgt := 19) hx hb dX5_readMoveNumber_12 (by decide) (fun cc1 => ?_) (fun cc1 => ?_)
  · replace hf := m_ifT hf cc1
    refine lv_iconst (v := (0 : Int32)) hx hb dX5_readMoveNumber_19 (by decide) ?_
    exact w_X5_readMoveNumber_20 (t0 := (0 : Int32)) X hret hf hM (lv_sub hl [] rfl)
  · replace hf := m_ifF hf cc1
    refine lv_iconst (v := (1 : Int32)) hx hb dX5_readMoveNumber_15 (by decide) ?_
    refine lv_goto (tgt := 20) hx hb dX5_readMoveNumber_16 (by decide) ?_
    exact w_X5_readMoveNumber_20 (t0 := (1 : Int32)) X hret hf hM (lv_sub hl [] rfl)
def f_X5_readMoveNumber (x0 : Nat) (x1 : Nat) (S : ZS) : Option (Int32 × ZS) := f_X5_readMoveNumber_0 x0 x1 S
theorem c_X5_readMoveNumber {l : Launch} {D : va_G} {y : Nat → ClassId} {x0 : Nat} {x1 : Nat} {S : ZS} {o : Int32 × ZS} (hf : f_X5_readMoveNumber x0 x1 S = some o) : zMi l yX5_readMoveNumber wsX5_readMoveNumber ({ frames := 2, cells := 0, slots := 0, locals := 44 } : Room) [.ref x0, .ref x1] D y S o :=
  z_entryI (own := RX5) (cc := cX5_readMoveNumber) (maxL := 2) (by decide) rfl rfl (Nat.le_of_ble_eq_true rfl) (fun p e s m args below meth c A0 Q H locs ls X hret hM hl => w_X5_readMoveNumber_0 X hret hf hM (lv_sub hl [0, 1] rfl))
theorem hd_X5_readMoveNumber : yX5_readMoveNumber.cls = RX5 ∧ yX5_readMoveNumber.cls ≠ "java/lang/invoke/MethodHandle" ∧ yX5_readMoveNumber.cls ≠ "java/lang/invoke/VarHandle" ∧ (parseMethodDescriptor yX5_readMoveNumber.desc).map (fun d => d.parameters.length) = some 1 := by decide +kernel
theorem fl_X5_hasSoundMen_0_0 : Cond.fieldLink RX5 115 "MoveTexts$Board" "men" "[I" ∈ wsX5_hasSoundMen := by decide +kernel
theorem fl_X5_hasSoundMen_0_3 : Cond.fieldLink RX5 88 "MoveTexts$Board" "side" "I" ∈ wsX5_hasSoundMen := by decide +kernel
theorem hw_X5_hasSoundMen_0 : ∀ w ∈ wsX00, w ∈ wsX5_hasSoundMen := by decide +kernel
def f_X5_hasSoundMen_115 (t0 : Int32) (S : ZS) : Option (Int32 × ZS) :=
  m_chk (vp_nar .boolean t0 = t0) (some (t0, S))

set_option maxRecDepth 100000 in
set_option maxHeartbeats 4000000 in
theorem w_X5_hasSoundMen_115 {p : Program} {l : Launch} {e : Env} {s : State} {m : MethodId} {args : Array Value} {below : List Frame} {meth : Method} {c : Code} {Q : State → Prop} {D : va_G} {y : Nat → ClassId} {A0 : Nat → Prop} {o : Int32 × ZS} (X : CallFix p m c cX5_hasSoundMen 4 s args wsX5_hasSoundMen RX5) (hret : zRi p l e ({ frames := 2, cells := 0, slots := 0, locals := 55 } : Room) s m args below meth c Q cX5_hasSoundMen D y A0 .boolean o) {t0 : Int32} {S : ZS} {H : Heap} {locs : List Loc} {ls : Array Slot} (hf : f_X5_hasSoundMen_115 t0 S = some o) (hM : zH D y A0 s H locs S) (hl : lv_has ls 4 []) : W p l e ({ frames := 2, cells := 0, slots := 0, locals := 55 } : Room) s m args below meth c H locs 0 0 Q (F0 m 115 ls [.int t0]) := by
  obtain ⟨hx, hb, hml, hown, hts⟩ := id X
  unfold f_X5_hasSoundMen_115 at hf
  obtain ⟨cd, hf⟩ := m_chkE hf
  cases hf
  exact hret H locs _ ls hM (m_nb cd) dX5_hasSoundMen_115
def f_X5_hasSoundMen_114 (S : ZS) : Option (Int32 × ZS) :=
  f_X5_hasSoundMen_115 (0 : Int32) S

set_option maxRecDepth 100000 in
set_option maxHeartbeats 4000000 in
theorem w_X5_hasSoundMen_114 {p : Program} {l : Launch} {e : Env} {s : State} {m : MethodId} {args : Array Value} {below : List Frame} {meth : Method} {c : Code} {Q : State → Prop} {D : va_G} {y : Nat → ClassId} {A0 : Nat → Prop} {o : Int32 × ZS} (X : CallFix p m c cX5_hasSoundMen 4 s args wsX5_hasSoundMen RX5) (hret : zRi p l e ({ frames := 2, cells := 0, slots := 0, locals := 55 } : Room) s m args below meth c Q cX5_hasSoundMen D y A0 .boolean o) {S : ZS} {H : Heap} {locs : List Loc} {ls : Array Slot} (hf : f_X5_hasSoundMen_114  S = some o) (hM : zH D y A0 s H locs S) (hl : lv_has ls 4 []) : W p l e ({ frames := 2, cells := 0, slots := 0, locals := 55 } : Room) s m args below meth c H locs 0 0 Q (F0 m 114 ls []) := by
  obtain ⟨hx, hb, hml, hown, hts⟩ := id X
  unfold f_X5_hasSoundMen_114 at hf
  refine lv_iconst (v := (0 : Int32)) hx hb dX5_hasSoundMen_114 (by decide) ?_
  exact w_X5_hasSoundMen_115 (t0 := (0 : Int32)) X hret hf hM (lv_sub hl [] rfl)
def f_X5_hasSoundMen_73 (self6 : Nat → Int32 → Int32 → Int32 → ZS → Option (Int32 × ZS)) (x0 : Nat) (x1 : Int32) (x2 : Int32) (x3 : Int32) (S : ZS) : Option (Int32 × ZS) :=
  m_bnd (x3 + (1 : Int32)) (fun v1 =>
  self6 x0 x1 x2 v1 S)

set_option maxRecDepth 100000 in
set_option maxHeartbeats 4000000 in
theorem w_X5_hasSoundMen_73 {p : Program} {l : Launch} {e : Env} {s : State} {m : MethodId} {args : Array Value} {below : List Frame} {meth : Method} {c : Code} {Q : State → Prop} {D : va_G} {y : Nat → ClassId} {A0 : Nat → Prop} {o : Int32 × ZS} (X : CallFix p m c cX5_hasSoundMen 4 s args wsX5_hasSoundMen RX5) (hret : zRi p l e ({ frames := 2, cells := 0, slots := 0, locals := 55 } : Room) s m args below meth c Q cX5_hasSoundMen D y A0 .boolean o) {self6 : Nat → Int32 → Int32 → Int32 → ZS → Option (Int32 × ZS)} (hself6 : ∀ (x0 : Nat) (x1 : Int32) (x2 : Int32) (x3 : Int32) (S : ZS) (H : Heap) (locs : List Loc) (ls : Array Slot), self6 x0 x1 x2 x3 S = some o → zH D y A0 s H locs S → lv_has ls 4 [(0, .ref x0), (1, .int x1), (2, .int x2), (3, .int x3)] → W p l e ({ frames := 2, cells := 0, slots := 0, locals := 55 } : Room) s m args below meth c H locs 0 0 Q (F0 m 6 ls [])) {x0 : Nat} {x1 : Int32} {x2 : Int32} {x3 : Int32} {S : ZS} {H : Heap} {locs : List Loc} {ls : Array Slot} (hf : f_X5_hasSoundMen_73 self6 x0 x1 x2 x3 S = some o) (hM : zH D y A0 s H locs S) (hl : lv_has ls 4 [(0, .ref x0), (1, .int x1), (2, .int x2), (3, .int x3)]) : W p l e ({ frames := 2, cells := 0, slots := 0, locals := 55 } : Room) s m args below meth c H locs 0 0 Q (F0 m 73 ls []) := by
  obtain ⟨hx, hb, hml, hown, hts⟩ := id X
  unfold f_X5_hasSoundMen_73 at hf
  obtain ⟨v1, ev, hf⟩ := m_bndE hf
  refine lv_iinc (v := v1) (lv' := [(3, .int v1), (0, .ref x0), (1, .int x1), (2, .int x2)]) hx hb dX5_hasSoundMen_73 hl (k := 3) rfl (by rw [ev]; rfl) (by decide) rfl (fun ls hl => ?_)
  clear ev
  refine lv_goto (tgt := 6) hx hb dX5_hasSoundMen_76 (by decide) ?_
  exact hself6 x0 x1 x2 v1 _ _ _ _ hf hM (lv_sub hl [1, 2, 3, 0] rfl)
def f_X5_hasSoundMen_71 (S : ZS) : Option (Int32 × ZS) :=
  m_chk (vp_nar .boolean (0 : Int32) = (0 : Int32)) (some ((0 : Int32), S))

set_option maxRecDepth 100000 in
set_option maxHeartbeats 4000000 in
theorem w_X5_hasSoundMen_71 {p : Program} {l : Launch} {e : Env} {s : State} {m : MethodId} {args : Array Value} {below : List Frame} {meth : Method} {c : Code} {Q : State → Prop} {D : va_G} {y : Nat → ClassId} {A0 : Nat → Prop} {o : Int32 × ZS} (X : CallFix p m c cX5_hasSoundMen 4 s args wsX5_hasSoundMen RX5) (hret : zRi p l e ({ frames := 2, cells := 0, slots := 0, locals := 55 } : Room) s m args below meth c Q cX5_hasSoundMen D y A0 .boolean o) {S : ZS} {H : Heap} {locs : List Loc} {ls : Array Slot} (hf : f_X5_hasSoundMen_71  S = some o) (hM : zH D y A0 s H locs S) (hl : lv_has ls 4 []) : W p l e ({ frames := 2, cells := 0, slots := 0, locals := 55 } : Room) s m args below meth c H locs 0 0 Q (F0 m 71 ls []) := by
  obtain ⟨hx, hb, hml, hown, hts⟩ := id X
  unfold f_X5_hasSoundMen_71 at hf
  refine lv_iconst (v := (0 : Int32)) hx hb dX5_hasSoundMen_71 (by decide) ?_
  obtain ⟨cd, hf⟩ := m_chkE hf
  cases hf
  exact hret H locs _ ls hM (m_nb cd) dX5_hasSoundMen_72
def f_X5_hasSoundMen_48 (self6 : Nat → Int32 → Int32 → Int32 → ZS → Option (Int32 × ZS)) (x0 : Nat) (x1 : Int32) (x3 : Int32) (t0 : Int32) (t1 : Int32) (S : ZS) : Option (Int32 × ZS) :=
  m_bnd (t1 + t0) (fun v1 =>
  m_chk (x0 ∈ zL S ∧ zK S x0 = 0) (
  m_cal (f_X0_kindAt x0 x3 S) (fun o2 =>
  m_if (o2.1 = (1 : Int32)) (
  m_if (x3 < (8 : Int32)) (
  f_X5_hasSoundMen_71  o2.2
  ) (
  m_if (x3 < (56 : Int32)) (
  f_X5_hasSoundMen_73 self6 x0 x1 v1 x3 o2.2
  ) (
  f_X5_hasSoundMen_71  o2.2
  )
  )
  ) (
  f_X5_hasSoundMen_73 self6 x0 x1 v1 x3 o2.2
  ))))

set_option maxRecDepth 100000 in
set_option maxHeartbeats 4000000 in
theorem w_X5_hasSoundMen_48 {p : Program} {l : Launch} {e : Env} {s : State} {m : MethodId} {args : Array Value} {below : List Frame} {meth : Method} {c : Code} {Q : State → Prop} {D : va_G} {y : Nat → ClassId} {A0 : Nat → Prop} {o : Int32 × ZS} (X : CallFix p m c cX5_hasSoundMen 4 s args wsX5_hasSoundMen RX5) (hret : zRi p l e ({ frames := 2, cells := 0, slots := 0, locals := 55 } : Room) s m args below meth c Q cX5_hasSoundMen D y A0 .boolean o) {self6 : Nat → Int32 → Int32 → Int32 → ZS → Option (Int32 × ZS)} (hself6 : ∀ (x0 : Nat) (x1 : Int32) (x2 : Int32) (x3 : Int32) (S : ZS) (H : Heap) (locs : List Loc) (ls : Array Slot), self6 x0 x1 x2 x3 S = some o → zH D y A0 s H locs S → lv_has ls 4 [(0, .ref x0), (1, .int x1), (2, .int x2), (3, .int x3)] → W p l e ({ frames := 2, cells := 0, slots := 0, locals := 55 } : Room) s m args below meth c H locs 0 0 Q (F0 m 6 ls [])) {x0 : Nat} {x1 : Int32} {x3 : Int32} {t0 : Int32} {t1 : Int32} {S : ZS} {H : Heap} {locs : List Loc} {ls : Array Slot} (hf : f_X5_hasSoundMen_48 self6 x0 x1 x3 t0 t1 S = some o) (hM : zH D y A0 s H locs S) (hl : lv_has ls 4 [(0, .ref x0), (1, .int x1), (3, .int x3)]) : W p l e ({ frames := 2, cells := 0, slots := 0, locals := 55 } : Room) s m args below meth c H locs 0 0 Q (F0 m 48 ls [.int t0, .int t1]) := by
  obtain ⟨hx, hb, hml, hown, hts⟩ := id X
  unfold f_X5_hasSoundMen_48 at hf
  refine lv_iadd hx hb dX5_hasSoundMen_48 ?_
  obtain ⟨v1, ev, hf⟩ := m_bndE hf
  refine m_top ev ?_
  clear ev
  refine lv_istore_n (lv' := [(2, .int v1), (0, .ref x0), (1, .int x1), (3, .int x3)]) hx hb dX5_hasSoundMen_49 rfl hl (by decide) rfl (fun ls hl => ?_)
  refine lv_aload_n hx hb dX5_hasSoundMen_50 rfl (lv_at hl 1 rfl) ?_
  refine lv_iload_n hx hb dX5_hasSoundMen_51 rfl (lv_at hl 3 rfl) ?_
  obtain ⟨ca, hf⟩ := m_chkE hf
  obtain ⟨o2, ho, hf⟩ := m_calE hf
  refine z_callVi (k := 0) (C := RX0) (T := TX0) (N := 7) (fl := zf_0) X hM rfl zc_0 ca (c_X0_kindAt ho) gX5_hasSoundMen_X0_kindAt rfl ⟨rfl, rfl⟩ hd_X0_kindAt ⟨Nat.le_of_ble_eq_true rfl, Nat.le_of_ble_eq_true rfl⟩ rfl hl.1 rfl (Nat.le_of_ble_eq_true rfl) dX5_hasSoundMen_52 (fun H locs hM => ?_)
  clear ho
  refine lv_iconst (v := (1 : Int32)) hx hb dX5_hasSoundMen_55 (by decide) ?_
  refine lv_icmp_ne (tgt := 73) hx hb dX5_hasSoundMen_56 (by decide) (fun cc1 => ?_) (fun cc1 => ?_)
  · replace hf := m_ifF hf cc1
    exact w_X5_hasSoundMen_73 (x0 := x0) (x1 := x1) (x2 := v1) (x3 := x3) X hret hself6 hf hM (lv_sub hl [1, 2, 0, 3] rfl)
  · replace hf := m_ifT hf cc1
    refine lv_iload_n hx hb dX5_hasSoundMen_59 rfl (lv_at hl 3 rfl) ?_
    refine lv_bipush (v := (8 : Int32)) hx hb dX5_hasSoundMen_60 (by decide) ?_
    refine lv_icmp_lt (tgt := 71) hx hb dX5_hasSoundMen_62 (by decide) (fun cc1 => ?_) (fun cc1 => ?_)
    · replace hf := m_ifT hf cc1
      exact w_X5_hasSoundMen_71 X hret hf hM (lv_sub hl [] rfl)
    · replace hf := m_ifF hf cc1
      refine lv_iload_n hx hb dX5_hasSoundMen_65 rfl (lv_at hl 3 rfl) ?_
      refine lv_bipush (v := (56 : Int32)) hx hb dX5_hasSoundMen_66 (by decide) ?_
      refine lv_icmp_lt (tgt := 73) hx hb dX5_hasSoundMen_68 (by decide) (fun cc1 => ?_) (fun cc1 => ?_)
      · replace hf := m_ifT hf cc1
        exact w_X5_hasSoundMen_73 (x0 := x0) (x1 := x1) (x2 := v1) (x3 := x3) X hret hself6 hf hM (lv_sub hl [1, 2, 0, 3] rfl)
      · replace hf := m_ifF hf cc1
        exact w_X5_hasSoundMen_71 X hret hf hM (lv_sub hl [] rfl)
def f_X5_hasSoundMen_29 (self6 : Nat → Int32 → Int32 → Int32 → ZS → Option (Int32 × ZS)) (x0 : Nat) (x2 : Int32) (x3 : Int32) (t0 : Int32) (t1 : Int32) (S : ZS) : Option (Int32 × ZS) :=
  m_bnd (t1 + t0) (fun v1 =>
  m_chk (x0 ∈ zL S ∧ zK S x0 = 0) (
  m_cal (zP S 0 x0) (fun b2 =>
  m_chk (b2 ∈ zL S ∧ zK S b2 = 14) (
  m_chk (¬ (x3 < 0 ∨ zN S b2 ≤ (x3).toNatClampNeg)) (
  m_bnd (zA S b2 (x3).toNatClampNeg) (fun v3 =>
  m_if (v3 = (14 : Int32)) (
  f_X5_hasSoundMen_48 self6 x0 v1 x3 (1 : Int32) x2 S
  ) (
  f_X5_hasSoundMen_48 self6 x0 v1 x3 (0 : Int32) x2 S
  )))))))

set_option maxRecDepth 100000 in
set_option maxHeartbeats 4000000 in
theorem w_X5_hasSoundMen_29 {p : Program} {l : Launch} {e : Env} {s : State} {m : MethodId} {args : Array Value} {below : List Frame} {meth : Method} {c : Code} {Q : State → Prop} {D : va_G} {y : Nat → ClassId} {A0 : Nat → Prop} {o : Int32 × ZS} (X : CallFix p m c cX5_hasSoundMen 4 s args wsX5_hasSoundMen RX5) (hret : zRi p l e ({ frames := 2, cells := 0, slots := 0, locals := 55 } : Room) s m args below meth c Q cX5_hasSoundMen D y A0 .boolean o) {self6 : Nat → Int32 → Int32 → Int32 → ZS → Option (Int32 × ZS)} (hself6 : ∀ (x0 : Nat) (x1 : Int32) (x2 : Int32) (x3 : Int32) (S : ZS) (H : Heap) (locs : List Loc) (ls : Array Slot), self6 x0 x1 x2 x3 S = some o → zH D y A0 s H locs S → lv_has ls 4 [(0, .ref x0), (1, .int x1), (2, .int x2), (3, .int x3)] → W p l e ({ frames := 2, cells := 0, slots := 0, locals := 55 } : Room) s m args below meth c H locs 0 0 Q (F0 m 6 ls [])) {x0 : Nat} {x2 : Int32} {x3 : Int32} {t0 : Int32} {t1 : Int32} {S : ZS} {H : Heap} {locs : List Loc} {ls : Array Slot} (hf : f_X5_hasSoundMen_29 self6 x0 x2 x3 t0 t1 S = some o) (hM : zH D y A0 s H locs S) (hl : lv_has ls 4 [(0, .ref x0), (2, .int x2), (3, .int x3)]) : W p l e ({ frames := 2, cells := 0, slots := 0, locals := 55 } : Room) s m args below meth c H locs 0 0 Q (F0 m 29 ls [.int t0, .int t1]) := by
  obtain ⟨hx, hb, hml, hown, hts⟩ := id X
  unfold f_X5_hasSoundMen_29 at hf
  refine lv_iadd hx hb dX5_hasSoundMen_29 ?_
  obtain ⟨v1, ev, hf⟩ := m_bndE hf
  refine m_top ev ?_
  clear ev
  refine lv_istore_n (lv' := [(1, .int v1), (0, .ref x0), (2, .int x2), (3, .int x3)]) hx hb dX5_hasSoundMen_30 rfl hl (by decide) rfl (fun ls hl => ?_)
  refine lv_iload_n hx hb dX5_hasSoundMen_31 rfl (lv_at hl 2 rfl) ?_
  refine lv_aload_n hx hb dX5_hasSoundMen_32 rfl (lv_at hl 1 rfl) ?_
  obtain ⟨ca, hf⟩ := m_chkE hf
  refine z_get (k := 0) (j := 0) (C := RX0) (T := TX0) (N := 7) (fl := zf_0) (v := va_rf (zP S 0 x0)) X hw_X5_hasSoundMen_0 hM rfl zc_0 ca (by decide) fl_X5_hasSoundMen_0_0 rfl dX5_hasSoundMen_33 ?_
  clear ca
  obtain ⟨b2, hb9, hf⟩ := m_calE hf
  refine z_topr hb9 ?_
  clear hb9
  refine lv_iload_n hx hb dX5_hasSoundMen_36 rfl (lv_at hl 3 rfl) ?_
  obtain ⟨ca, hf⟩ := m_chkE hf
  obtain ⟨cd, hf⟩ := m_chkE hf
  refine z_iald X hM ca cd dX5_hasSoundMen_37 ?_
  clear ca cd
  obtain ⟨v3, ev, hf⟩ := m_bndE hf
  refine m_top ev ?_
  clear ev
  refine lv_bipush (v := (14 : Int32)) hx hb dX5_hasSoundMen_38 (by decide) ?_
  refine lv_icmp_ne (tgt := 47) hx hb dX5_hasSoundMen_40 (by decide) (fun cc1 => ?_) (fun cc1 => ?_)
  · replace hf := m_ifF hf cc1
    refine lv_iconst (v := (0 : Int32)) hx hb dX5_hasSoundMen_47 (by decide) ?_
    exact w_X5_hasSoundMen_48 (x0 := x0) (x1 := v1) (x3 := x3) (t0 := (0 : Int32)) (t1 := x2) X hret hself6 hf hM (lv_sub hl [1, 0, 3] rfl)
  · replace hf := m_ifT hf cc1
    refine lv_iconst (v := (1 : Int32)) hx hb dX5_hasSoundMen_43 (by decide) ?_
    refine lv_goto (tgt := 48) hx hb dX5_hasSoundMen_44 (by decide) ?_
    exact w_X5_hasSoundMen_48 (x0 := x0) (x1 := v1) (x3 := x3) (t0 := (1 : Int32)) (t1 := x2) X hret hself6 hf hM (lv_sub hl [1, 0, 3] rfl)
def f_X5_hasSoundMen_6s (self6 : Nat → Int32 → Int32 → Int32 → ZS → Option (Int32 × ZS)) (x0 : Nat) (x1 : Int32) (x2 : Int32) (x3 : Int32) (S : ZS) : Option (Int32 × ZS) :=
  m_if ((64 : Int32) ≤ x3) (
  m_if (x1 = (1 : Int32)) (
  m_if (x2 = (1 : Int32)) (
  m_chk (x0 ∈ zL S ∧ zK S x0 = 0) (
  m_bnd ((1 : Int32) - (zI S 3 x0)) (fun v1 =>
  m_chk (x0 ∈ zL S ∧ zK S x0 = 0) (
  m_cal (f_X0_kingOf x0 v1 S) (fun o2 =>
  m_chk (x0 ∈ zL o2.2 ∧ zK o2.2 x0 = 0) (
  m_chk (x0 ∈ zL o2.2 ∧ zK o2.2 x0 = 0) (
  m_cal (f_X0_attacked x0 o2.1 (zI o2.2 3 x0) o2.2) (fun o3 =>
  m_if (o3.1 = 0) (
  f_X5_hasSoundMen_115 (1 : Int32) o3.2
  ) (
  f_X5_hasSoundMen_114  o3.2
  ))))))))
  ) (
  f_X5_hasSoundMen_114  S
  )
  ) (
  f_X5_hasSoundMen_114  S
  )
  ) (
  m_chk (x0 ∈ zL S ∧ zK S x0 = 0) (
  m_cal (zP S 0 x0) (fun b4 =>
  m_chk (b4 ∈ zL S ∧ zK S b4 = 14) (
  m_chk (¬ (x3 < 0 ∨ zN S b4 ≤ (x3).toNatClampNeg)) (
  m_bnd (zA S b4 (x3).toNatClampNeg) (fun v5 =>
  m_if (v5 = (6 : Int32)) (
  f_X5_hasSoundMen_29 self6 x0 x2 x3 (1 : Int32) x1 S
  ) (
  f_X5_hasSoundMen_29 self6 x0 x2 x3 (0 : Int32) x1 S
  ))))))
  )

set_option maxRecDepth 100000 in
set_option maxHeartbeats 4000000 in
theorem ws_X5_hasSoundMen_6 {p : Program} {l : Launch} {e : Env} {s : State} {m : MethodId} {args : Array Value} {below : List Frame} {meth : Method} {c : Code} {Q : State → Prop} {D : va_G} {y : Nat → ClassId} {A0 : Nat → Prop} {o : Int32 × ZS} (X : CallFix p m c cX5_hasSoundMen 4 s args wsX5_hasSoundMen RX5) (hret : zRi p l e ({ frames := 2, cells := 0, slots := 0, locals := 55 } : Room) s m args below meth c Q cX5_hasSoundMen D y A0 .boolean o) {self6 : Nat → Int32 → Int32 → Int32 → ZS → Option (Int32 × ZS)} (hself6 : ∀ (x0 : Nat) (x1 : Int32) (x2 : Int32) (x3 : Int32) (S : ZS) (H : Heap) (locs : List Loc) (ls : Array Slot), self6 x0 x1 x2 x3 S = some o → zH D y A0 s H locs S → lv_has ls 4 [(0, .ref x0), (1, .int x1), (2, .int x2), (3, .int x3)] → W p l e ({ frames := 2, cells := 0, slots := 0, locals := 55 } : Room) s m args below meth c H locs 0 0 Q (F0 m 6 ls [])) {x0 : Nat} {x1 : Int32} {x2 : Int32} {x3 : Int32} {S : ZS} {H : Heap} {locs : List Loc} {ls : Array Slot} (hf : f_X5_hasSoundMen_6s self6 x0 x1 x2 x3 S = some o) (hM : zH D y A0 s H locs S) (hl : lv_has ls 4 [(0, .ref x0), (1, .int x1), (2, .int x2), (3, .int x3)]) : W p l e ({ frames := 2, cells := 0, slots := 0, locals := 55 } : Room) s m args below meth c H locs 0 0 Q (F0 m 6 ls []) := by
  obtain ⟨hx, hb, hml, hown, hts⟩ := id X
  unfold f_X5_hasSoundMen_6s at hf
  refine lv_iload_n hx hb dX5_hasSoundMen_6 rfl (lv_at hl 3 rfl) ?_
  refine lv_bipush (v := (64 : Int32)) hx hb dX5_hasSoundMen_7 (by decide) ?_
  refine lv_icmp_ge (tgt := 79) hx hb dX5_hasSoundMen_9 (by decide) (fun cc1 => ?_) (fun cc1 => ?_)
  · replace hf := m_ifT hf cc1
    refine lv_iload_n hx hb dX5_hasSoundMen_79 rfl (lv_at hl 1 rfl) ?_
    refine lv_iconst (v := (1 : Int32)) hx hb dX5_hasSoundMen_80 (by decide) ?_
    refine lv_icmp_ne (tgt := 114) hx hb dX5_hasSoundMen_81 (by decide) (fun cc1 => ?_) (fun cc1 => ?_)
    · replace hf := m_ifF hf cc1
      exact w_X5_hasSoundMen_114 X hret hf hM (lv_sub hl [] rfl)
    · replace hf := m_ifT hf cc1
      refine lv_iload_n hx hb dX5_hasSoundMen_84 rfl (lv_at hl 2 rfl) ?_
      refine lv_iconst (v := (1 : Int32)) hx hb dX5_hasSoundMen_85 (by decide) ?_
      refine lv_icmp_ne (tgt := 114) hx hb dX5_hasSoundMen_86 (by decide) (fun cc1 => ?_) (fun cc1 => ?_)
      · replace hf := m_ifF hf cc1
        exact w_X5_hasSoundMen_114 X hret hf hM (lv_sub hl [] rfl)
      · replace hf := m_ifT hf cc1
        refine lv_aload_n hx hb dX5_hasSoundMen_89 rfl (lv_at hl 0 rfl) ?_
        refine lv_aload_n hx hb dX5_hasSoundMen_90 rfl (lv_at hl 0 rfl) ?_
        refine lv_iconst (v := (1 : Int32)) hx hb dX5_hasSoundMen_91 (by decide) ?_
        refine lv_aload_n hx hb dX5_hasSoundMen_92 rfl (lv_at hl 0 rfl) ?_
        obtain ⟨ca, hf⟩ := m_chkE hf
        refine z_get (k := 0) (j := 3) (C := RX0) (T := TX0) (N := 7) (fl := zf_0) (v := .int (zI S 3 x0)) X hw_X5_hasSoundMen_0 hM rfl zc_0 ca (by decide) fl_X5_hasSoundMen_0_3 rfl dX5_hasSoundMen_93 ?_
        clear ca
        refine lv_isub hx hb dX5_hasSoundMen_96 ?_
        obtain ⟨v1, ev, hf⟩ := m_bndE hf
        refine m_top ev ?_
        clear ev
        obtain ⟨ca, hf⟩ := m_chkE hf
        obtain ⟨o2, ho, hf⟩ := m_calE hf
        refine z_callVi (k := 0) (C := RX0) (T := TX0) (N := 7) (fl := zf_0) X hM rfl zc_0 ca (c_X0_kingOf ho) gX5_hasSoundMen_X0_kingOf rfl ⟨rfl, rfl⟩ hd_X0_kingOf ⟨Nat.le_of_ble_eq_true rfl, Nat.le_of_ble_eq_true rfl⟩ rfl hl.1 rfl (Nat.le_of_ble_eq_true rfl) dX5_hasSoundMen_97 (fun H locs hM => ?_)
        clear ho
        refine lv_aload_n hx hb dX5_hasSoundMen_100 rfl (lv_at hl 0 rfl) ?_
        obtain ⟨ca, hf⟩ := m_chkE hf
        refine z_get (k := 0) (j := 3) (C := RX0) (T := TX0) (N := 7) (fl := zf_0) (v := .int (zI o2.2 3 x0)) X hw_X5_hasSoundMen_0 hM rfl zc_0 ca (by decide) fl_X5_hasSoundMen_0_3 rfl dX5_hasSoundMen_101 ?_
        clear ca
        obtain ⟨ca, hf⟩ := m_chkE hf
        obtain ⟨o3, ho, hf⟩ := m_calE hf
        refine z_callVi (k := 0) (C := RX0) (T := TX0) (N := 7) (fl := zf_0) X hM rfl zc_0 ca (c_X0_attacked ho) gX5_hasSoundMen_X0_attacked rfl ⟨rfl, rfl⟩ hd_X0_attacked ⟨Nat.le_of_ble_eq_true rfl, Nat.le_of_ble_eq_true rfl⟩ rfl hl.1 rfl (Nat.le_of_ble_eq_true rfl) dX5_hasSoundMen_104 (fun H locs hM => ?_)
        clear ho
        refine lv_if_ne (tgt := 114) hx hb dX5_hasSoundMen_107 (by decide) (fun cc1 => ?_) (fun cc1 => ?_)
        · replace hf := m_ifF hf cc1
          exact w_X5_hasSoundMen_114 X hret hf hM (lv_sub hl [] rfl)
        · replace hf := m_ifT hf cc1
          refine lv_iconst (v := (1 : Int32)) hx hb dX5_hasSoundMen_110 (by decide) ?_
          refine lv_goto (tgt := 115) hx hb dX5_hasSoundMen_111 (by decide) ?_
          exact w_X5_hasSoundMen_115 (t0 := (1 : Int32)) X hret hf hM (lv_sub hl [] rfl)
  · replace hf := m_ifF hf cc1
    refine lv_iload_n hx hb dX5_hasSoundMen_12 rfl (lv_at hl 1 rfl) ?_
    refine lv_aload_n hx hb dX5_hasSoundMen_13 rfl (lv_at hl 0 rfl) ?_
    obtain ⟨ca, hf⟩ := m_chkE hf
    refine z_get (k := 0) (j := 0) (C := RX0) (T := TX0) (N := 7) (fl := zf_0) (v := va_rf (zP S 0 x0)) X hw_X5_hasSoundMen_0 hM rfl zc_0 ca (by decide) fl_X5_hasSoundMen_0_0 rfl dX5_hasSoundMen_14 ?_
    clear ca
    obtain ⟨b4, hb9, hf⟩ := m_calE hf
    refine z_topr hb9 ?_
    clear hb9
    refine lv_iload_n hx hb dX5_hasSoundMen_17 rfl (lv_at hl 3 rfl) ?_
    obtain ⟨ca, hf⟩ := m_chkE hf
    obtain ⟨cd, hf⟩ := m_chkE hf
    refine z_iald X hM ca cd dX5_hasSoundMen_18 ?_
    clear ca cd
    obtain ⟨v5, ev, hf⟩ := m_bndE hf
    refine m_top ev ?_
    clear ev
    refine lv_bipush (v := (6 : Int32)) hx hb dX5_hasSoundMen_19 (by decide) ?_
    refine lv_icmp_ne (tgt := 28) hx hb dX5_hasSoundMen_21 (by decide) (fun cc1 => ?_) (fun cc1 => ?_)
    · replace hf := m_ifF hf cc1
      refine lv_iconst (v := (0 : Int32)) hx hb dX5_hasSoundMen_28 (by decide) ?_
      exact w_X5_hasSoundMen_29 (x0 := x0) (x2 := x2) (x3 := x3) (t0 := (0 : Int32)) (t1 := x1) X hret hself6 hf hM (lv_sub hl [0, 2, 3] rfl)
    · replace hf := m_ifT hf cc1
      refine lv_iconst (v := (1 : Int32)) hx hb dX5_hasSoundMen_24 (by decide) ?_
      refine lv_goto (tgt := 29) hx hb dX5_hasSoundMen_25 (by decide) ?_
      exact w_X5_hasSoundMen_29 (x0 := x0) (x2 := x2) (x3 := x3) (t0 := (1 : Int32)) (t1 := x1) X hret hself6 hf hM (lv_sub hl [0, 2, 3] rfl)
def f_X5_hasSoundMen_6 : Nat → Nat → Int32 → Int32 → Int32 → ZS → Option (Int32 × ZS)
  | 0 => fun _ _ _ _ _ => none
  | n + 1 => f_X5_hasSoundMen_6s (f_X5_hasSoundMen_6 n)
theorem w_X5_hasSoundMen_6 {p : Program} {l : Launch} {e : Env} {s : State} {m : MethodId} {args : Array Value} {below : List Frame} {meth : Method} {c : Code} {Q : State → Prop} {D : va_G} {y : Nat → ClassId} {A0 : Nat → Prop} {o : Int32 × ZS} (X : CallFix p m c cX5_hasSoundMen 4 s args wsX5_hasSoundMen RX5) (hret : zRi p l e ({ frames := 2, cells := 0, slots := 0, locals := 55 } : Room) s m args below meth c Q cX5_hasSoundMen D y A0 .boolean o) (n : Nat) : ∀ (x0 : Nat) (x1 : Int32) (x2 : Int32) (x3 : Int32) (S : ZS) (H : Heap) (locs : List Loc) (ls : Array Slot), f_X5_hasSoundMen_6 n x0 x1 x2 x3 S = some o → zH D y A0 s H locs S → lv_has ls 4 [(0, .ref x0), (1, .int x1), (2, .int x2), (3, .int x3)] → W p l e ({ frames := 2, cells := 0, slots := 0, locals := 55 } : Room) s m args below meth c H locs 0 0 Q (F0 m 6 ls []) := by
  induction n with
  | zero => intro x0 x1 x2 x3 S H locs ls hf; cases hf
  | succ n ih => intro x0 x1 x2 x3 S H locs ls hf hM hl; exact ws_X5_hasSoundMen_6 X hret (self6 := f_X5_hasSoundMen_6 n) ih hf hM hl
def f_X5_hasSoundMen_0 (x0 : Nat) (S : ZS) : Option (Int32 × ZS) :=
  f_X5_hasSoundMen_6 mFuel x0 (0 : Int32) (0 : Int32) (0 : Int32) S

set_option maxRecDepth 100000 in
set_option maxHeartbeats 4000000 in
theorem w_X5_hasSoundMen_0 {p : Program} {l : Launch} {e : Env} {s : State} {m : MethodId} {args : Array Value} {below : List Frame} {meth : Method} {c : Code} {Q : State → Prop} {D : va_G} {y : Nat → ClassId} {A0 : Nat → Prop} {o : Int32 × ZS} (X : CallFix p m c cX5_hasSoundMen 4 s args wsX5_hasSoundMen RX5) (hret : zRi p l e ({ frames := 2, cells := 0, slots := 0, locals := 55 } : Room) s m args below meth c Q cX5_hasSoundMen D y A0 .boolean o) {x0 : Nat} {S : ZS} {H : Heap} {locs : List Loc} {ls : Array Slot} (hf : f_X5_hasSoundMen_0 x0 S = some o) (hM : zH D y A0 s H locs S) (hl : lv_has ls 4 [(0, .ref x0)]) : W p l e ({ frames := 2, cells := 0, slots := 0, locals := 55 } : Room) s m args below meth c H locs 0 0 Q (F0 m 0 ls []) := by
  obtain ⟨hx, hb, hml, hown, hts⟩ := id X
  unfold f_X5_hasSoundMen_0 at hf
  refine lv_iconst (v := (0 : Int32)) hx hb dX5_hasSoundMen_0 (by decide) ?_
  refine lv_istore_n (lv' := [(1, .int (0 : Int32)), (0, .ref x0)]) hx hb dX5_hasSoundMen_1 rfl hl (by decide) rfl (fun ls hl => ?_)
  refine lv_iconst (v := (0 : Int32)) hx hb dX5_hasSoundMen_2 (by decide) ?_
  refine lv_istore_n (lv' := [(2, .int (0 : Int32)), (1, .int (0 : Int32)), (0, .ref x0)]) hx hb dX5_hasSoundMen_3 rfl hl (by decide) rfl (fun ls hl => ?_)
  refine lv_iconst (v := (0 : Int32)) hx hb dX5_hasSoundMen_4 (by decide) ?_
  refine lv_istore_n (lv' := [(3, .int (0 : Int32)), (2, .int (0 : Int32)), (1, .int (0 : Int32)), (0, .ref x0)]) hx hb dX5_hasSoundMen_5 rfl hl (by decide) rfl (fun ls hl => ?_)
  exact w_X5_hasSoundMen_6 X hret _ x0 (0 : Int32) (0 : Int32) (0 : Int32) _ _ _ _ hf hM (lv_sub hl [3, 2, 1, 0] rfl)
def f_X5_hasSoundMen (x0 : Nat) (S : ZS) : Option (Int32 × ZS) := f_X5_hasSoundMen_0 x0 S
theorem c_X5_hasSoundMen {l : Launch} {D : va_G} {y : Nat → ClassId} {x0 : Nat} {S : ZS} {o : Int32 × ZS} (hf : f_X5_hasSoundMen x0 S = some o) : zMi l yX5_hasSoundMen wsX5_hasSoundMen ({ frames := 2, cells := 0, slots := 0, locals := 55 } : Room) [.ref x0] D y S o :=
  z_entryI (own := RX5) (cc := cX5_hasSoundMen) (maxL := 4) (by decide) rfl rfl (Nat.le_of_ble_eq_true rfl) (fun p e s m args below meth c A0 Q H locs ls X hret hM hl => w_X5_hasSoundMen_0 X hret hf hM (lv_sub hl [0] rfl))
theorem hd_X5_hasSoundMen : yX5_hasSoundMen.cls ≠ "java/lang/invoke/MethodHandle" ∧ yX5_hasSoundMen.cls ≠ "java/lang/invoke/VarHandle" ∧ (parseMethodDescriptor yX5_hasSoundMen.desc).map (fun d => d.parameters.length) = some 1 := by decide +kernel
theorem fl_X5_hasSoundRights_0_0 : Cond.fieldLink RX5 115 "MoveTexts$Board" "men" "[I" ∈ wsX5_hasSoundRights := by decide +kernel
theorem fl_X5_hasSoundRights_0_4 : Cond.fieldLink RX5 99 "MoveTexts$Board" "rights" "I" ∈ wsX5_hasSoundRights := by decide +kernel
theorem hw_X5_hasSoundRights_0 : ∀ w ∈ wsX00, w ∈ wsX5_hasSoundRights := by decide +kernel
theorem sr_X5_hasSoundRights_91 : (RX5, 91, "KQkq", 2) ∈ zSR := by decide +kernel
def f_X5_hasSoundRights_92 (self2 : Nat → Int32 → ZS → Option (Int32 × ZS)) (x0 : Nat) (x1 : Int32) (S : ZS) : Option (Int32 × ZS) :=
  m_bnd (x1 + (1 : Int32)) (fun v1 =>
  self2 x0 v1 S)

set_option maxRecDepth 100000 in
set_option maxHeartbeats 4000000 in
theorem w_X5_hasSoundRights_92 {p : Program} {l : Launch} {e : Env} {s : State} {m : MethodId} {args : Array Value} {below : List Frame} {meth : Method} {c : Code} {Q : State → Prop} {D : va_G} {y : Nat → ClassId} {A0 : Nat → Prop} {o : Int32 × ZS} (X : CallFix p m c cX5_hasSoundRights 5 s args wsX5_hasSoundRights RX5) (hret : zRi p l e ({ frames := 2, cells := 0, slots := 0, locals := 40 } : Room) s m args below meth c Q cX5_hasSoundRights D y A0 .boolean o) {self2 : Nat → Int32 → ZS → Option (Int32 × ZS)} (hself2 : ∀ (x0 : Nat) (x1 : Int32) (S : ZS) (H : Heap) (locs : List Loc) (ls : Array Slot), self2 x0 x1 S = some o → zH D y A0 s H locs S → lv_has ls 5 [(0, .ref x0), (1, .int x1)] → W p l e ({ frames := 2, cells := 0, slots := 0, locals := 40 } : Room) s m args below meth c H locs 0 0 Q (F0 m 2 ls [])) {x0 : Nat} {x1 : Int32} {S : ZS} {H : Heap} {locs : List Loc} {ls : Array Slot} (hf : f_X5_hasSoundRights_92 self2 x0 x1 S = some o) (hM : zH D y A0 s H locs S) (hl : lv_has ls 5 [(0, .ref x0), (1, .int x1)]) : W p l e ({ frames := 2, cells := 0, slots := 0, locals := 40 } : Room) s m args below meth c H locs 0 0 Q (F0 m 92 ls []) := by
  obtain ⟨hx, hb, hml, hown, hts⟩ := id X
  unfold f_X5_hasSoundRights_92 at hf
  obtain ⟨v1, ev, hf⟩ := m_bndE hf
  refine lv_iinc (v := v1) (lv' := [(1, .int v1), (0, .ref x0)]) hx hb dX5_hasSoundRights_92 hl (k := 1) rfl (by rw [ev]; rfl) (by decide) rfl (fun ls hl => ?_)
  clear ev
  refine lv_goto (tgt := 2) hx hb dX5_hasSoundRights_95 (by decide) ?_
  exact hself2 x0 v1 _ _ _ _ hf hM (lv_sub hl [1, 0] rfl)
def f_X5_hasSoundRights_90 (S : ZS) : Option (Int32 × ZS) :=
  m_chk (vp_nar .boolean (0 : Int32) = (0 : Int32)) (some ((0 : Int32), S))

set_option maxRecDepth 100000 in
set_option maxHeartbeats 4000000 in
theorem w_X5_hasSoundRights_90 {p : Program} {l : Launch} {e : Env} {s : State} {m : MethodId} {args : Array Value} {below : List Frame} {meth : Method} {c : Code} {Q : State → Prop} {D : va_G} {y : Nat → ClassId} {A0 : Nat → Prop} {o : Int32 × ZS} (X : CallFix p m c cX5_hasSoundRights 5 s args wsX5_hasSoundRights RX5) (hret : zRi p l e ({ frames := 2, cells := 0, slots := 0, locals := 40 } : Room) s m args below meth c Q cX5_hasSoundRights D y A0 .boolean o) {S : ZS} {H : Heap} {locs : List Loc} {ls : Array Slot} (hf : f_X5_hasSoundRights_90  S = some o) (hM : zH D y A0 s H locs S) (hl : lv_has ls 5 []) : W p l e ({ frames := 2, cells := 0, slots := 0, locals := 40 } : Room) s m args below meth c H locs 0 0 Q (F0 m 90 ls []) := by
  obtain ⟨hx, hb, hml, hown, hts⟩ := id X
  unfold f_X5_hasSoundRights_90 at hf
  refine lv_iconst (v := (0 : Int32)) hx hb dX5_hasSoundRights_90 (by decide) ?_
  obtain ⟨cd, hf⟩ := m_chkE hf
  cases hf
  exact hret H locs _ ls hM (m_nb cd) dX5_hasSoundRights_91
def f_X5_hasSoundRights_50 (self2 : Nat → Int32 → ZS → Option (Int32 × ZS)) (x0 : Nat) (x1 : Int32) (x2 : Int32) (x3 : Int32) (t0 : Int32) (S : ZS) : Option (Int32 × ZS) :=
  m_chk (x0 ∈ zL S ∧ zK S x0 = 0) (
  m_bnd ((zI S 4 x0) >>> (x1 &&& 31)) (fun v1 =>
  m_bnd (v1 &&& (1 : Int32)) (fun v2 =>
  m_if (v2 = (1 : Int32)) (
  m_chk (x0 ∈ zL S ∧ zK S x0 = 0) (
  m_cal (zP S 0 x0) (fun b3 =>
  m_chk (b3 ∈ zL S ∧ zK S b3 = 14) (
  m_chk (¬ (x3 < 0 ∨ zN S b3 ≤ (x3).toNatClampNeg)) (
  m_bnd (zA S b3 (x3).toNatClampNeg) (fun v4 =>
  m_bnd ((6 : Int32) + x2) (fun v5 =>
  m_if (v4 = v5) (
  m_chk (x0 ∈ zL S ∧ zK S x0 = 0) (
  m_cal (zP S 0 x0) (fun b6 =>
  m_chk (b6 ∈ zL S ∧ zK S b6 = 14) (
  m_chk (¬ (t0 < 0 ∨ zN S b6 ≤ (t0).toNatClampNeg)) (
  m_bnd (zA S b6 (t0).toNatClampNeg) (fun v7 =>
  m_bnd ((4 : Int32) + x2) (fun v8 =>
  m_if (v7 = v8) (
  f_X5_hasSoundRights_92 self2 x0 x1 S
  ) (
  f_X5_hasSoundRights_90  S
  )))))))
  ) (
  f_X5_hasSoundRights_90  S
  )))))))
  ) (
  f_X5_hasSoundRights_92 self2 x0 x1 S
  ))))

set_option maxRecDepth 100000 in
set_option maxHeartbeats 4000000 in
theorem w_X5_hasSoundRights_50 {p : Program} {l : Launch} {e : Env} {s : State} {m : MethodId} {args : Array Value} {below : List Frame} {meth : Method} {c : Code} {Q : State → Prop} {D : va_G} {y : Nat → ClassId} {A0 : Nat → Prop} {o : Int32 × ZS} (X : CallFix p m c cX5_hasSoundRights 5 s args wsX5_hasSoundRights RX5) (hret : zRi p l e ({ frames := 2, cells := 0, slots := 0, locals := 40 } : Room) s m args below meth c Q cX5_hasSoundRights D y A0 .boolean o) {self2 : Nat → Int32 → ZS → Option (Int32 × ZS)} (hself2 : ∀ (x0 : Nat) (x1 : Int32) (S : ZS) (H : Heap) (locs : List Loc) (ls : Array Slot), self2 x0 x1 S = some o → zH D y A0 s H locs S → lv_has ls 5 [(0, .ref x0), (1, .int x1)] → W p l e ({ frames := 2, cells := 0, slots := 0, locals := 40 } : Room) s m args below meth c H locs 0 0 Q (F0 m 2 ls [])) {x0 : Nat} {x1 : Int32} {x2 : Int32} {x3 : Int32} {t0 : Int32} {S : ZS} {H : Heap} {locs : List Loc} {ls : Array Slot} (hf : f_X5_hasSoundRights_50 self2 x0 x1 x2 x3 t0 S = some o) (hM : zH D y A0 s H locs S) (hl : lv_has ls 5 [(0, .ref x0), (1, .int x1), (2, .int x2), (3, .int x3)]) : W p l e ({ frames := 2, cells := 0, slots := 0, locals := 40 } : Room) s m args below meth c H locs 0 0 Q (F0 m 50 ls [.int t0]) := by
  obtain ⟨hx, hb, hml, hown, hts⟩ := id X
  unfold f_X5_hasSoundRights_50 at hf
  refine lv_istore (lv' := [(4, .int t0), (0, .ref x0), (1, .int x1), (2, .int x2), (3, .int x3)]) hx hb dX5_hasSoundRights_50 hl (by decide) rfl (fun ls hl => ?_)
  refine lv_aload_n hx hb dX5_hasSoundRights_52 rfl (lv_at hl 1 rfl) ?_
  obtain ⟨ca, hf⟩ := m_chkE hf
  refine z_get (k := 0) (j := 4) (C := RX0) (T := TX0) (N := 7) (fl := zf_0) (v := .int (zI S 4 x0)) X hw_X5_hasSoundRights_0 hM rfl zc_0 ca (by decide) fl_X5_hasSoundRights_0_4 rfl dX5_hasSoundRights_53 ?_
  clear ca
  refine lv_iload_n hx hb dX5_hasSoundRights_56 rfl (lv_at hl 2 rfl) ?_
  refine lv_ishr hx hb dX5_hasSoundRights_57 ?_
  obtain ⟨v1, ev, hf⟩ := m_bndE hf
  refine m_top ev ?_
  clear ev
  refine lv_iconst (v := (1 : Int32)) hx hb dX5_hasSoundRights_58 (by decide) ?_
  refine lv_iand hx hb dX5_hasSoundRights_59 ?_
  obtain ⟨v2, ev, hf⟩ := m_bndE hf
  refine m_top ev ?_
  clear ev
  refine lv_iconst (v := (1 : Int32)) hx hb dX5_hasSoundRights_60 (by decide) ?_
  refine lv_icmp_ne (tgt := 92) hx hb dX5_hasSoundRights_61 (by decide) (fun cc1 => ?_) (fun cc1 => ?_)
  · replace hf := m_ifF hf cc1
    exact w_X5_hasSoundRights_92 (x0 := x0) (x1 := x1) X hret hself2 hf hM (lv_sub hl [1, 2] rfl)
  · replace hf := m_ifT hf cc1
    refine lv_aload_n hx hb dX5_hasSoundRights_64 rfl (lv_at hl 1 rfl) ?_
    obtain ⟨ca, hf⟩ := m_chkE hf
    refine z_get (k := 0) (j := 0) (C := RX0) (T := TX0) (N := 7) (fl := zf_0) (v := va_rf (zP S 0 x0)) X hw_X5_hasSoundRights_0 hM rfl zc_0 ca (by decide) fl_X5_hasSoundRights_0_0 rfl dX5_hasSoundRights_65 ?_
    clear ca
    obtain ⟨b3, hb9, hf⟩ := m_calE hf
    refine z_topr hb9 ?_
    clear hb9
    refine lv_iload_n hx hb dX5_hasSoundRights_68 rfl (lv_at hl 4 rfl) ?_
    obtain ⟨ca, hf⟩ := m_chkE hf
    obtain ⟨cd, hf⟩ := m_chkE hf
    refine z_iald X hM ca cd dX5_hasSoundRights_69 ?_
    clear ca cd
    obtain ⟨v4, ev, hf⟩ := m_bndE hf
    refine m_top ev ?_
    clear ev
    refine lv_bipush (v := (6 : Int32)) hx hb dX5_hasSoundRights_70 (by decide) ?_
    refine lv_iload_n hx hb dX5_hasSoundRights_72 rfl (lv_at hl 3 rfl) ?_
    refine lv_iadd hx hb dX5_hasSoundRights_73 ?_
    obtain ⟨v5, ev, hf⟩ := m_bndE hf
    refine m_top ev ?_
    clear ev
    refine lv_icmp_ne (tgt := 90) hx hb dX5_hasSoundRights_74 (by decide) (fun cc1 => ?_) (fun cc1 => ?_)
    · replace hf := m_ifF hf cc1
      exact w_X5_hasSoundRights_90 X hret hf hM (lv_sub hl [] rfl)
    · replace hf := m_ifT hf cc1
      refine lv_aload_n hx hb dX5_hasSoundRights_77 rfl (lv_at hl 1 rfl) ?_
      obtain ⟨ca, hf⟩ := m_chkE hf
      refine z_get (k := 0) (j := 0) (C := RX0) (T := TX0) (N := 7) (fl := zf_0) (v := va_rf (zP S 0 x0)) X hw_X5_hasSoundRights_0 hM rfl zc_0 ca (by decide) fl_X5_hasSoundRights_0_0 rfl dX5_hasSoundRights_78 ?_
      clear ca
      obtain ⟨b6, hb9, hf⟩ := m_calE hf
      refine z_topr hb9 ?_
      clear hb9
      refine lv_iload hx hb dX5_hasSoundRights_81 (lv_at hl 0 rfl) ?_
      obtain ⟨ca, hf⟩ := m_chkE hf
      obtain ⟨cd, hf⟩ := m_chkE hf
      refine z_iald X hM ca cd dX5_hasSoundRights_83 ?_
      clear ca cd
      obtain ⟨v7, ev, hf⟩ := m_bndE hf
      refine m_top ev ?_
      clear ev
      refine lv_iconst (v := (4 : Int32)) hx hb dX5_hasSoundRights_84 (by decide) ?_
      refine lv_iload_n hx hb dX5_hasSoundRights_85 rfl (lv_at hl 3 rfl) ?_
      refine lv_iadd hx hb dX5_hasSoundRights_86 ?_
      obtain ⟨v8, ev, hf⟩ := m_bndE hf
      refine m_top ev ?_
      clear ev
      refine lv_icmp_eq (tgt := 92) hx hb dX5_hasSoundRights_87 (by decide) (fun cc1 => ?_) (fun cc1 => ?_)
      · replace hf := m_ifT hf cc1
        exact w_X5_hasSoundRights_92 (x0 := x0) (x1 := x1) X hret hself2 hf hM (lv_sub hl [1, 2] rfl)
      · replace hf := m_ifF hf cc1
        exact w_X5_hasSoundRights_90 X hret hf hM (lv_sub hl [] rfl)
def f_X5_hasSoundRights_34 (self2 : Nat → Int32 → ZS → Option (Int32 × ZS)) (x0 : Nat) (x1 : Int32) (x2 : Int32) (t0 : Int32) (S : ZS) : Option (Int32 × ZS) :=
  m_bnd (x1 - x1 / (2 : Int32) * (2 : Int32)) (fun v1 =>
  m_if (v1 = 0) (
  m_bnd (t0 + (3 : Int32)) (fun v3 =>
  f_X5_hasSoundRights_50 self2 x0 x1 x2 t0 v3 S)
  ) (
  m_bnd (t0 - (4 : Int32)) (fun v2 =>
  f_X5_hasSoundRights_50 self2 x0 x1 x2 t0 v2 S)
  ))

set_option maxRecDepth 100000 in
set_option maxHeartbeats 4000000 in
theorem w_X5_hasSoundRights_34 {p : Program} {l : Launch} {e : Env} {s : State} {m : MethodId} {args : Array Value} {below : List Frame} {meth : Method} {c : Code} {Q : State → Prop} {D : va_G} {y : Nat → ClassId} {A0 : Nat → Prop} {o : Int32 × ZS} (X : CallFix p m c cX5_hasSoundRights 5 s args wsX5_hasSoundRights RX5) (hret : zRi p l e ({ frames := 2, cells := 0, slots := 0, locals := 40 } : Room) s m args below meth c Q cX5_hasSoundRights D y A0 .boolean o) {self2 : Nat → Int32 → ZS → Option (Int32 × ZS)} (hself2 : ∀ (x0 : Nat) (x1 : Int32) (S : ZS) (H : Heap) (locs : List Loc) (ls : Array Slot), self2 x0 x1 S = some o → zH D y A0 s H locs S → lv_has ls 5 [(0, .ref x0), (1, .int x1)] → W p l e ({ frames := 2, cells := 0, slots := 0, locals := 40 } : Room) s m args below meth c H locs 0 0 Q (F0 m 2 ls [])) {x0 : Nat} {x1 : Int32} {x2 : Int32} {t0 : Int32} {S : ZS} {H : Heap} {locs : List Loc} {ls : Array Slot} (hf : f_X5_hasSoundRights_34 self2 x0 x1 x2 t0 S = some o) (hM : zH D y A0 s H locs S) (hl : lv_has ls 5 [(0, .ref x0), (1, .int x1), (2, .int x2)]) : W p l e ({ frames := 2, cells := 0, slots := 0, locals := 40 } : Room) s m args below meth c H locs 0 0 Q (F0 m 34 ls [.int t0]) := by
  obtain ⟨hx, hb, hml, hown, hts⟩ := id X
  unfold f_X5_hasSoundRights_34 at hf
  refine lv_istore_n (lv' := [(3, .int t0), (0, .ref x0), (1, .int x1), (2, .int x2)]) hx hb dX5_hasSoundRights_34 rfl hl (by decide) rfl (fun ls hl => ?_)
  refine lv_iload_n hx hb dX5_hasSoundRights_35 rfl (lv_at hl 2 rfl) ?_
  refine lv_iconst (v := (2 : Int32)) hx hb dX5_hasSoundRights_36 (by decide) ?_
  refine lv_irem hx hb dX5_hasSoundRights_37 (by decide) ?_
  obtain ⟨v1, ev, hf⟩ := m_bndE hf
  refine m_top ev ?_
  clear ev
  refine lv_if_ne (tgt := 47) hx hb dX5_hasSoundRights_38 (by decide) (fun cc1 => ?_) (fun cc1 => ?_)
  · replace hf := m_ifF hf cc1
    refine lv_iload_n hx hb dX5_hasSoundRights_47 rfl (lv_at hl 0 rfl) ?_
    refine lv_iconst (v := (4 : Int32)) hx hb dX5_hasSoundRights_48 (by decide) ?_
    refine lv_isub hx hb dX5_hasSoundRights_49 ?_
    obtain ⟨v2, ev, hf⟩ := m_bndE hf
    refine m_top ev ?_
    clear ev
    exact w_X5_hasSoundRights_50 (x0 := x0) (x1 := x1) (x2 := x2) (x3 := t0) (t0 := v2) X hret hself2 hf hM (lv_sub hl [1, 2, 3, 0] rfl)
  · replace hf := m_ifT hf cc1
    refine lv_iload_n hx hb dX5_hasSoundRights_41 rfl (lv_at hl 0 rfl) ?_
    refine lv_iconst (v := (3 : Int32)) hx hb dX5_hasSoundRights_42 (by decide) ?_
    refine lv_iadd hx hb dX5_hasSoundRights_43 ?_
    obtain ⟨v3, ev, hf⟩ := m_bndE hf
    refine m_top ev ?_
    clear ev
    refine lv_goto (tgt := 50) hx hb dX5_hasSoundRights_44 (by decide) ?_
    exact w_X5_hasSoundRights_50 (x0 := x0) (x1 := x1) (x2 := x2) (x3 := t0) (t0 := v3) X hret hself2 hf hM (lv_sub hl [1, 2, 3, 0] rfl)
def f_X5_hasSoundRights_22 (self2 : Nat → Int32 → ZS → Option (Int32 × ZS)) (x0 : Nat) (x1 : Int32) (t0 : Int32) (S : ZS) : Option (Int32 × ZS) :=
  m_if ((2 : Int32) ≤ x1) (
  f_X5_hasSoundRights_34 self2 x0 x1 t0 (60 : Int32) S
  ) (
  f_X5_hasSoundRights_34 self2 x0 x1 t0 (4 : Int32) S
  )

set_option maxRecDepth 100000 in
set_option maxHeartbeats 4000000 in
theorem w_X5_hasSoundRights_22 {p : Program} {l : Launch} {e : Env} {s : State} {m : MethodId} {args : Array Value} {below : List Frame} {meth : Method} {c : Code} {Q : State → Prop} {D : va_G} {y : Nat → ClassId} {A0 : Nat → Prop} {o : Int32 × ZS} (X : CallFix p m c cX5_hasSoundRights 5 s args wsX5_hasSoundRights RX5) (hret : zRi p l e ({ frames := 2, cells := 0, slots := 0, locals := 40 } : Room) s m args below meth c Q cX5_hasSoundRights D y A0 .boolean o) {self2 : Nat → Int32 → ZS → Option (Int32 × ZS)} (hself2 : ∀ (x0 : Nat) (x1 : Int32) (S : ZS) (H : Heap) (locs : List Loc) (ls : Array Slot), self2 x0 x1 S = some o → zH D y A0 s H locs S → lv_has ls 5 [(0, .ref x0), (1, .int x1)] → W p l e ({ frames := 2, cells := 0, slots := 0, locals := 40 } : Room) s m args below meth c H locs 0 0 Q (F0 m 2 ls [])) {x0 : Nat} {x1 : Int32} {t0 : Int32} {S : ZS} {H : Heap} {locs : List Loc} {ls : Array Slot} (hf : f_X5_hasSoundRights_22 self2 x0 x1 t0 S = some o) (hM : zH D y A0 s H locs S) (hl : lv_has ls 5 [(0, .ref x0), (1, .int x1)]) : W p l e ({ frames := 2, cells := 0, slots := 0, locals := 40 } : Room) s m args below meth c H locs 0 0 Q (F0 m 22 ls [.int t0]) := by
  obtain ⟨hx, hb, hml, hown, hts⟩ := id X
  unfold f_X5_hasSoundRights_22 at hf
  refine lv_istore_n (lv' := [(2, .int t0), (0, .ref x0), (1, .int x1)]) hx hb dX5_hasSoundRights_22 rfl hl (by decide) rfl (fun ls hl => ?_)
  refine lv_iload_n hx hb dX5_hasSoundRights_23 rfl (lv_at hl 2 rfl) ?_
  refine lv_iconst (v := (2 : Int32)) hx hb dX5_hasSoundRights_24 (by decide) ?_
  refine lv_icmp_ge (tgt := 32) hx hb dX5_hasSoundRights_25 (by decide) (fun cc1 => ?_) (fun cc1 => ?_)
  · replace hf := m_ifT hf cc1
    refine lv_bipush (v := (60 : Int32)) hx hb dX5_hasSoundRights_32 (by decide) ?_
    exact w_X5_hasSoundRights_34 (x0 := x0) (x1 := x1) (x2 := t0) (t0 := (60 : Int32)) X hret hself2 hf hM (lv_sub hl [1, 2, 0] rfl)
  · replace hf := m_ifF hf cc1
    refine lv_iconst (v := (4 : Int32)) hx hb dX5_hasSoundRights_28 (by decide) ?_
    refine lv_goto (tgt := 34) hx hb dX5_hasSoundRights_29 (by decide) ?_
    exact w_X5_hasSoundRights_34 (x0 := x0) (x1 := x1) (x2 := t0) (t0 := (4 : Int32)) X hret hself2 hf hM (lv_sub hl [1, 2, 0] rfl)
def f_X5_hasSoundRights_2s (self2 : Nat → Int32 → ZS → Option (Int32 × ZS)) (x0 : Nat) (x1 : Int32) (S : ZS) : Option (Int32 × ZS) :=
  m_chk (2 < zSn) (
  m_cal (f_J0_length_8abf5 2 S) (fun o1 =>
  m_if (o1.1 ≤ x1) (
  m_chk (vp_nar .boolean (1 : Int32) = (1 : Int32)) (some ((1 : Int32), o1.2))
  ) (
  m_if ((2 : Int32) ≤ x1) (
  f_X5_hasSoundRights_22 self2 x0 x1 (8 : Int32) o1.2
  ) (
  f_X5_hasSoundRights_22 self2 x0 x1 (0 : Int32) o1.2
  )
  )))

set_option maxRecDepth 100000 in
set_option maxHeartbeats 4000000 in
theorem ws_X5_hasSoundRights_2 {p : Program} {l : Launch} {e : Env} {s : State} {m : MethodId} {args : Array Value} {below : List Frame} {meth : Method} {c : Code} {Q : State → Prop} {D : va_G} {y : Nat → ClassId} {A0 : Nat → Prop} {o : Int32 × ZS} (X : CallFix p m c cX5_hasSoundRights 5 s args wsX5_hasSoundRights RX5) (hret : zRi p l e ({ frames := 2, cells := 0, slots := 0, locals := 40 } : Room) s m args below meth c Q cX5_hasSoundRights D y A0 .boolean o) {self2 : Nat → Int32 → ZS → Option (Int32 × ZS)} (hself2 : ∀ (x0 : Nat) (x1 : Int32) (S : ZS) (H : Heap) (locs : List Loc) (ls : Array Slot), self2 x0 x1 S = some o → zH D y A0 s H locs S → lv_has ls 5 [(0, .ref x0), (1, .int x1)] → W p l e ({ frames := 2, cells := 0, slots := 0, locals := 40 } : Room) s m args below meth c H locs 0 0 Q (F0 m 2 ls [])) {x0 : Nat} {x1 : Int32} {S : ZS} {H : Heap} {locs : List Loc} {ls : Array Slot} (hf : f_X5_hasSoundRights_2s self2 x0 x1 S = some o) (hM : zH D y A0 s H locs S) (hl : lv_has ls 5 [(0, .ref x0), (1, .int x1)]) : W p l e ({ frames := 2, cells := 0, slots := 0, locals := 40 } : Room) s m args below meth c H locs 0 0 Q (F0 m 2 ls []) := by
  obtain ⟨hx, hb, hml, hown, hts⟩ := id X
  unfold f_X5_hasSoundRights_2s at hf
  refine lv_iload_n hx hb dX5_hasSoundRights_2 rfl (lv_at hl 1 rfl) ?_
  refine z_ldcS X hM sr_X5_hasSoundRights_91 dX5_hasSoundRights_3 ?_
  obtain ⟨ca, hf⟩ := m_chkE hf
  obtain ⟨o1, ho, hf⟩ := m_calE hf
  refine z_callTi X hM ca (c_J0_length_8abf5 ho) gX5_hasSoundRights_J0_length_8abf5 rfl ⟨rfl, rfl⟩ hd_J0_length_8abf5 ⟨Nat.le_of_ble_eq_true rfl, Nat.le_of_ble_eq_true rfl⟩ rfl hl.1 rfl (Nat.le_of_ble_eq_true rfl) dX5_hasSoundRights_5 (fun H locs hM => ?_)
  clear ho
  refine lv_icmp_ge (tgt := 98) hx hb dX5_hasSoundRights_8 (by decide) (fun cc1 => ?_) (fun cc1 => ?_)
  · replace hf := m_ifT hf cc1
    refine lv_iconst (v := (1 : Int32)) hx hb dX5_hasSoundRights_98 (by decide) ?_
    obtain ⟨cd, hf⟩ := m_chkE hf
    cases hf
    exact hret H locs _ ls hM (m_nb cd) dX5_hasSoundRights_99
  · replace hf := m_ifF hf cc1
    refine lv_iload_n hx hb dX5_hasSoundRights_11 rfl (lv_at hl 1 rfl) ?_
    refine lv_iconst (v := (2 : Int32)) hx hb dX5_hasSoundRights_12 (by decide) ?_
    refine lv_icmp_ge (tgt := 20) hx hb dX5_hasSoundRights_13 (by decide) (fun cc1 => ?_) (fun cc1 => ?_)
    · replace hf := m_ifT hf cc1
      refine lv_bipush (v := (8 : Int32)) hx hb dX5_hasSoundRights_20 (by decide) ?_
      exact w_X5_hasSoundRights_22 (x0 := x0) (x1 := x1) (t0 := (8 : Int32)) X hret hself2 hf hM (lv_sub hl [0, 1] rfl)
    · replace hf := m_ifF hf cc1
      refine lv_iconst (v := (0 : Int32)) hx hb dX5_hasSoundRights_16 (by decide) ?_
      refine lv_goto (tgt := 22) hx hb dX5_hasSoundRights_17 (by decide) ?_
      exact w_X5_hasSoundRights_22 (x0 := x0) (x1 := x1) (t0 := (0 : Int32)) X hret hself2 hf hM (lv_sub hl [0, 1] rfl)
def f_X5_hasSoundRights_2 : Nat → Nat → Int32 → ZS → Option (Int32 × ZS)
  | 0 => fun _ _ _ => none
  | n + 1 => f_X5_hasSoundRights_2s (f_X5_hasSoundRights_2 n)
theorem w_X5_hasSoundRights_2 {p : Program} {l : Launch} {e : Env} {s : State} {m : MethodId} {args : Array Value} {below : List Frame} {meth : Method} {c : Code} {Q : State → Prop} {D : va_G} {y : Nat → ClassId} {A0 : Nat → Prop} {o : Int32 × ZS} (X : CallFix p m c cX5_hasSoundRights 5 s args wsX5_hasSoundRights RX5) (hret : zRi p l e ({ frames := 2, cells := 0, slots := 0, locals := 40 } : Room) s m args below meth c Q cX5_hasSoundRights D y A0 .boolean o) (n : Nat) : ∀ (x0 : Nat) (x1 : Int32) (S : ZS) (H : Heap) (locs : List Loc) (ls : Array Slot), f_X5_hasSoundRights_2 n x0 x1 S = some o → zH D y A0 s H locs S → lv_has ls 5 [(0, .ref x0), (1, .int x1)] → W p l e ({ frames := 2, cells := 0, slots := 0, locals := 40 } : Room) s m args below meth c H locs 0 0 Q (F0 m 2 ls []) := by
  induction n with
  | zero => intro x0 x1 S H locs ls hf; cases hf
  | succ n ih => intro x0 x1 S H locs ls hf hM hl; exact ws_X5_hasSoundRights_2 X hret (self2 := f_X5_hasSoundRights_2 n) ih hf hM hl
def f_X5_hasSoundRights_0 (x0 : Nat) (S : ZS) : Option (Int32 × ZS) :=
  f_X5_hasSoundRights_2 mFuel x0 (0 : Int32) S

set_option maxRecDepth 100000 in
set_option maxHeartbeats 4000000 in
theorem w_X5_hasSoundRights_0 {p : Program} {l : Launch} {e : Env} {s : State} {m : MethodId} {args : Array Value} {below : List Frame} {meth : Method} {c : Code} {Q : State → Prop} {D : va_G} {y : Nat → ClassId} {A0 : Nat → Prop} {o : Int32 × ZS} (X : CallFix p m c cX5_hasSoundRights 5 s args wsX5_hasSoundRights RX5) (hret : zRi p l e ({ frames := 2, cells := 0, slots := 0, locals := 40 } : Room) s m args below meth c Q cX5_hasSoundRights D y A0 .boolean o) {x0 : Nat} {S : ZS} {H : Heap} {locs : List Loc} {ls : Array Slot} (hf : f_X5_hasSoundRights_0 x0 S = some o) (hM : zH D y A0 s H locs S) (hl : lv_has ls 5 [(0, .ref x0)]) : W p l e ({ frames := 2, cells := 0, slots := 0, locals := 40 } : Room) s m args below meth c H locs 0 0 Q (F0 m 0 ls []) := by
  obtain ⟨hx, hb, hml, hown, hts⟩ := id X
  unfold f_X5_hasSoundRights_0 at hf
  refine lv_iconst (v := (0 : Int32)) hx hb dX5_hasSoundRights_0 (by decide) ?_
  refine lv_istore_n (lv' := [(1, .int (0 : Int32)), (0, .ref x0)]) hx hb dX5_hasSoundRights_1 rfl hl (by decide) rfl (fun ls hl => ?_)
  exact w_X5_hasSoundRights_2 X hret _ x0 (0 : Int32) _ _ _ _ hf hM (lv_sub hl [1, 0] rfl)
def f_X5_hasSoundRights (x0 : Nat) (S : ZS) : Option (Int32 × ZS) := f_X5_hasSoundRights_0 x0 S
theorem c_X5_hasSoundRights {l : Launch} {D : va_G} {y : Nat → ClassId} {x0 : Nat} {S : ZS} {o : Int32 × ZS} (hf : f_X5_hasSoundRights x0 S = some o) : zMi l yX5_hasSoundRights wsX5_hasSoundRights ({ frames := 2, cells := 0, slots := 0, locals := 40 } : Room) [.ref x0] D y S o :=
  z_entryI (own := RX5) (cc := cX5_hasSoundRights) (maxL := 5) (by decide) rfl rfl (Nat.le_of_ble_eq_true rfl) (fun p e s m args below meth c A0 Q H locs ls X hret hM hl => w_X5_hasSoundRights_0 X hret hf hM (lv_sub hl [0] rfl))
theorem hd_X5_hasSoundRights : yX5_hasSoundRights.cls ≠ "java/lang/invoke/MethodHandle" ∧ yX5_hasSoundRights.cls ≠ "java/lang/invoke/VarHandle" ∧ (parseMethodDescriptor yX5_hasSoundRights.desc).map (fun d => d.parameters.length) = some 1 := by decide +kernel
theorem fl_X5_hasSoundPassed_0_0 : Cond.fieldLink RX5 115 "MoveTexts$Board" "men" "[I" ∈ wsX5_hasSoundPassed := by decide +kernel
theorem fl_X5_hasSoundPassed_0_3 : Cond.fieldLink RX5 88 "MoveTexts$Board" "side" "I" ∈ wsX5_hasSoundPassed := by decide +kernel
theorem fl_X5_hasSoundPassed_0_5 : Cond.fieldLink RX5 106 "MoveTexts$Board" "passed" "I" ∈ wsX5_hasSoundPassed := by decide +kernel
theorem hw_X5_hasSoundPassed_0 : ∀ w ∈ wsX00, w ∈ wsX5_hasSoundPassed := by decide +kernel
def f_X5_hasSoundPassed_49 (S : ZS) : Option (Int32 × ZS) :=
  m_chk (vp_nar .boolean (0 : Int32) = (0 : Int32)) (some ((0 : Int32), S))

set_option maxRecDepth 100000 in
set_option maxHeartbeats 4000000 in
theorem w_X5_hasSoundPassed_49 {p : Program} {l : Launch} {e : Env} {s : State} {m : MethodId} {args : Array Value} {below : List Frame} {meth : Method} {c : Code} {Q : State → Prop} {D : va_G} {y : Nat → ClassId} {A0 : Nat → Prop} {o : Int32 × ZS} (X : CallFix p m c cX5_hasSoundPassed 4 s args wsX5_hasSoundPassed RX5) (hret : zRi p l e ({ frames := 1, cells := 0, slots := 0, locals := 24 } : Room) s m args below meth c Q cX5_hasSoundPassed D y A0 .boolean o) {S : ZS} {H : Heap} {locs : List Loc} {ls : Array Slot} (hf : f_X5_hasSoundPassed_49  S = some o) (hM : zH D y A0 s H locs S) (hl : lv_has ls 4 []) : W p l e ({ frames := 1, cells := 0, slots := 0, locals := 24 } : Room) s m args below meth c H locs 0 0 Q (F0 m 49 ls []) := by
  obtain ⟨hx, hb, hml, hown, hts⟩ := id X
  unfold f_X5_hasSoundPassed_49 at hf
  refine lv_iconst (v := (0 : Int32)) hx hb dX5_hasSoundPassed_49 (by decide) ?_
  obtain ⟨cd, hf⟩ := m_chkE hf
  cases hf
  exact hret H locs _ ls hM (m_nb cd) dX5_hasSoundPassed_50
def f_X5_hasSoundPassed_113 (t0 : Int32) (S : ZS) : Option (Int32 × ZS) :=
  m_chk (vp_nar .boolean t0 = t0) (some (t0, S))

set_option maxRecDepth 100000 in
set_option maxHeartbeats 4000000 in
theorem w_X5_hasSoundPassed_113 {p : Program} {l : Launch} {e : Env} {s : State} {m : MethodId} {args : Array Value} {below : List Frame} {meth : Method} {c : Code} {Q : State → Prop} {D : va_G} {y : Nat → ClassId} {A0 : Nat → Prop} {o : Int32 × ZS} (X : CallFix p m c cX5_hasSoundPassed 4 s args wsX5_hasSoundPassed RX5) (hret : zRi p l e ({ frames := 1, cells := 0, slots := 0, locals := 24 } : Room) s m args below meth c Q cX5_hasSoundPassed D y A0 .boolean o) {t0 : Int32} {S : ZS} {H : Heap} {locs : List Loc} {ls : Array Slot} (hf : f_X5_hasSoundPassed_113 t0 S = some o) (hM : zH D y A0 s H locs S) (hl : lv_has ls 4 []) : W p l e ({ frames := 1, cells := 0, slots := 0, locals := 24 } : Room) s m args below meth c H locs 0 0 Q (F0 m 113 ls [.int t0]) := by
  obtain ⟨hx, hb, hml, hown, hts⟩ := id X
  unfold f_X5_hasSoundPassed_113 at hf
  obtain ⟨cd, hf⟩ := m_chkE hf
  cases hf
  exact hret H locs _ ls hM (m_nb cd) dX5_hasSoundPassed_113
def f_X5_hasSoundPassed_112 (S : ZS) : Option (Int32 × ZS) :=
  f_X5_hasSoundPassed_113 (0 : Int32) S

set_option maxRecDepth 100000 in
set_option maxHeartbeats 4000000 in
theorem w_X5_hasSoundPassed_112 {p : Program} {l : Launch} {e : Env} {s : State} {m : MethodId} {args : Array Value} {below : List Frame} {meth : Method} {c : Code} {Q : State → Prop} {D : va_G} {y : Nat → ClassId} {A0 : Nat → Prop} {o : Int32 × ZS} (X : CallFix p m c cX5_hasSoundPassed 4 s args wsX5_hasSoundPassed RX5) (hret : zRi p l e ({ frames := 1, cells := 0, slots := 0, locals := 24 } : Room) s m args below meth c Q cX5_hasSoundPassed D y A0 .boolean o) {S : ZS} {H : Heap} {locs : List Loc} {ls : Array Slot} (hf : f_X5_hasSoundPassed_112  S = some o) (hM : zH D y A0 s H locs S) (hl : lv_has ls 4 []) : W p l e ({ frames := 1, cells := 0, slots := 0, locals := 24 } : Room) s m args below meth c H locs 0 0 Q (F0 m 112 ls []) := by
  obtain ⟨hx, hb, hml, hown, hts⟩ := id X
  unfold f_X5_hasSoundPassed_112 at hf
  refine lv_iconst (v := (0 : Int32)) hx hb dX5_hasSoundPassed_112 (by decide) ?_
  exact w_X5_hasSoundPassed_113 (t0 := (0 : Int32)) X hret hf hM (lv_sub hl [] rfl)
def f_X5_hasSoundPassed_62 (x0 : Nat) (x1 : Int32) (t0 : Int32) (S : ZS) : Option (Int32 × ZS) :=
  m_chk (x0 ∈ zL S ∧ zK S x0 = 0) (
  m_cal (zP S 0 x0) (fun b1 =>
  m_bnd (x1 + t0) (fun v2 =>
  m_chk (b1 ∈ zL S ∧ zK S b1 = 14) (
  m_chk (¬ (v2 < 0 ∨ zN S b1 ≤ (v2).toNatClampNeg)) (
  m_bnd (zA S b1 (v2).toNatClampNeg) (fun v3 =>
  m_chk (x0 ∈ zL S ∧ zK S x0 = 0) (
  m_bnd ((1 : Int32) - (zI S 3 x0)) (fun v4 =>
  m_bnd ((8 : Int32) * v4) (fun v5 =>
  m_bnd ((1 : Int32) + v5) (fun v6 =>
  m_if (v3 = v6) (
  m_chk (x0 ∈ zL S ∧ zK S x0 = 0) (
  m_cal (zP S 0 x0) (fun b7 =>
  m_bnd (x1 - t0) (fun v8 =>
  m_chk (b7 ∈ zL S ∧ zK S b7 = 14) (
  m_chk (¬ (v8 < 0 ∨ zN S b7 ≤ (v8).toNatClampNeg)) (
  m_bnd (zA S b7 (v8).toNatClampNeg) (fun v9 =>
  m_if (v9 = 0) (
  m_chk (x0 ∈ zL S ∧ zK S x0 = 0) (
  m_chk (x0 ∈ zL S ∧ zK S x0 = 0) (
  m_cal (f_X0_pawnAttacks x0 x1 (zI S 3 x0) S) (fun o10 =>
  m_if (o10.1 = 0) (
  f_X5_hasSoundPassed_112  o10.2
  ) (
  f_X5_hasSoundPassed_113 (1 : Int32) o10.2
  ))))
  ) (
  f_X5_hasSoundPassed_112  S
  )))))))
  ) (
  f_X5_hasSoundPassed_112  S
  )))))))))))

set_option maxRecDepth 100000 in
set_option maxHeartbeats 4000000 in
theorem w_X5_hasSoundPassed_62 {p : Program} {l : Launch} {e : Env} {s : State} {m : MethodId} {args : Array Value} {below : List Frame} {meth : Method} {c : Code} {Q : State → Prop} {D : va_G} {y : Nat → ClassId} {A0 : Nat → Prop} {o : Int32 × ZS} (X : CallFix p m c cX5_hasSoundPassed 4 s args wsX5_hasSoundPassed RX5) (hret : zRi p l e ({ frames := 1, cells := 0, slots := 0, locals := 24 } : Room) s m args below meth c Q cX5_hasSoundPassed D y A0 .boolean o) {x0 : Nat} {x1 : Int32} {t0 : Int32} {S : ZS} {H : Heap} {locs : List Loc} {ls : Array Slot} (hf : f_X5_hasSoundPassed_62 x0 x1 t0 S = some o) (hM : zH D y A0 s H locs S) (hl : lv_has ls 4 [(0, .ref x0), (1, .int x1)]) : W p l e ({ frames := 1, cells := 0, slots := 0, locals := 24 } : Room) s m args below meth c H locs 0 0 Q (F0 m 62 ls [.int t0]) := by
  obtain ⟨hx, hb, hml, hown, hts⟩ := id X
  unfold f_X5_hasSoundPassed_62 at hf
  refine lv_istore_n (lv' := [(3, .int t0), (0, .ref x0), (1, .int x1)]) hx hb dX5_hasSoundPassed_62 rfl hl (by decide) rfl (fun ls hl => ?_)
  refine lv_aload_n hx hb dX5_hasSoundPassed_63 rfl (lv_at hl 1 rfl) ?_
  obtain ⟨ca, hf⟩ := m_chkE hf
  refine z_get (k := 0) (j := 0) (C := RX0) (T := TX0) (N := 7) (fl := zf_0) (v := va_rf (zP S 0 x0)) X hw_X5_hasSoundPassed_0 hM rfl zc_0 ca (by decide) fl_X5_hasSoundPassed_0_0 rfl dX5_hasSoundPassed_64 ?_
  clear ca
  obtain ⟨b1, hb9, hf⟩ := m_calE hf
  refine z_topr hb9 ?_
  clear hb9
  refine lv_iload_n hx hb dX5_hasSoundPassed_67 rfl (lv_at hl 2 rfl) ?_
  refine lv_iload_n hx hb dX5_hasSoundPassed_68 rfl (lv_at hl 0 rfl) ?_
  refine lv_iadd hx hb dX5_hasSoundPassed_69 ?_
  obtain ⟨v2, ev, hf⟩ := m_bndE hf
  refine m_top ev ?_
  clear ev
  obtain ⟨ca, hf⟩ := m_chkE hf
  obtain ⟨cd, hf⟩ := m_chkE hf
  refine z_iald X hM ca cd dX5_hasSoundPassed_70 ?_
  clear ca cd
  obtain ⟨v3, ev, hf⟩ := m_bndE hf
  refine m_top ev ?_
  clear ev
  refine lv_iconst (v := (1 : Int32)) hx hb dX5_hasSoundPassed_71 (by decide) ?_
  refine lv_bipush (v := (8 : Int32)) hx hb dX5_hasSoundPassed_72 (by decide) ?_
  refine lv_iconst (v := (1 : Int32)) hx hb dX5_hasSoundPassed_74 (by decide) ?_
  refine lv_aload_n hx hb dX5_hasSoundPassed_75 rfl (lv_at hl 1 rfl) ?_
  obtain ⟨ca, hf⟩ := m_chkE hf
  refine z_get (k := 0) (j := 3) (C := RX0) (T := TX0) (N := 7) (fl := zf_0) (v := .int (zI S 3 x0)) X hw_X5_hasSoundPassed_0 hM rfl zc_0 ca (by decide) fl_X5_hasSoundPassed_0_3 rfl dX5_hasSoundPassed_76 ?_
  clear ca
  refine lv_isub hx hb dX5_hasSoundPassed_79 ?_
  obtain ⟨v4, ev, hf⟩ := m_bndE hf
  refine m_top ev ?_
  clear ev
  refine lv_imul hx hb dX5_hasSoundPassed_80 ?_
  obtain ⟨v5, ev, hf⟩ := m_bndE hf
  refine m_top ev ?_
  clear ev
  refine lv_iadd hx hb dX5_hasSoundPassed_81 ?_
  obtain ⟨v6, ev, hf⟩ := m_bndE hf
  refine m_top ev ?_
  clear ev
  refine lv_icmp_ne (tgt := 112) hx hb dX5_hasSoundPassed_82 (by decide) (fun cc1 => ?_) (fun cc1 => ?_)
  · replace hf := m_ifF hf cc1
    exact w_X5_hasSoundPassed_112 X hret hf hM (lv_sub hl [] rfl)
  · replace hf := m_ifT hf cc1
    refine lv_aload_n hx hb dX5_hasSoundPassed_85 rfl (lv_at hl 1 rfl) ?_
    obtain ⟨ca, hf⟩ := m_chkE hf
    refine z_get (k := 0) (j := 0) (C := RX0) (T := TX0) (N := 7) (fl := zf_0) (v := va_rf (zP S 0 x0)) X hw_X5_hasSoundPassed_0 hM rfl zc_0 ca (by decide) fl_X5_hasSoundPassed_0_0 rfl dX5_hasSoundPassed_86 ?_
    clear ca
    obtain ⟨b7, hb9, hf⟩ := m_calE hf
    refine z_topr hb9 ?_
    clear hb9
    refine lv_iload_n hx hb dX5_hasSoundPassed_89 rfl (lv_at hl 2 rfl) ?_
    refine lv_iload_n hx hb dX5_hasSoundPassed_90 rfl (lv_at hl 0 rfl) ?_
    refine lv_isub hx hb dX5_hasSoundPassed_91 ?_
    obtain ⟨v8, ev, hf⟩ := m_bndE hf
    refine m_top ev ?_
    clear ev
    obtain ⟨ca, hf⟩ := m_chkE hf
    obtain ⟨cd, hf⟩ := m_chkE hf
    refine z_iald X hM ca cd dX5_hasSoundPassed_92 ?_
    clear ca cd
    obtain ⟨v9, ev, hf⟩ := m_bndE hf
    refine m_top ev ?_
    clear ev
    refine lv_if_ne (tgt := 112) hx hb dX5_hasSoundPassed_93 (by decide) (fun cc1 => ?_) (fun cc1 => ?_)
    · replace hf := m_ifF hf cc1
      exact w_X5_hasSoundPassed_112 X hret hf hM (lv_sub hl [] rfl)
    · replace hf := m_ifT hf cc1
      refine lv_aload_n hx hb dX5_hasSoundPassed_96 rfl (lv_at hl 1 rfl) ?_
      refine lv_iload_n hx hb dX5_hasSoundPassed_97 rfl (lv_at hl 2 rfl) ?_
      refine lv_aload_n hx hb dX5_hasSoundPassed_98 rfl (lv_at hl 1 rfl) ?_
      obtain ⟨ca, hf⟩ := m_chkE hf
      refine z_get (k := 0) (j := 3) (C := RX0) (T := TX0) (N := 7) (fl := zf_0) (v := .int (zI S 3 x0)) X hw_X5_hasSoundPassed_0 hM rfl zc_0 ca (by decide) fl_X5_hasSoundPassed_0_3 rfl dX5_hasSoundPassed_99 ?_
      clear ca
      obtain ⟨ca, hf⟩ := m_chkE hf
      obtain ⟨o10, ho, hf⟩ := m_calE hf
      refine z_callVi (k := 0) (C := RX0) (T := TX0) (N := 7) (fl := zf_0) X hM rfl zc_0 ca (c_X0_pawnAttacks ho) gX5_hasSoundPassed_X0_pawnAttacks rfl ⟨rfl, rfl⟩ hd_X0_pawnAttacks ⟨Nat.le_of_ble_eq_true rfl, Nat.le_of_ble_eq_true rfl⟩ rfl hl.1 rfl (Nat.le_of_ble_eq_true rfl) dX5_hasSoundPassed_102 (fun H locs hM => ?_)
      clear ho
      refine lv_if_eq (tgt := 112) hx hb dX5_hasSoundPassed_105 (by decide) (fun cc1 => ?_) (fun cc1 => ?_)
      · replace hf := m_ifT hf cc1
        exact w_X5_hasSoundPassed_112 X hret hf hM (lv_sub hl [] rfl)
      · replace hf := m_ifF hf cc1
        refine lv_iconst (v := (1 : Int32)) hx hb dX5_hasSoundPassed_108 (by decide) ?_
        refine lv_goto (tgt := 113) hx hb dX5_hasSoundPassed_109 (by decide) ?_
        exact w_X5_hasSoundPassed_113 (t0 := (1 : Int32)) X hret hf hM (lv_sub hl [] rfl)
def f_X5_hasSoundPassed_37 (x0 : Nat) (x1 : Int32) (x2 : Int32) (t0 : Int32) (t1 : Int32) (S : ZS) : Option (Int32 × ZS) :=
  m_if (t1 = t0) (
  m_chk (x0 ∈ zL S ∧ zK S x0 = 0) (
  m_cal (zP S 0 x0) (fun b1 =>
  m_chk (b1 ∈ zL S ∧ zK S b1 = 14) (
  m_chk (¬ (x1 < 0 ∨ zN S b1 ≤ (x1).toNatClampNeg)) (
  m_bnd (zA S b1 (x1).toNatClampNeg) (fun v2 =>
  m_if (v2 = 0) (
  m_if (x2 = 0) (
  f_X5_hasSoundPassed_62 x0 x1 (8 : Int32) S
  ) (
  f_X5_hasSoundPassed_62 x0 x1 (-8 : Int32) S
  )
  ) (
  f_X5_hasSoundPassed_49  S
  ))))))
  ) (
  f_X5_hasSoundPassed_49  S
  )

set_option maxRecDepth 100000 in
set_option maxHeartbeats 4000000 in
theorem w_X5_hasSoundPassed_37 {p : Program} {l : Launch} {e : Env} {s : State} {m : MethodId} {args : Array Value} {below : List Frame} {meth : Method} {c : Code} {Q : State → Prop} {D : va_G} {y : Nat → ClassId} {A0 : Nat → Prop} {o : Int32 × ZS} (X : CallFix p m c cX5_hasSoundPassed 4 s args wsX5_hasSoundPassed RX5) (hret : zRi p l e ({ frames := 1, cells := 0, slots := 0, locals := 24 } : Room) s m args below meth c Q cX5_hasSoundPassed D y A0 .boolean o) {x0 : Nat} {x1 : Int32} {x2 : Int32} {t0 : Int32} {t1 : Int32} {S : ZS} {H : Heap} {locs : List Loc} {ls : Array Slot} (hf : f_X5_hasSoundPassed_37 x0 x1 x2 t0 t1 S = some o) (hM : zH D y A0 s H locs S) (hl : lv_has ls 4 [(0, .ref x0), (1, .int x1), (2, .int x2)]) : W p l e ({ frames := 1, cells := 0, slots := 0, locals := 24 } : Room) s m args below meth c H locs 0 0 Q (F0 m 37 ls [.int t0, .int t1]) := by
  obtain ⟨hx, hb, hml, hown, hts⟩ := id X
  unfold f_X5_hasSoundPassed_37 at hf
  refine lv_icmp_ne (tgt := 49) hx hb dX5_hasSoundPassed_37 (by decide) (fun cc1 => ?_) (fun cc1 => ?_)
  · replace hf := m_ifF hf cc1
    exact w_X5_hasSoundPassed_49 X hret hf hM (lv_sub hl [] rfl)
  · replace hf := m_ifT hf cc1
    refine lv_aload_n hx hb dX5_hasSoundPassed_40 rfl (lv_at hl 0 rfl) ?_
    obtain ⟨ca, hf⟩ := m_chkE hf
    refine z_get (k := 0) (j := 0) (C := RX0) (T := TX0) (N := 7) (fl := zf_0) (v := va_rf (zP S 0 x0)) X hw_X5_hasSoundPassed_0 hM rfl zc_0 ca (by decide) fl_X5_hasSoundPassed_0_0 rfl dX5_hasSoundPassed_41 ?_
    clear ca
    obtain ⟨b1, hb9, hf⟩ := m_calE hf
    refine z_topr hb9 ?_
    clear hb9
    refine lv_iload_n hx hb dX5_hasSoundPassed_44 rfl (lv_at hl 1 rfl) ?_
    obtain ⟨ca, hf⟩ := m_chkE hf
    obtain ⟨cd, hf⟩ := m_chkE hf
    refine z_iald X hM ca cd dX5_hasSoundPassed_45 ?_
    clear ca cd
    obtain ⟨v2, ev, hf⟩ := m_bndE hf
    refine m_top ev ?_
    clear ev
    refine lv_if_eq (tgt := 51) hx hb dX5_hasSoundPassed_46 (by decide) (fun cc1 => ?_) (fun cc1 => ?_)
    · replace hf := m_ifT hf cc1
      refine lv_iload_n hx hb dX5_hasSoundPassed_51 rfl (lv_at hl 2 rfl) ?_
      refine lv_if_eq (tgt := 60) hx hb dX5_hasSoundPassed_52 (by decide) (fun cc1 => ?_) (fun cc1 => ?_)
      · replace hf := m_ifT hf cc1
        refine lv_bipush (v := (8 : Int32)) hx hb dX5_hasSoundPassed_60 (by decide) ?_
        exact w_X5_hasSoundPassed_62 (x0 := x0) (x1 := x1) (t0 := (8 : Int32)) X hret hf hM (lv_sub hl [0, 1] rfl)
      · replace hf := m_ifF hf cc1
        refine lv_bipush (v := (-8 : Int32)) hx hb dX5_hasSoundPassed_55 (by decide) ?_
        refine lv_goto (tgt := 62) hx hb dX5_hasSoundPassed_57 (by decide) ?_
        exact w_X5_hasSoundPassed_62 (x0 := x0) (x1 := x1) (t0 := (-8 : Int32)) X hret hf hM (lv_sub hl [0, 1] rfl)
    · replace hf := m_ifF hf cc1
      exact w_X5_hasSoundPassed_49 X hret hf hM (lv_sub hl [] rfl)
def f_X5_hasSoundPassed_24 (x0 : Nat) (x1 : Int32) (t0 : Int32) (S : ZS) : Option (Int32 × ZS) :=
  m_bnd (x1 >>> ((3 : Int32) &&& 31)) (fun v1 =>
  m_if (t0 = 0) (
  f_X5_hasSoundPassed_37 x0 x1 t0 (2 : Int32) v1 S
  ) (
  f_X5_hasSoundPassed_37 x0 x1 t0 (5 : Int32) v1 S
  ))

set_option maxRecDepth 100000 in
set_option maxHeartbeats 4000000 in
theorem w_X5_hasSoundPassed_24 {p : Program} {l : Launch} {e : Env} {s : State} {m : MethodId} {args : Array Value} {below : List Frame} {meth : Method} {c : Code} {Q : State → Prop} {D : va_G} {y : Nat → ClassId} {A0 : Nat → Prop} {o : Int32 × ZS} (X : CallFix p m c cX5_hasSoundPassed 4 s args wsX5_hasSoundPassed RX5) (hret : zRi p l e ({ frames := 1, cells := 0, slots := 0, locals := 24 } : Room) s m args below meth c Q cX5_hasSoundPassed D y A0 .boolean o) {x0 : Nat} {x1 : Int32} {t0 : Int32} {S : ZS} {H : Heap} {locs : List Loc} {ls : Array Slot} (hf : f_X5_hasSoundPassed_24 x0 x1 t0 S = some o) (hM : zH D y A0 s H locs S) (hl : lv_has ls 4 [(0, .ref x0), (1, .int x1)]) : W p l e ({ frames := 1, cells := 0, slots := 0, locals := 24 } : Room) s m args below meth c H locs 0 0 Q (F0 m 24 ls [.int t0]) := by
  obtain ⟨hx, hb, hml, hown, hts⟩ := id X
  unfold f_X5_hasSoundPassed_24 at hf
  refine lv_istore_n (lv' := [(2, .int t0), (0, .ref x0), (1, .int x1)]) hx hb dX5_hasSoundPassed_24 rfl hl (by decide) rfl (fun ls hl => ?_)
  refine lv_iload_n hx hb dX5_hasSoundPassed_25 rfl (lv_at hl 2 rfl) ?_
  refine lv_iconst (v := (3 : Int32)) hx hb dX5_hasSoundPassed_26 (by decide) ?_
  refine lv_ishr hx hb dX5_hasSoundPassed_27 ?_
  obtain ⟨v1, ev, hf⟩ := m_bndE hf
  refine m_top ev ?_
  clear ev
  refine lv_iload_n hx hb dX5_hasSoundPassed_28 rfl (lv_at hl 0 rfl) ?_
  refine lv_if_eq (tgt := 36) hx hb dX5_hasSoundPassed_29 (by decide) (fun cc1 => ?_) (fun cc1 => ?_)
  · replace hf := m_ifT hf cc1
    refine lv_iconst (v := (2 : Int32)) hx hb dX5_hasSoundPassed_36 (by decide) ?_
    exact w_X5_hasSoundPassed_37 (x0 := x0) (x1 := x1) (x2 := t0) (t0 := (2 : Int32)) (t1 := v1) X hret hf hM (lv_sub hl [1, 2, 0] rfl)
  · replace hf := m_ifF hf cc1
    refine lv_iconst (v := (5 : Int32)) hx hb dX5_hasSoundPassed_32 (by decide) ?_
    refine lv_goto (tgt := 37) hx hb dX5_hasSoundPassed_33 (by decide) ?_
    exact w_X5_hasSoundPassed_37 (x0 := x0) (x1 := x1) (x2 := t0) (t0 := (5 : Int32)) (t1 := v1) X hret hf hM (lv_sub hl [1, 2, 0] rfl)
def f_X5_hasSoundPassed_0 (x0 : Nat) (S : ZS) : Option (Int32 × ZS) :=
  m_chk (x0 ∈ zL S ∧ zK S x0 = 0) (
  m_if ((zI S 5 x0) = (-1 : Int32)) (
  m_chk (vp_nar .boolean (1 : Int32) = (1 : Int32)) (some ((1 : Int32), S))
  ) (
  m_chk (x0 ∈ zL S ∧ zK S x0 = 0) (
  m_if ((zI S 3 x0) = 0) (
  f_X5_hasSoundPassed_24 x0 (zI S 5 x0) (1 : Int32) S
  ) (
  f_X5_hasSoundPassed_24 x0 (zI S 5 x0) (0 : Int32) S
  ))
  ))

set_option maxRecDepth 100000 in
set_option maxHeartbeats 4000000 in
theorem w_X5_hasSoundPassed_0 {p : Program} {l : Launch} {e : Env} {s : State} {m : MethodId} {args : Array Value} {below : List Frame} {meth : Method} {c : Code} {Q : State → Prop} {D : va_G} {y : Nat → ClassId} {A0 : Nat → Prop} {o : Int32 × ZS} (X : CallFix p m c cX5_hasSoundPassed 4 s args wsX5_hasSoundPassed RX5) (hret : zRi p l e ({ frames := 1, cells := 0, slots := 0, locals := 24 } : Room) s m args below meth c Q cX5_hasSoundPassed D y A0 .boolean o) {x0 : Nat} {S : ZS} {H : Heap} {locs : List Loc} {ls : Array Slot} (hf : f_X5_hasSoundPassed_0 x0 S = some o) (hM : zH D y A0 s H locs S) (hl : lv_has ls 4 [(0, .ref x0)]) : W p l e ({ frames := 1, cells := 0, slots := 0, locals := 24 } : Room) s m args below meth c H locs 0 0 Q (F0 m 0 ls []) := by
  obtain ⟨hx, hb, hml, hown, hts⟩ := id X
  unfold f_X5_hasSoundPassed_0 at hf
  refine lv_aload_n hx hb dX5_hasSoundPassed_0 rfl (lv_at hl 0 rfl) ?_
  obtain ⟨ca, hf⟩ := m_chkE hf
  refine z_get (k := 0) (j := 5) (C := RX0) (T := TX0) (N := 7) (fl := zf_0) (v := .int (zI S 5 x0)) X hw_X5_hasSoundPassed_0 hM rfl zc_0 ca (by decide) fl_X5_hasSoundPassed_0_5 rfl dX5_hasSoundPassed_1 ?_
  clear ca
  refine lv_istore_n (lv' := [(1, .int (zI S 5 x0)), (0, .ref x0)]) hx hb dX5_hasSoundPassed_4 rfl hl (by decide) rfl (fun ls hl => ?_)
  refine lv_iload_n hx hb dX5_hasSoundPassed_5 rfl (lv_at hl 0 rfl) ?_
  refine lv_iconst (v := (-1 : Int32)) hx hb dX5_hasSoundPassed_6 (by decide) ?_
  refine lv_icmp_ne (tgt := 12) hx hb dX5_hasSoundPassed_7 (by decide) (fun cc1 => ?_) (fun cc1 => ?_)
  · replace hf := m_ifF hf cc1
    refine lv_aload_n hx hb dX5_hasSoundPassed_12 rfl (lv_at hl 1 rfl) ?_
    obtain ⟨ca, hf⟩ := m_chkE hf
    refine z_get (k := 0) (j := 3) (C := RX0) (T := TX0) (N := 7) (fl := zf_0) (v := .int (zI S 3 x0)) X hw_X5_hasSoundPassed_0 hM rfl zc_0 ca (by decide) fl_X5_hasSoundPassed_0_3 rfl dX5_hasSoundPassed_13 ?_
    clear ca
    refine lv_if_ne (tgt := 23) hx hb dX5_hasSoundPassed_16 (by decide) (fun cc1 => ?_) (fun cc1 => ?_)
    · replace hf := m_ifF hf cc1
      refine lv_iconst (v := (0 : Int32)) hx hb dX5_hasSoundPassed_23 (by decide) ?_
      exact w_X5_hasSoundPassed_24 (x0 := x0) (x1 := (zI S 5 x0)) (t0 := (0 : Int32)) X hret hf hM (lv_sub hl [1, 0] rfl)
    · replace hf := m_ifT hf cc1
      refine lv_iconst (v := (1 : Int32)) hx hb dX5_hasSoundPassed_19 (by decide) ?_
      refine lv_goto (tgt := 24) hx hb dX5_hasSoundPassed_20 (by decide) ?_
      exact w_X5_hasSoundPassed_24 (x0 := x0) (x1 := (zI S 5 x0)) (t0 := (1 : Int32)) X hret hf hM (lv_sub hl [1, 0] rfl)
  · replace hf := m_ifT hf cc1
    refine lv_iconst (v := (1 : Int32)) hx hb dX5_hasSoundPassed_10 (by decide) ?_
    obtain ⟨cd, hf⟩ := m_chkE hf
    cases hf
    exact hret H locs _ ls hM (m_nb cd) dX5_hasSoundPassed_11
def f_X5_hasSoundPassed (x0 : Nat) (S : ZS) : Option (Int32 × ZS) := f_X5_hasSoundPassed_0 x0 S
theorem c_X5_hasSoundPassed {l : Launch} {D : va_G} {y : Nat → ClassId} {x0 : Nat} {S : ZS} {o : Int32 × ZS} (hf : f_X5_hasSoundPassed x0 S = some o) : zMi l yX5_hasSoundPassed wsX5_hasSoundPassed ({ frames := 1, cells := 0, slots := 0, locals := 24 } : Room) [.ref x0] D y S o :=
  z_entryI (own := RX5) (cc := cX5_hasSoundPassed) (maxL := 4) (by decide) rfl rfl (Nat.le_of_ble_eq_true rfl) (fun p e s m args below meth c A0 Q H locs ls X hret hM hl => w_X5_hasSoundPassed_0 X hret hf hM (lv_sub hl [0] rfl))
theorem hd_X5_hasSoundPassed : yX5_hasSoundPassed.cls ≠ "java/lang/invoke/MethodHandle" ∧ yX5_hasSoundPassed.cls ≠ "java/lang/invoke/VarHandle" ∧ (parseMethodDescriptor yX5_hasSoundPassed.desc).map (fun d => d.parameters.length) = some 1 := by decide +kernel
theorem fl_X5_readInto_5_0 : Cond.fieldLink RX5 12 "MoveTexts$PositionReader" "text" "LMoveTexts$Row;" ∈ wsX5_readInto := by decide +kernel
theorem fl_X5_readInto_5_1 : Cond.fieldLink RX5 18 "MoveTexts$PositionReader" "at" "I" ∈ wsX5_readInto := by decide +kernel
theorem hw_X5_readInto_5 : ∀ w ∈ wsX50, w ∈ wsX5_readInto := by decide +kernel
def f_X5_readInto_146 (t0 : Int32) (S : ZS) : Option (Int32 × ZS) :=
  m_chk (vp_nar .boolean t0 = t0) (some (t0, S))

set_option maxRecDepth 100000 in
set_option maxHeartbeats 4000000 in
theorem w_X5_readInto_146 {p : Program} {l : Launch} {e : Env} {s : State} {m : MethodId} {args : Array Value} {below : List Frame} {meth : Method} {c : Code} {Q : State → Prop} {D : va_G} {y : Nat → ClassId} {A0 : Nat → Prop} {o : Int32 × ZS} (X : CallFix p m c cX5_readInto 3 s args wsX5_readInto RX5) (hret : zRi p l e ({ frames := 6, cells := 0, slots := 0, locals := 140 } : Room) s m args below meth c Q cX5_readInto D y A0 .boolean o) {t0 : Int32} {S : ZS} {H : Heap} {locs : List Loc} {ls : Array Slot} (hf : f_X5_readInto_146 t0 S = some o) (hM : zH D y A0 s H locs S) (hl : lv_has ls 3 []) : W p l e ({ frames := 6, cells := 0, slots := 0, locals := 140 } : Room) s m args below meth c H locs 0 0 Q (F0 m 146 ls [.int t0]) := by
  obtain ⟨hx, hb, hml, hown, hts⟩ := id X
  unfold f_X5_readInto_146 at hf
  obtain ⟨cd, hf⟩ := m_chkE hf
  cases hf
  exact hret H locs _ ls hM (m_nb cd) dX5_readInto_146
def f_X5_readInto_145 (S : ZS) : Option (Int32 × ZS) :=
  f_X5_readInto_146 (0 : Int32) S

set_option maxRecDepth 100000 in
set_option maxHeartbeats 4000000 in
theorem w_X5_readInto_145 {p : Program} {l : Launch} {e : Env} {s : State} {m : MethodId} {args : Array Value} {below : List Frame} {meth : Method} {c : Code} {Q : State → Prop} {D : va_G} {y : Nat → ClassId} {A0 : Nat → Prop} {o : Int32 × ZS} (X : CallFix p m c cX5_readInto 3 s args wsX5_readInto RX5) (hret : zRi p l e ({ frames := 6, cells := 0, slots := 0, locals := 140 } : Room) s m args below meth c Q cX5_readInto D y A0 .boolean o) {S : ZS} {H : Heap} {locs : List Loc} {ls : Array Slot} (hf : f_X5_readInto_145  S = some o) (hM : zH D y A0 s H locs S) (hl : lv_has ls 3 []) : W p l e ({ frames := 6, cells := 0, slots := 0, locals := 140 } : Room) s m args below meth c H locs 0 0 Q (F0 m 145 ls []) := by
  obtain ⟨hx, hb, hml, hown, hts⟩ := id X
  unfold f_X5_readInto_145 at hf
  refine lv_iconst (v := (0 : Int32)) hx hb dX5_readInto_145 (by decide) ?_
  exact w_X5_readInto_146 (t0 := (0 : Int32)) X hret hf hM (lv_sub hl [] rfl)
def f_X5_readInto_0 (x0 : Nat) (x1 : Nat) (x2 : Nat) (S : ZS) : Option (Int32 × ZS) :=
  m_chk (x0 ∈ zL S ∧ zK S x0 = 5) (
  m_bnd (zsP S 0 x0 (some x2)) (fun S1 =>
  m_chk (x0 ∈ zL S1 ∧ zK S1 x0 = 5) (
  m_bnd (zsI S1 1 x0 (0 : Int32)) (fun S2 =>
  m_chk (x1 ∈ zL S2 ∧ zK S2 x1 = 0) (
  m_cal (f_X0_wipe x1 S2) (fun o3 =>
  m_chk (x0 ∈ zL o3.2 ∧ zK o3.2 x0 = 5) (
  m_cal (f_X5_readMen x0 x1 o3.2) (fun o4 =>
  m_if (o4.1 = 0) (
  f_X5_readInto_145  o4.2
  ) (
  m_chk (x0 ∈ zL o4.2 ∧ zK o4.2 x0 = 5) (
  m_cal (f_X5_skip x0 (32 : Int32) o4.2) (fun o5 =>
  m_if (o5.1 = 0) (
  f_X5_readInto_145  o5.2
  ) (
  m_chk (x0 ∈ zL o5.2 ∧ zK o5.2 x0 = 5) (
  m_cal (f_X5_readSide x0 x1 o5.2) (fun o6 =>
  m_if (o6.1 = 0) (
  f_X5_readInto_145  o6.2
  ) (
  m_chk (x0 ∈ zL o6.2 ∧ zK o6.2 x0 = 5) (
  m_cal (f_X5_skip x0 (32 : Int32) o6.2) (fun o7 =>
  m_if (o7.1 = 0) (
  f_X5_readInto_145  o7.2
  ) (
  m_chk (x0 ∈ zL o7.2 ∧ zK o7.2 x0 = 5) (
  m_cal (f_X5_readRights x0 x1 o7.2) (fun o8 =>
  m_if (o8.1 = 0) (
  f_X5_readInto_145  o8.2
  ) (
  m_chk (x0 ∈ zL o8.2 ∧ zK o8.2 x0 = 5) (
  m_cal (f_X5_skip x0 (32 : Int32) o8.2) (fun o9 =>
  m_if (o9.1 = 0) (
  f_X5_readInto_145  o9.2
  ) (
  m_chk (x0 ∈ zL o9.2 ∧ zK o9.2 x0 = 5) (
  m_cal (f_X5_readPassed x0 x1 o9.2) (fun o10 =>
  m_if (o10.1 = 0) (
  f_X5_readInto_145  o10.2
  ) (
  m_chk (x0 ∈ zL o10.2 ∧ zK o10.2 x0 = 5) (
  m_cal (f_X5_skip x0 (32 : Int32) o10.2) (fun o11 =>
  m_if (o11.1 = 0) (
  f_X5_readInto_145  o11.2
  ) (
  m_chk (x0 ∈ zL o11.2 ∧ zK o11.2 x0 = 5) (
  m_cal (f_X5_readNumber x0 o11.2) (fun o12 =>
  m_if (o12.1 < 0) (
  f_X5_readInto_145  o12.2
  ) (
  m_chk (x0 ∈ zL o12.2 ∧ zK o12.2 x0 = 5) (
  m_cal (f_X5_skip x0 (32 : Int32) o12.2) (fun o13 =>
  m_if (o13.1 = 0) (
  f_X5_readInto_145  o13.2
  ) (
  m_chk (x0 ∈ zL o13.2 ∧ zK o13.2 x0 = 5) (
  m_cal (f_X5_readMoveNumber x0 x1 o13.2) (fun o14 =>
  m_if (o14.1 = 0) (
  f_X5_readInto_145  o14.2
  ) (
  m_chk (x0 ∈ zL o14.2 ∧ zK o14.2 x0 = 5) (
  m_chk (x0 ∈ zL o14.2 ∧ zK o14.2 x0 = 5) (
  m_cal (zP o14.2 0 x0) (fun b15 =>
  m_chk (b15 ∈ zL o14.2 ∧ zK o14.2 b15 = 6) (
  m_cal (f_X6_size b15 o14.2) (fun o16 =>
  m_if ((zI o14.2 1 x0) = o16.1) (
  m_cal (f_X5_hasSoundMen x1 o16.2) (fun o17 =>
  m_if (o17.1 = 0) (
  f_X5_readInto_145  o17.2
  ) (
  m_cal (f_X5_hasSoundRights x1 o17.2) (fun o18 =>
  m_if (o18.1 = 0) (
  f_X5_readInto_145  o18.2
  ) (
  m_cal (f_X5_hasSoundPassed x1 o18.2) (fun o19 =>
  m_if (o19.1 = 0) (
  f_X5_readInto_145  o19.2
  ) (
  f_X5_readInto_146 (1 : Int32) o19.2
  ))
  ))
  ))
  ) (
  f_X5_readInto_145  o16.2
  ))))))
  )))
  )))
  )))
  )))
  )))
  )))
  )))
  )))
  )))
  )))
  )))))))))

set_option maxRecDepth 100000 in
set_option maxHeartbeats 4000000 in
theorem w_X5_readInto_0 {p : Program} {l : Launch} {e : Env} {s : State} {m : MethodId} {args : Array Value} {below : List Frame} {meth : Method} {c : Code} {Q : State → Prop} {D : va_G} {y : Nat → ClassId} {A0 : Nat → Prop} {o : Int32 × ZS} (X : CallFix p m c cX5_readInto 3 s args wsX5_readInto RX5) (hret : zRi p l e ({ frames := 6, cells := 0, slots := 0, locals := 140 } : Room) s m args below meth c Q cX5_readInto D y A0 .boolean o) {x0 : Nat} {x1 : Nat} {x2 : Nat} {S : ZS} {H : Heap} {locs : List Loc} {ls : Array Slot} (hf : f_X5_readInto_0 x0 x1 x2 S = some o) (hM : zH D y A0 s H locs S) (hl : lv_has ls 3 [(0, .ref x0), (1, .ref x1), (2, .ref x2)]) : W p l e ({ frames := 6, cells := 0, slots := 0, locals := 140 } : Room) s m args below meth c H locs 0 0 Q (F0 m 0 ls []) := by
  obtain ⟨hx, hb, hml, hown, hts⟩ := id X
  unfold f_X5_readInto_0 at hf
  refine lv_aload_n hx hb dX5_readInto_0 rfl (lv_at hl 0 rfl) ?_
  refine lv_aload_n hx hb dX5_readInto_1 rfl (lv_at hl 2 rfl) ?_
  obtain ⟨ca, hf⟩ := m_chkE hf
  refine z_putP (k := 5) (j := 0) (C := RX5) (T := TX5) (N := 2) (fl := zf_5) (ty := tyX5 0) X hw_X5_readInto_5 tyX5_ok nmX5 hM rfl zc_5 ca (by decide) fl_X5_readInto_5_0 rfl (tyX5_ok 0 (by decide)) rfl rfl zp_5_0 (Nat.le_of_ble_eq_true rfl) dX5_readInto_2 (fun H locs hM => ?_)
  clear ca
  obtain ⟨S1, ev, hf⟩ := m_bndE hf
  replace hM := z_hS hM ev
  clear ev
  refine lv_aload_n hx hb dX5_readInto_5 rfl (lv_at hl 0 rfl) ?_
  refine lv_iconst (v := (0 : Int32)) hx hb dX5_readInto_6 (by decide) ?_
  obtain ⟨ca, hf⟩ := m_chkE hf
  refine z_putI (k := 5) (j := 1) (C := RX5) (T := TX5) (N := 2) (fl := zf_5) (ty := .int) X hw_X5_readInto_5 tyX5_ok nmX5 hM rfl zc_5 ca (by decide) fl_X5_readInto_5_1 rfl (tyX5_ok 1 (by decide)) rfl rfl zi_5_1 (Nat.le_of_ble_eq_true rfl) dX5_readInto_7 (fun H locs hM => ?_)
  clear ca
  obtain ⟨S2, ev, hf⟩ := m_bndE hf
  replace hM := z_hS hM ev
  clear ev
  refine lv_aload_n hx hb dX5_readInto_10 rfl (lv_at hl 1 rfl) ?_
  obtain ⟨ca, hf⟩ := m_chkE hf
  obtain ⟨o3, ho, hf⟩ := m_calE hf
  refine z_callVv (k := 0) (C := RX0) (T := TX0) (N := 7) (fl := zf_0) X hM rfl zc_0 ca (c_X0_wipe ho) gX5_readInto_X0_wipe rfl ⟨rfl, rfl⟩ hd_X0_wipe ⟨Nat.le_of_ble_eq_true rfl, Nat.le_of_ble_eq_true rfl⟩ rfl hl.1 rfl (Nat.le_of_ble_eq_true rfl) dX5_readInto_11 (fun H locs hM => ?_)
  clear ho
  refine lv_aload_n hx hb dX5_readInto_14 rfl (lv_at hl 0 rfl) ?_
  refine lv_aload_n hx hb dX5_readInto_15 rfl (lv_at hl 1 rfl) ?_
  obtain ⟨ca, hf⟩ := m_chkE hf
  obtain ⟨o4, ho, hf⟩ := m_calE hf
  refine z_callVi (k := 5) (C := RX5) (T := TX5) (N := 2) (fl := zf_5) X hM rfl zc_5 ca (c_X5_readMen ho) gX5_readInto_X5_readMen rfl ⟨rfl, rfl⟩ hd_X5_readMen ⟨Nat.le_of_ble_eq_true rfl, Nat.le_of_ble_eq_true rfl⟩ rfl hl.1 rfl (Nat.le_of_ble_eq_true rfl) dX5_readInto_16 (fun H locs hM => ?_)
  clear ho
  refine lv_if_eq (tgt := 145) hx hb dX5_readInto_19 (by decide) (fun cc1 => ?_) (fun cc1 => ?_)
  · replace hf := m_ifT hf cc1
    exact w_X5_readInto_145 X hret hf hM (lv_sub hl [] rfl)
  · replace hf := m_ifF hf cc1
    refine lv_aload_n hx hb dX5_readInto_22 rfl (lv_at hl 0 rfl) ?_
    refine lv_bipush (v := (32 : Int32)) hx hb dX5_readInto_23 (by decide) ?_
    obtain ⟨ca, hf⟩ := m_chkE hf
    obtain ⟨o5, ho, hf⟩ := m_calE hf
    refine z_callVi (k := 5) (C := RX5) (T := TX5) (N := 2) (fl := zf_5) X hM rfl zc_5 ca (c_X5_skip ho) gX5_readInto_X5_skip rfl ⟨rfl, rfl⟩ hd_X5_skip ⟨Nat.le_of_ble_eq_true rfl, Nat.le_of_ble_eq_true rfl⟩ rfl hl.1 rfl (Nat.le_of_ble_eq_true rfl) dX5_readInto_25 (fun H locs hM => ?_)
    clear ho
    refine lv_if_eq (tgt := 145) hx hb dX5_readInto_28 (by decide) (fun cc1 => ?_) (fun cc1 => ?_)
    · replace hf := m_ifT hf cc1
      exact w_X5_readInto_145 X hret hf hM (lv_sub hl [] rfl)
    · replace hf := m_ifF hf cc1
      refine lv_aload_n hx hb dX5_readInto_31 rfl (lv_at hl 0 rfl) ?_
      refine lv_aload_n hx hb dX5_readInto_32 rfl (lv_at hl 1 rfl) ?_
      obtain ⟨ca, hf⟩ := m_chkE hf
      obtain ⟨o6, ho, hf⟩ := m_calE hf
      refine z_callVi (k := 5) (C := RX5) (T := TX5) (N := 2) (fl := zf_5) X hM rfl zc_5 ca (c_X5_readSide ho) gX5_readInto_X5_readSide rfl ⟨rfl, rfl⟩ hd_X5_readSide ⟨Nat.le_of_ble_eq_true rfl, Nat.le_of_ble_eq_true rfl⟩ rfl hl.1 rfl (Nat.le_of_ble_eq_true rfl) dX5_readInto_33 (fun H locs hM => ?_)
      clear ho
      refine lv_if_eq (tgt := 145) hx hb dX5_readInto_36 (by decide) (fun cc1 => ?_) (fun cc1 => ?_)
      · replace hf := m_ifT hf cc1
        exact w_X5_readInto_145 X hret hf hM (lv_sub hl [] rfl)
      · replace hf := m_ifF hf cc1
        refine lv_aload_n hx hb dX5_readInto_39 rfl (lv_at hl 0 rfl) ?_
        refine lv_bipush (v := (32 : Int32)) hx hb dX5_readInto_40 (by decide) ?_
        obtain ⟨ca, hf⟩ := m_chkE hf
        obtain ⟨o7, ho, hf⟩ := m_calE hf
        refine z_callVi (k := 5) (C := RX5) (T := TX5) (N := 2) (fl := zf_5) X hM rfl zc_5 ca (c_X5_skip ho) gX5_readInto_X5_skip rfl ⟨rfl, rfl⟩ hd_X5_skip ⟨Nat.le_of_ble_eq_true rfl, Nat.le_of_ble_eq_true rfl⟩ rfl hl.1 rfl (Nat.le_of_ble_eq_true rfl) dX5_readInto_42 (fun H locs hM => ?_)
        clear ho
        refine lv_if_eq (tgt := 145) hx hb dX5_readInto_45 (by decide) (fun cc1 => ?_) (fun cc1 => ?_)
        · replace hf := m_ifT hf cc1
          exact w_X5_readInto_145 X hret hf hM (lv_sub hl [] rfl)
        · replace hf := m_ifF hf cc1
          refine lv_aload_n hx hb dX5_readInto_48 rfl (lv_at hl 0 rfl) ?_
          refine lv_aload_n hx hb dX5_readInto_49 rfl (lv_at hl 1 rfl) ?_
          obtain ⟨ca, hf⟩ := m_chkE hf
          obtain ⟨o8, ho, hf⟩ := m_calE hf
          refine z_callVi (k := 5) (C := RX5) (T := TX5) (N := 2) (fl := zf_5) X hM rfl zc_5 ca (c_X5_readRights ho) gX5_readInto_X5_readRights rfl ⟨rfl, rfl⟩ hd_X5_readRights ⟨Nat.le_of_ble_eq_true rfl, Nat.le_of_ble_eq_true rfl⟩ rfl hl.1 rfl (Nat.le_of_ble_eq_true rfl) dX5_readInto_50 (fun H locs hM => ?_)
          clear ho
          refine lv_if_eq (tgt := 145) hx hb dX5_readInto_53 (by decide) (fun cc1 => ?_) (fun cc1 => ?_)
          · replace hf := m_ifT hf cc1
            exact w_X5_readInto_145 X hret hf hM (lv_sub hl [] rfl)
          · replace hf := m_ifF hf cc1
            refine lv_aload_n hx hb dX5_readInto_56 rfl (lv_at hl 0 rfl) ?_
            refine lv_bipush (v := (32 : Int32)) hx hb dX5_readInto_57 (by decide) ?_
            obtain ⟨ca, hf⟩ := m_chkE hf
            obtain ⟨o9, ho, hf⟩ := m_calE hf
            refine z_callVi (k := 5) (C := RX5) (T := TX5) (N := 2) (fl := zf_5) X hM rfl zc_5 ca (c_X5_skip ho) gX5_readInto_X5_skip rfl ⟨rfl, rfl⟩ hd_X5_skip ⟨Nat.le_of_ble_eq_true rfl, Nat.le_of_ble_eq_true rfl⟩ rfl hl.1 rfl (Nat.le_of_ble_eq_true rfl) dX5_readInto_59 (fun H locs hM => ?_)
            clear ho
            refine lv_if_eq (tgt := 145) hx hb dX5_readInto_62 (by decide) (fun cc1 => ?_) (fun cc1 => ?_)
            · replace hf := m_ifT hf cc1
              exact w_X5_readInto_145 X hret hf hM (lv_sub hl [] rfl)
            · replace hf := m_ifF hf cc1
              refine lv_aload_n hx hb dX5_readInto_65 rfl (lv_at hl 0 rfl) ?_
              refine lv_aload_n hx hb dX5_readInto_66 rfl (lv_at hl 1 rfl) ?_
              obtain ⟨ca, hf⟩ := m_chkE hf
              obtain ⟨o10, ho, hf⟩ := m_calE hf
              refine z_callVi (k := 5) (C := RX5) (T := TX5) (N := 2) (fl := zf_5) X hM rfl zc_5 ca (c_X5_readPassed ho) gX5_readInto_X5_readPassed rfl ⟨rfl, rfl⟩ hd_X5_readPassed ⟨Nat.le_of_ble_eq_true rfl, Nat.le_of_ble_eq_true rfl⟩ rfl hl.1 rfl (Nat.le_of_ble_eq_true rfl) dX5_readInto_67 (fun H locs hM => ?_)
              clear ho
              refine lv_if_eq (tgt := 145) hx hb dX5_readInto_70 (by decide) (fun cc1 => ?_) (fun cc1 => ?_)
              · replace hf := m_ifT hf cc1
                exact w_X5_readInto_145 X hret hf hM (lv_sub hl [] rfl)
              · replace hf := m_ifF hf cc1
                refine lv_aload_n hx hb dX5_readInto_73 rfl (lv_at hl 0 rfl) ?_
                refine lv_bipush (v := (32 : Int32)) hx hb dX5_readInto_74 (by decide) ?_
                obtain ⟨ca, hf⟩ := m_chkE hf
                obtain ⟨o11, ho, hf⟩ := m_calE hf
                refine z_callVi (k := 5) (C := RX5) (T := TX5) (N := 2) (fl := zf_5) X hM rfl zc_5 ca (c_X5_skip ho) gX5_readInto_X5_skip rfl ⟨rfl, rfl⟩ hd_X5_skip ⟨Nat.le_of_ble_eq_true rfl, Nat.le_of_ble_eq_true rfl⟩ rfl hl.1 rfl (Nat.le_of_ble_eq_true rfl) dX5_readInto_76 (fun H locs hM => ?_)
                clear ho
                refine lv_if_eq (tgt := 145) hx hb dX5_readInto_79 (by decide) (fun cc1 => ?_) (fun cc1 => ?_)
                · replace hf := m_ifT hf cc1
                  exact w_X5_readInto_145 X hret hf hM (lv_sub hl [] rfl)
                · replace hf := m_ifF hf cc1
                  refine lv_aload_n hx hb dX5_readInto_82 rfl (lv_at hl 0 rfl) ?_
                  obtain ⟨ca, hf⟩ := m_chkE hf
                  obtain ⟨o12, ho, hf⟩ := m_calE hf
                  refine z_callVi (k := 5) (C := RX5) (T := TX5) (N := 2) (fl := zf_5) X hM rfl zc_5 ca (c_X5_readNumber ho) gX5_readInto_X5_readNumber rfl ⟨rfl, rfl⟩ hd_X5_readNumber ⟨Nat.le_of_ble_eq_true rfl, Nat.le_of_ble_eq_true rfl⟩ rfl hl.1 rfl (Nat.le_of_ble_eq_true rfl) dX5_readInto_83 (fun H locs hM => ?_)
                  clear ho
                  refine lv_if_lt (tgt := 145) hx hb dX5_readInto_86 (by decide) (fun cc1 => ?_) (fun cc1 => ?_)
                  · replace hf := m_ifT hf cc1
                    exact w_X5_readInto_145 X hret hf hM (lv_sub hl [] rfl)
                  · replace hf := m_ifF hf cc1
                    refine lv_aload_n hx hb dX5_readInto_89 rfl (lv_at hl 0 rfl) ?_
                    refine lv_bipush (v := (32 : Int32)) hx hb dX5_readInto_90 (by decide) ?_
                    obtain ⟨ca, hf⟩ := m_chkE hf
                    obtain ⟨o13, ho, hf⟩ := m_calE hf
                    refine z_callVi (k := 5) (C := RX5) (T := TX5) (N := 2) (fl := zf_5) X hM rfl zc_5 ca (c_X5_skip ho) gX5_readInto_X5_skip rfl ⟨rfl, rfl⟩ hd_X5_skip ⟨Nat.le_of_ble_eq_true rfl, Nat.le_of_ble_eq_true rfl⟩ rfl hl.1 rfl (Nat.le_of_ble_eq_true rfl) dX5_readInto_92 (fun H locs hM => ?_)
                    clear ho
                    refine lv_if_eq (tgt := 145) hx hb dX5_readInto_95 (by decide) (fun cc1 => ?_) (fun cc1 => ?_)
                    · replace hf := m_ifT hf cc1
                      exact w_X5_readInto_145 X hret hf hM (lv_sub hl [] rfl)
                    · replace hf := m_ifF hf cc1
                      refine lv_aload_n hx hb dX5_readInto_98 rfl (lv_at hl 0 rfl) ?_
                      refine lv_aload_n hx hb dX5_readInto_99 rfl (lv_at hl 1 rfl) ?_
                      obtain ⟨ca, hf⟩ := m_chkE hf
                      obtain ⟨o14, ho, hf⟩ := m_calE hf
                      refine z_callVi (k := 5) (C := RX5) (T := TX5) (N := 2) (fl := zf_5) X hM rfl zc_5 ca (c_X5_readMoveNumber ho) gX5_readInto_X5_readMoveNumber rfl ⟨rfl, rfl⟩ hd_X5_readMoveNumber ⟨Nat.le_of_ble_eq_true rfl, Nat.le_of_ble_eq_true rfl⟩ rfl hl.1 rfl (Nat.le_of_ble_eq_true rfl) dX5_readInto_100 (fun H locs hM => ?_)
                      clear ho
                      refine lv_if_eq (tgt := 145) hx hb dX5_readInto_103 (by decide) (fun cc1 => ?_) (fun cc1 => ?_)
                      · replace hf := m_ifT hf cc1
                        exact w_X5_readInto_145 X hret hf hM (lv_sub hl [] rfl)
                      · replace hf := m_ifF hf cc1
                        refine lv_aload_n hx hb dX5_readInto_106 rfl (lv_at hl 0 rfl) ?_
                        obtain ⟨ca, hf⟩ := m_chkE hf
                        refine z_get (k := 5) (j := 1) (C := RX5) (T := TX5) (N := 2) (fl := zf_5) (v := .int (zI o14.2 1 x0)) X hw_X5_readInto_5 hM rfl zc_5 ca (by decide) fl_X5_readInto_5_1 rfl dX5_readInto_107 ?_
                        clear ca
                        refine lv_aload_n hx hb dX5_readInto_110 rfl (lv_at hl 0 rfl) ?_
                        obtain ⟨ca, hf⟩ := m_chkE hf
                        refine z_get (k := 5) (j := 0) (C := RX5) (T := TX5) (N := 2) (fl := zf_5) (v := va_rf (zP o14.2 0 x0)) X hw_X5_readInto_5 hM rfl zc_5 ca (by decide) fl_X5_readInto_5_0 rfl dX5_readInto_111 ?_
                        clear ca
                        obtain ⟨b15, hb9, hf⟩ := m_calE hf
                        refine z_topr hb9 ?_
                        clear hb9
                        obtain ⟨ca, hf⟩ := m_chkE hf
                        obtain ⟨o16, ho, hf⟩ := m_calE hf
                        refine z_callVi (k := 6) (C := RX6) (T := TX6) (N := 2) (fl := zf_6) X hM rfl zc_6 ca (c_X6_size ho) gX5_readInto_X6_size rfl ⟨rfl, rfl⟩ hd_X6_size ⟨Nat.le_of_ble_eq_true rfl, Nat.le_of_ble_eq_true rfl⟩ rfl hl.1 rfl (Nat.le_of_ble_eq_true rfl) dX5_readInto_114 (fun H locs hM => ?_)
                        clear ho
                        refine lv_icmp_ne (tgt := 145) hx hb dX5_readInto_117 (by decide) (fun cc1 => ?_) (fun cc1 => ?_)
                        · replace hf := m_ifF hf cc1
                          exact w_X5_readInto_145 X hret hf hM (lv_sub hl [] rfl)
                        · replace hf := m_ifT hf cc1
                          refine lv_aload_n hx hb dX5_readInto_120 rfl (lv_at hl 1 rfl) ?_
                          obtain ⟨o17, ho, hf⟩ := m_calE hf
                          refine z_callSi X hM (c_X5_hasSoundMen ho) gX5_readInto_X5_hasSoundMen rfl ⟨rfl, rfl⟩ hd_X5_hasSoundMen ⟨Nat.le_of_ble_eq_true rfl, Nat.le_of_ble_eq_true rfl⟩ rfl hl.1 rfl (Nat.le_of_ble_eq_true rfl) dX5_readInto_121 (fun H locs hM => ?_)
                          clear ho
                          refine lv_if_eq (tgt := 145) hx hb dX5_readInto_124 (by decide) (fun cc1 => ?_) (fun cc1 => ?_)
                          · replace hf := m_ifT hf cc1
                            exact w_X5_readInto_145 X hret hf hM (lv_sub hl [] rfl)
                          · replace hf := m_ifF hf cc1
                            refine lv_aload_n hx hb dX5_readInto_127 rfl (lv_at hl 1 rfl) ?_
                            obtain ⟨o18, ho, hf⟩ := m_calE hf
                            refine z_callSi X hM (c_X5_hasSoundRights ho) gX5_readInto_X5_hasSoundRights rfl ⟨rfl, rfl⟩ hd_X5_hasSoundRights ⟨Nat.le_of_ble_eq_true rfl, Nat.le_of_ble_eq_true rfl⟩ rfl hl.1 rfl (Nat.le_of_ble_eq_true rfl) dX5_readInto_128 (fun H locs hM => ?_)
                            clear ho
                            refine lv_if_eq (tgt := 145) hx hb dX5_readInto_131 (by decide) (fun cc1 => ?_) (fun cc1 => ?_)
                            · replace hf := m_ifT hf cc1
                              exact w_X5_readInto_145 X hret hf hM (lv_sub hl [] rfl)
                            · replace hf := m_ifF hf cc1
                              refine lv_aload_n hx hb dX5_readInto_134 rfl (lv_at hl 1 rfl) ?_
                              obtain ⟨o19, ho, hf⟩ := m_calE hf
                              refine z_callSi X hM (c_X5_hasSoundPassed ho) gX5_readInto_X5_hasSoundPassed rfl ⟨rfl, rfl⟩ hd_X5_hasSoundPassed ⟨Nat.le_of_ble_eq_true rfl, Nat.le_of_ble_eq_true rfl⟩ rfl hl.1 rfl (Nat.le_of_ble_eq_true rfl) dX5_readInto_135 (fun H locs hM => ?_)
                              clear ho
                              refine lv_if_eq (tgt := 145) hx hb dX5_readInto_138 (by decide) (fun cc1 => ?_) (fun cc1 => ?_)
                              · replace hf := m_ifT hf cc1
                                exact w_X5_readInto_145 X hret hf hM (lv_sub hl [] rfl)
                              · replace hf := m_ifF hf cc1
                                refine lv_iconst (v := (1 : Int32)) hx hb dX5_readInto_141 (by decide) ?_
                                refine lv_goto (tgt := 146) hx hb dX5_readInto_142 (by decide) ?_
                                exact w_X5_readInto_146 (t0 := (1 : Int32)) X hret hf hM (lv_sub hl [] rfl)
def f_X5_readInto (x0 : Nat) (x1 : Nat) (x2 : Nat) (S : ZS) : Option (Int32 × ZS) := f_X5_readInto_0 x0 x1 x2 S
theorem c_X5_readInto {l : Launch} {D : va_G} {y : Nat → ClassId} {x0 : Nat} {x1 : Nat} {x2 : Nat} {S : ZS} {o : Int32 × ZS} (hf : f_X5_readInto x0 x1 x2 S = some o) : zMi l yX5_readInto wsX5_readInto ({ frames := 6, cells := 0, slots := 0, locals := 140 } : Room) [.ref x0, .ref x1, .ref x2] D y S o :=
  z_entryI (own := RX5) (cc := cX5_readInto) (maxL := 3) (by decide) rfl rfl (Nat.le_of_ble_eq_true rfl) (fun p e s m args below meth c A0 Q H locs ls X hret hM hl => w_X5_readInto_0 X hret hf hM (lv_sub hl [0, 1, 2] rfl))
theorem hd_X5_readInto : yX5_readInto.cls = RX5 ∧ yX5_readInto.cls ≠ "java/lang/invoke/MethodHandle" ∧ yX5_readInto.cls ≠ "java/lang/invoke/VarHandle" ∧ (parseMethodDescriptor yX5_readInto.desc).map (fun d => d.parameters.length) = some 2 := by decide +kernel
theorem fl_X6_copyFrom_6_1 : Cond.fieldLink RX6 16 "MoveTexts$Row" "length" "I" ∈ wsX6_copyFrom := by decide +kernel
theorem hw_X6_copyFrom_6 : ∀ w ∈ wsX60, w ∈ wsX6_copyFrom := by decide +kernel
def g_X6_copyFrom_0 (Pw : Int32 → ZS → Prop) (x0 : Nat) (x1 : Nat) (S : ZS) (C T : Nat) : Prop :=
  m_chkP (x0 ∈ zL S ∧ zK S x0 = 6) (
  m_bndP (zsI S 1 x0 (0 : Int32)) (fun S1 =>
  m_chkP (x0 ∈ zL S1 ∧ zK S1 x0 = 6) (
  m_gal (C) (T) (fun mc ms Pw => g_X6_putAll x0 x1 S1 mc ms Pw) (fun r3 S4 C5 T6 =>
  Pw 0 S4))))

set_option maxRecDepth 100000 in
set_option maxHeartbeats 4000000 in
theorem w_X6_copyFrom_0 {p : Program} {l : Launch} {e : Env} {s : State} {m : MethodId} {args : Array Value} {below : List Frame} {meth : Method} {c : Code} {Q : State → Prop} {D : va_G} {y : Nat → ClassId} {A0 : Nat → Prop} {kc kt : Nat} {Pw : Int32 → ZS → Prop} (X : CallFix p m c cX6_copyFrom 2 s args wsX6_copyFrom RX6) (hret : zQv p l e ({ frames := 3, cells := kc, slots := kt, locals := 104 } : Room) s m args below meth c Q cX6_copyFrom D y A0 Pw) {x0 : Nat} {x1 : Nat} {S : ZS} {C T : Nat} {H : Heap} {locs : List Loc} {ls : Array Slot} (hf : g_X6_copyFrom_0 Pw x0 x1 S C T) (hCT : C ≤ kc ∧ T ≤ kt) (hM : zH D y A0 s H locs S) (hl : lv_has ls 2 [(0, .ref x0), (1, .ref x1)]) : W p l e ({ frames := 3, cells := kc, slots := kt, locals := 104 } : Room) s m args below meth c H locs (kc - C) (kt - T) Q (F0 m 0 ls []) := by
  obtain ⟨hx, hb, hml, hown, hts⟩ := id X
  unfold g_X6_copyFrom_0 at hf
  refine lv_aload_n hx hb dX6_copyFrom_0 rfl (lv_at hl 0 rfl) ?_
  refine lv_iconst (v := (0 : Int32)) hx hb dX6_copyFrom_1 (by decide) ?_
  obtain ⟨ca, hf⟩ := m_chkPE hf
  refine z_putI (k := 6) (j := 1) (C := RX6) (T := TX6) (N := 2) (fl := zf_6) (ty := .int) X hw_X6_copyFrom_6 tyX6_ok nmX6 hM rfl zc_6 ca (by decide) fl_X6_copyFrom_6_1 rfl (tyX6_ok 1 (by decide)) rfl rfl zi_6_1 (Nat.le_of_ble_eq_true rfl) dX6_copyFrom_2 (fun H locs hM => ?_)
  clear ca
  obtain ⟨S1, ev, hf⟩ := m_bndPE hf
  replace hM := z_hS hM ev
  clear ev
  refine lv_aload_n hx hb dX6_copyFrom_5 rfl (lv_at hl 0 rfl) ?_
  refine lv_aload_n hx hb dX6_copyFrom_6 rfl (lv_at hl 1 rfl) ?_
  obtain ⟨ca, hf⟩ := m_chkPE hf
  obtain ⟨mc, ms, hcm, ho⟩ := m_galE hf
  refine z_wcallVv (k := 6) (C := RX6) (T := TX6) (N := 2) (fl := zf_6) X hM rfl zc_6 ca (c_X6_putAll ho) gX6_copyFrom_X6_putAll rfl ⟨rfl, rfl⟩ ⟨by show kc - (C) + mc ≤ kc; omega, by show kt - (T) + ms ≤ kt; omega⟩ hd_X6_putAll ⟨Nat.le_of_ble_eq_true rfl, Nat.le_of_ble_eq_true rfl⟩ rfl hl.1 rfl (Nat.le_of_ble_eq_true rfl) dX6_copyFrom_7 (fun S4 H locs hf hM => ?_)
  refine z_eqCS (c2 := kc - (C - mc)) (t2 := kt - (T - ms)) (by omega) (by omega) ?_
  replace hCT : C - mc ≤ kc ∧ T - ms ≤ kt := by omega
  generalize C - mc = C5 at hf hCT ⊢
  generalize T - ms = T6 at hf hCT ⊢
  clear ho hcm
  exact hret _ _ _ H locs _ ls hf hM dX6_copyFrom_10
def g_X6_copyFrom (x0 : Nat) (x1 : Nat) (S : ZS) (mc ms : Nat) (Pw : Int32 → ZS → Prop) : Prop := g_X6_copyFrom_0 Pw x0 x1 S mc ms
theorem c_X6_copyFrom {l : Launch} {D : va_G} {y : Nat → ClassId} {x0 : Nat} {x1 : Nat} {S : ZS} {kc kt : Nat} {Pw : Int32 → ZS → Prop} (hf : g_X6_copyFrom x0 x1 S kc kt Pw) : zWv l yX6_copyFrom wsX6_copyFrom ({ frames := 3, cells := kc, slots := kt, locals := 104 } : Room) [.ref x0, .ref x1] D y S kc kt Pw :=
  z_wentV (own := RX6) (cc := cX6_copyFrom) (maxL := 2) (by decide) rfl rfl (Nat.le_of_ble_eq_true rfl) ⟨rfl, rfl⟩ (fun p e s m args below meth c A0 Q H locs ls X hret hM hl => w_X6_copyFrom_0 X hret hf ⟨Nat.le_refl _, Nat.le_refl _⟩ hM (lv_sub hl [0, 1] rfl))
theorem hd_X6_copyFrom : yX6_copyFrom.cls = RX6 ∧ yX6_copyFrom.cls ≠ "java/lang/invoke/MethodHandle" ∧ yX6_copyFrom.cls ≠ "java/lang/invoke/VarHandle" ∧ (parseMethodDescriptor yX6_copyFrom.desc).map (fun d => d.parameters.length) = some 1 := by decide +kernel
theorem fl_X6_isLike_6_0 : Cond.fieldLink RX6 13 "MoveTexts$Row" "chars" "[C" ∈ wsX6_isLike := by decide +kernel
theorem fl_X6_isLike_6_1 : Cond.fieldLink RX6 16 "MoveTexts$Row" "length" "I" ∈ wsX6_isLike := by decide +kernel
theorem hw_X6_isLike_6 : ∀ w ∈ wsX60, w ∈ wsX6_isLike := by decide +kernel
def f_X6_isLike_15s (self15 : Nat → Nat → Int32 → ZS → Option (Int32 × ZS)) (x0 : Nat) (x1 : Nat) (x2 : Int32) (S : ZS) : Option (Int32 × ZS) :=
  m_chk (x0 ∈ zL S ∧ zK S x0 = 6) (
  m_if ((zI S 1 x0) ≤ x2) (
  m_chk (vp_nar .boolean (1 : Int32) = (1 : Int32)) (some ((1 : Int32), S))
  ) (
  m_chk (x0 ∈ zL S ∧ zK S x0 = 6) (
  m_cal (zP S 0 x0) (fun b1 =>
  m_chk (b1 ∈ zL S ∧ zK S b1 = 13) (
  m_chk (¬ (x2 < 0 ∨ zN S b1 ≤ (x2).toNatClampNeg)) (
  m_bnd (zA S b1 (x2).toNatClampNeg) (fun v2 =>
  m_chk (x1 ∈ zL S ∧ zK S x1 = 6) (
  m_cal (f_X6_at x1 x2 S) (fun o3 =>
  m_if (v2 = o3.1) (
  m_bnd (x2 + (1 : Int32)) (fun v4 =>
  self15 x0 x1 v4 o3.2)
  ) (
  m_chk (vp_nar .boolean (0 : Int32) = (0 : Int32)) (some ((0 : Int32), o3.2))
  ))))))))
  ))

set_option maxRecDepth 100000 in
set_option maxHeartbeats 4000000 in
theorem ws_X6_isLike_15 {p : Program} {l : Launch} {e : Env} {s : State} {m : MethodId} {args : Array Value} {below : List Frame} {meth : Method} {c : Code} {Q : State → Prop} {D : va_G} {y : Nat → ClassId} {A0 : Nat → Prop} {o : Int32 × ZS} (X : CallFix p m c cX6_isLike 3 s args wsX6_isLike RX6) (hret : zRi p l e ({ frames := 1, cells := 0, slots := 0, locals := 21 } : Room) s m args below meth c Q cX6_isLike D y A0 .boolean o) {self15 : Nat → Nat → Int32 → ZS → Option (Int32 × ZS)} (hself15 : ∀ (x0 : Nat) (x1 : Nat) (x2 : Int32) (S : ZS) (H : Heap) (locs : List Loc) (ls : Array Slot), self15 x0 x1 x2 S = some o → zH D y A0 s H locs S → lv_has ls 3 [(0, .ref x0), (1, .ref x1), (2, .int x2)] → W p l e ({ frames := 1, cells := 0, slots := 0, locals := 21 } : Room) s m args below meth c H locs 0 0 Q (F0 m 15 ls [])) {x0 : Nat} {x1 : Nat} {x2 : Int32} {S : ZS} {H : Heap} {locs : List Loc} {ls : Array Slot} (hf : f_X6_isLike_15s self15 x0 x1 x2 S = some o) (hM : zH D y A0 s H locs S) (hl : lv_has ls 3 [(0, .ref x0), (1, .ref x1), (2, .int x2)]) : W p l e ({ frames := 1, cells := 0, slots := 0, locals := 21 } : Room) s m args below meth c H locs 0 0 Q (F0 m 15 ls []) := by
  obtain ⟨hx, hb, hml, hown, hts⟩ := id X
  unfold f_X6_isLike_15s at hf
  refine lv_iload_n hx hb dX6_isLike_15 rfl (lv_at hl 2 rfl) ?_
  refine lv_aload_n hx hb dX6_isLike_16 rfl (lv_at hl 0 rfl) ?_
  obtain ⟨ca, hf⟩ := m_chkE hf
  refine z_get (k := 6) (j := 1) (C := RX6) (T := TX6) (N := 2) (fl := zf_6) (v := .int (zI S 1 x0)) X hw_X6_isLike_6 hM rfl zc_6 ca (by decide) fl_X6_isLike_6_1 rfl dX6_isLike_17 ?_
  clear ca
  refine lv_icmp_ge (tgt := 45) hx hb dX6_isLike_20 (by decide) (fun cc1 => ?_) (fun cc1 => ?_)
  · replace hf := m_ifT hf cc1
    refine lv_iconst (v := (1 : Int32)) hx hb dX6_isLike_45 (by decide) ?_
    obtain ⟨cd, hf⟩ := m_chkE hf
    cases hf
    exact hret H locs _ ls hM (m_nb cd) dX6_isLike_46
  · replace hf := m_ifF hf cc1
    refine lv_aload_n hx hb dX6_isLike_23 rfl (lv_at hl 0 rfl) ?_
    obtain ⟨ca, hf⟩ := m_chkE hf
    refine z_get (k := 6) (j := 0) (C := RX6) (T := TX6) (N := 2) (fl := zf_6) (v := va_rf (zP S 0 x0)) X hw_X6_isLike_6 hM rfl zc_6 ca (by decide) fl_X6_isLike_6_0 rfl dX6_isLike_24 ?_
    clear ca
    obtain ⟨b1, hb9, hf⟩ := m_calE hf
    refine z_topr hb9 ?_
    clear hb9
    refine lv_iload_n hx hb dX6_isLike_27 rfl (lv_at hl 2 rfl) ?_
    obtain ⟨ca, hf⟩ := m_chkE hf
    obtain ⟨cd, hf⟩ := m_chkE hf
    refine z_cald X hM ca cd dX6_isLike_28 ?_
    clear ca cd
    obtain ⟨v2, ev, hf⟩ := m_bndE hf
    refine m_top ev ?_
    clear ev
    refine lv_aload_n hx hb dX6_isLike_29 rfl (lv_at hl 1 rfl) ?_
    refine lv_iload_n hx hb dX6_isLike_30 rfl (lv_at hl 2 rfl) ?_
    obtain ⟨ca, hf⟩ := m_chkE hf
    obtain ⟨o3, ho, hf⟩ := m_calE hf
    refine z_callVi (k := 6) (C := RX6) (T := TX6) (N := 2) (fl := zf_6) X hM rfl zc_6 ca (c_X6_at ho) gX6_isLike_X6_at rfl ⟨rfl, rfl⟩ hd_X6_at ⟨Nat.le_of_ble_eq_true rfl, Nat.le_of_ble_eq_true rfl⟩ rfl hl.1 rfl (Nat.le_of_ble_eq_true rfl) dX6_isLike_31 (fun H locs hM => ?_)
    clear ho
    refine lv_icmp_eq (tgt := 39) hx hb dX6_isLike_34 (by decide) (fun cc1 => ?_) (fun cc1 => ?_)
    · replace hf := m_ifT hf cc1
      obtain ⟨v4, ev, hf⟩ := m_bndE hf
      refine lv_iinc (v := v4) (lv' := [(2, .int v4), (0, .ref x0), (1, .ref x1)]) hx hb dX6_isLike_39 hl (k := 2) rfl (by rw [ev]; rfl) (by decide) rfl (fun ls hl => ?_)
      clear ev
      refine lv_goto (tgt := 15) hx hb dX6_isLike_42 (by decide) ?_
      exact hself15 x0 x1 v4 _ _ _ _ hf hM (lv_sub hl [1, 2, 0] rfl)
    · replace hf := m_ifF hf cc1
      refine lv_iconst (v := (0 : Int32)) hx hb dX6_isLike_37 (by decide) ?_
      obtain ⟨cd, hf⟩ := m_chkE hf
      cases hf
      exact hret H locs _ ls hM (m_nb cd) dX6_isLike_38
def f_X6_isLike_15 : Nat → Nat → Nat → Int32 → ZS → Option (Int32 × ZS)
  | 0 => fun _ _ _ _ => none
  | n + 1 => f_X6_isLike_15s (f_X6_isLike_15 n)
theorem w_X6_isLike_15 {p : Program} {l : Launch} {e : Env} {s : State} {m : MethodId} {args : Array Value} {below : List Frame} {meth : Method} {c : Code} {Q : State → Prop} {D : va_G} {y : Nat → ClassId} {A0 : Nat → Prop} {o : Int32 × ZS} (X : CallFix p m c cX6_isLike 3 s args wsX6_isLike RX6) (hret : zRi p l e ({ frames := 1, cells := 0, slots := 0, locals := 21 } : Room) s m args below meth c Q cX6_isLike D y A0 .boolean o) (n : Nat) : ∀ (x0 : Nat) (x1 : Nat) (x2 : Int32) (S : ZS) (H : Heap) (locs : List Loc) (ls : Array Slot), f_X6_isLike_15 n x0 x1 x2 S = some o → zH D y A0 s H locs S → lv_has ls 3 [(0, .ref x0), (1, .ref x1), (2, .int x2)] → W p l e ({ frames := 1, cells := 0, slots := 0, locals := 21 } : Room) s m args below meth c H locs 0 0 Q (F0 m 15 ls []) := by
  induction n with
  | zero => intro x0 x1 x2 S H locs ls hf; cases hf
  | succ n ih => intro x0 x1 x2 S H locs ls hf hM hl; exact ws_X6_isLike_15 X hret (self15 := f_X6_isLike_15 n) ih hf hM hl
def f_X6_isLike_0 (x0 : Nat) (x1 : Nat) (S : ZS) : Option (Int32 × ZS) :=
  m_chk (x0 ∈ zL S ∧ zK S x0 = 6) (
  m_chk (x1 ∈ zL S ∧ zK S x1 = 6) (
  m_if ((zI S 1 x0) = (zI S 1 x1)) (
  f_X6_isLike_15 mFuel x0 x1 (0 : Int32) S
  ) (
  m_chk (vp_nar .boolean (0 : Int32) = (0 : Int32)) (some ((0 : Int32), S))
  )))

set_option maxRecDepth 100000 in
set_option maxHeartbeats 4000000 in
theorem w_X6_isLike_0 {p : Program} {l : Launch} {e : Env} {s : State} {m : MethodId} {args : Array Value} {below : List Frame} {meth : Method} {c : Code} {Q : State → Prop} {D : va_G} {y : Nat → ClassId} {A0 : Nat → Prop} {o : Int32 × ZS} (X : CallFix p m c cX6_isLike 3 s args wsX6_isLike RX6) (hret : zRi p l e ({ frames := 1, cells := 0, slots := 0, locals := 21 } : Room) s m args below meth c Q cX6_isLike D y A0 .boolean o) {x0 : Nat} {x1 : Nat} {S : ZS} {H : Heap} {locs : List Loc} {ls : Array Slot} (hf : f_X6_isLike_0 x0 x1 S = some o) (hM : zH D y A0 s H locs S) (hl : lv_has ls 3 [(0, .ref x0), (1, .ref x1)]) : W p l e ({ frames := 1, cells := 0, slots := 0, locals := 21 } : Room) s m args below meth c H locs 0 0 Q (F0 m 0 ls []) := by
  obtain ⟨hx, hb, hml, hown, hts⟩ := id X
  unfold f_X6_isLike_0 at hf
  refine lv_aload_n hx hb dX6_isLike_0 rfl (lv_at hl 0 rfl) ?_
  obtain ⟨ca, hf⟩ := m_chkE hf
  refine z_get (k := 6) (j := 1) (C := RX6) (T := TX6) (N := 2) (fl := zf_6) (v := .int (zI S 1 x0)) X hw_X6_isLike_6 hM rfl zc_6 ca (by decide) fl_X6_isLike_6_1 rfl dX6_isLike_1 ?_
  clear ca
  refine lv_aload_n hx hb dX6_isLike_4 rfl (lv_at hl 1 rfl) ?_
  obtain ⟨ca, hf⟩ := m_chkE hf
  refine z_get (k := 6) (j := 1) (C := RX6) (T := TX6) (N := 2) (fl := zf_6) (v := .int (zI S 1 x1)) X hw_X6_isLike_6 hM rfl zc_6 ca (by decide) fl_X6_isLike_6_1 rfl dX6_isLike_5 ?_
  clear ca
  refine lv_icmp_eq (tgt := 13) hx hb dX6_isLike_8 (by decide) (fun cc1 => ?_) (fun cc1 => ?_)
  · replace hf := m_ifT hf cc1
    refine lv_iconst (v := (0 : Int32)) hx hb dX6_isLike_13 (by decide) ?_
    refine lv_istore_n (lv' := [(2, .int (0 : Int32)), (0, .ref x0), (1, .ref x1)]) hx hb dX6_isLike_14 rfl hl (by decide) rfl (fun ls hl => ?_)
    exact w_X6_isLike_15 X hret _ x0 x1 (0 : Int32) _ _ _ _ hf hM (lv_sub hl [1, 2, 0] rfl)
  · replace hf := m_ifF hf cc1
    refine lv_iconst (v := (0 : Int32)) hx hb dX6_isLike_11 (by decide) ?_
    obtain ⟨cd, hf⟩ := m_chkE hf
    cases hf
    exact hret H locs _ ls hM (m_nb cd) dX6_isLike_12
def f_X6_isLike (x0 : Nat) (x1 : Nat) (S : ZS) : Option (Int32 × ZS) := f_X6_isLike_0 x0 x1 S
theorem c_X6_isLike {l : Launch} {D : va_G} {y : Nat → ClassId} {x0 : Nat} {x1 : Nat} {S : ZS} {o : Int32 × ZS} (hf : f_X6_isLike x0 x1 S = some o) : zMi l yX6_isLike wsX6_isLike ({ frames := 1, cells := 0, slots := 0, locals := 21 } : Room) [.ref x0, .ref x1] D y S o :=
  z_entryI (own := RX6) (cc := cX6_isLike) (maxL := 3) (by decide) rfl rfl (Nat.le_of_ble_eq_true rfl) (fun p e s m args below meth c A0 Q H locs ls X hret hM hl => w_X6_isLike_0 X hret hf hM (lv_sub hl [0, 1] rfl))
theorem hd_X6_isLike : yX6_isLike.cls = RX6 ∧ yX6_isLike.cls ≠ "java/lang/invoke/MethodHandle" ∧ yX6_isLike.cls ≠ "java/lang/invoke/VarHandle" ∧ (parseMethodDescriptor yX6_isLike.desc).map (fun d => d.parameters.length) = some 1 := by decide +kernel
def f_X7_isLegal_47 (S : ZS) : Option (Int32 × ZS) :=
  m_chk (vp_nar .boolean (0 : Int32) = (0 : Int32)) (some ((0 : Int32), S))

set_option maxRecDepth 100000 in
set_option maxHeartbeats 4000000 in
theorem w_X7_isLegal_47 {p : Program} {l : Launch} {e : Env} {s : State} {m : MethodId} {args : Array Value} {below : List Frame} {meth : Method} {c : Code} {Q : State → Prop} {D : va_G} {y : Nat → ClassId} {A0 : Nat → Prop} {o : Int32 × ZS} (X : CallFix p m c cX7_isLegal 6 s args wsX7_isLegal RX7) (hret : zRi p l e ({ frames := 3, cells := 0, slots := 0, locals := 106 } : Room) s m args below meth c Q cX7_isLegal D y A0 .boolean o) {S : ZS} {H : Heap} {locs : List Loc} {ls : Array Slot} (hf : f_X7_isLegal_47  S = some o) (hM : zH D y A0 s H locs S) (hl : lv_has ls 6 []) : W p l e ({ frames := 3, cells := 0, slots := 0, locals := 106 } : Room) s m args below meth c H locs 0 0 Q (F0 m 47 ls []) := by
  obtain ⟨hx, hb, hml, hown, hts⟩ := id X
  unfold f_X7_isLegal_47 at hf
  refine lv_iconst (v := (0 : Int32)) hx hb dX7_isLegal_47 (by decide) ?_
  obtain ⟨cd, hf⟩ := m_chkE hf
  cases hf
  exact hret H locs _ ls hM (m_nb cd) dX7_isLegal_48
def f_X7_isLegal_83 (t0 : Int32) (S : ZS) : Option (Int32 × ZS) :=
  m_chk (vp_nar .boolean t0 = t0) (some (t0, S))

set_option maxRecDepth 100000 in
set_option maxHeartbeats 4000000 in
theorem w_X7_isLegal_83 {p : Program} {l : Launch} {e : Env} {s : State} {m : MethodId} {args : Array Value} {below : List Frame} {meth : Method} {c : Code} {Q : State → Prop} {D : va_G} {y : Nat → ClassId} {A0 : Nat → Prop} {o : Int32 × ZS} (X : CallFix p m c cX7_isLegal 6 s args wsX7_isLegal RX7) (hret : zRi p l e ({ frames := 3, cells := 0, slots := 0, locals := 106 } : Room) s m args below meth c Q cX7_isLegal D y A0 .boolean o) {t0 : Int32} {S : ZS} {H : Heap} {locs : List Loc} {ls : Array Slot} (hf : f_X7_isLegal_83 t0 S = some o) (hM : zH D y A0 s H locs S) (hl : lv_has ls 6 []) : W p l e ({ frames := 3, cells := 0, slots := 0, locals := 106 } : Room) s m args below meth c H locs 0 0 Q (F0 m 83 ls [.int t0]) := by
  obtain ⟨hx, hb, hml, hown, hts⟩ := id X
  unfold f_X7_isLegal_83 at hf
  obtain ⟨cd, hf⟩ := m_chkE hf
  cases hf
  exact hret H locs _ ls hM (m_nb cd) dX7_isLegal_83
def f_X7_isLegal_82 (S : ZS) : Option (Int32 × ZS) :=
  f_X7_isLegal_83 (0 : Int32) S

set_option maxRecDepth 100000 in
set_option maxHeartbeats 4000000 in
theorem w_X7_isLegal_82 {p : Program} {l : Launch} {e : Env} {s : State} {m : MethodId} {args : Array Value} {below : List Frame} {meth : Method} {c : Code} {Q : State → Prop} {D : va_G} {y : Nat → ClassId} {A0 : Nat → Prop} {o : Int32 × ZS} (X : CallFix p m c cX7_isLegal 6 s args wsX7_isLegal RX7) (hret : zRi p l e ({ frames := 3, cells := 0, slots := 0, locals := 106 } : Room) s m args below meth c Q cX7_isLegal D y A0 .boolean o) {S : ZS} {H : Heap} {locs : List Loc} {ls : Array Slot} (hf : f_X7_isLegal_82  S = some o) (hM : zH D y A0 s H locs S) (hl : lv_has ls 6 []) : W p l e ({ frames := 3, cells := 0, slots := 0, locals := 106 } : Room) s m args below meth c H locs 0 0 Q (F0 m 82 ls []) := by
  obtain ⟨hx, hb, hml, hown, hts⟩ := id X
  unfold f_X7_isLegal_82 at hf
  refine lv_iconst (v := (0 : Int32)) hx hb dX7_isLegal_82 (by decide) ?_
  exact w_X7_isLegal_83 (t0 := (0 : Int32)) X hret hf hM (lv_sub hl [] rfl)
def f_X7_isLegal_66 (x0 : Nat) (x1 : Nat) (x2 : Int32) (t0 : Int32) (t1 : Int32) (S : ZS) : Option (Int32 × ZS) :=
  m_if (t1 = t0) (
  m_chk (x0 ∈ zL S ∧ zK S x0 = 7) (
  m_cal (f_X7_isSafe x0 x1 x2 S) (fun o1 =>
  m_if (o1.1 = 0) (
  f_X7_isLegal_82  o1.2
  ) (
  f_X7_isLegal_83 (1 : Int32) o1.2
  )))
  ) (
  f_X7_isLegal_82  S
  )

set_option maxRecDepth 100000 in
set_option maxHeartbeats 4000000 in
theorem w_X7_isLegal_66 {p : Program} {l : Launch} {e : Env} {s : State} {m : MethodId} {args : Array Value} {below : List Frame} {meth : Method} {c : Code} {Q : State → Prop} {D : va_G} {y : Nat → ClassId} {A0 : Nat → Prop} {o : Int32 × ZS} (X : CallFix p m c cX7_isLegal 6 s args wsX7_isLegal RX7) (hret : zRi p l e ({ frames := 3, cells := 0, slots := 0, locals := 106 } : Room) s m args below meth c Q cX7_isLegal D y A0 .boolean o) {x0 : Nat} {x1 : Nat} {x2 : Int32} {t0 : Int32} {t1 : Int32} {S : ZS} {H : Heap} {locs : List Loc} {ls : Array Slot} (hf : f_X7_isLegal_66 x0 x1 x2 t0 t1 S = some o) (hM : zH D y A0 s H locs S) (hl : lv_has ls 6 [(0, .ref x0), (1, .ref x1), (2, .int x2)]) : W p l e ({ frames := 3, cells := 0, slots := 0, locals := 106 } : Room) s m args below meth c H locs 0 0 Q (F0 m 66 ls [.int t0, .int t1]) := by
  obtain ⟨hx, hb, hml, hown, hts⟩ := id X
  unfold f_X7_isLegal_66 at hf
  refine lv_icmp_ne (tgt := 82) hx hb dX7_isLegal_66 (by decide) (fun cc1 => ?_) (fun cc1 => ?_)
  · replace hf := m_ifF hf cc1
    exact w_X7_isLegal_82 X hret hf hM (lv_sub hl [] rfl)
  · replace hf := m_ifT hf cc1
    refine lv_aload_n hx hb dX7_isLegal_69 rfl (lv_at hl 0 rfl) ?_
    refine lv_aload_n hx hb dX7_isLegal_70 rfl (lv_at hl 1 rfl) ?_
    refine lv_iload_n hx hb dX7_isLegal_71 rfl (lv_at hl 2 rfl) ?_
    obtain ⟨ca, hf⟩ := m_chkE hf
    obtain ⟨o1, ho, hf⟩ := m_calE hf
    refine z_callVi (k := 7) (C := RX7) (T := TX7) (N := 2) (fl := zf_7) X hM rfl zc_7 ca (c_X7_isSafe ho) gX7_isLegal_X7_isSafe rfl ⟨rfl, rfl⟩ hd_X7_isSafe ⟨Nat.le_of_ble_eq_true rfl, Nat.le_of_ble_eq_true rfl⟩ rfl hl.1 rfl (Nat.le_of_ble_eq_true rfl) dX7_isLegal_72 (fun H locs hM => ?_)
    clear ho
    refine lv_if_eq (tgt := 82) hx hb dX7_isLegal_75 (by decide) (fun cc1 => ?_) (fun cc1 => ?_)
    · replace hf := m_ifT hf cc1
      exact w_X7_isLegal_82 X hret hf hM (lv_sub hl [] rfl)
    · replace hf := m_ifF hf cc1
      refine lv_iconst (v := (1 : Int32)) hx hb dX7_isLegal_78 (by decide) ?_
      refine lv_goto (tgt := 83) hx hb dX7_isLegal_79 (by decide) ?_
      exact w_X7_isLegal_83 (t0 := (1 : Int32)) X hret hf hM (lv_sub hl [] rfl)
def f_X7_isLegal_0 (x0 : Nat) (x1 : Nat) (x2 : Int32) (S : ZS) : Option (Int32 × ZS) :=
  m_bnd (x2 &&& (63 : Int32)) (fun v1 =>
  m_bnd (x2 >>> ((6 : Int32) &&& 31)) (fun v2 =>
  m_bnd (v2 &&& (63 : Int32)) (fun v3 =>
  m_bnd (x2 >>> ((12 : Int32) &&& 31)) (fun v4 =>
  m_if (v4 < 0) (
  f_X7_isLegal_47  S
  ) (
  m_if (v4 = (1 : Int32)) (
  f_X7_isLegal_47  S
  ) (
  m_if ((5 : Int32) < v4) (
  f_X7_isLegal_47  S
  ) (
  m_chk (x1 ∈ zL S ∧ zK S x1 = 0) (
  m_cal (f_X0_reaches x1 v1 v3 S) (fun o5 =>
  m_if (o5.1 = 0) (
  f_X7_isLegal_47  o5.2
  ) (
  m_chk (x1 ∈ zL o5.2 ∧ zK o5.2 x1 = 0) (
  m_cal (f_X0_becomesAnother x1 v1 v3 o5.2) (fun o6 =>
  m_if (v4 = 0) (
  f_X7_isLegal_66 x0 x1 x2 (0 : Int32) o6.1 o6.2
  ) (
  f_X7_isLegal_66 x0 x1 x2 (1 : Int32) o6.1 o6.2
  )))
  )))
  )
  )
  )))))

set_option maxRecDepth 100000 in
set_option maxHeartbeats 4000000 in
theorem w_X7_isLegal_0 {p : Program} {l : Launch} {e : Env} {s : State} {m : MethodId} {args : Array Value} {below : List Frame} {meth : Method} {c : Code} {Q : State → Prop} {D : va_G} {y : Nat → ClassId} {A0 : Nat → Prop} {o : Int32 × ZS} (X : CallFix p m c cX7_isLegal 6 s args wsX7_isLegal RX7) (hret : zRi p l e ({ frames := 3, cells := 0, slots := 0, locals := 106 } : Room) s m args below meth c Q cX7_isLegal D y A0 .boolean o) {x0 : Nat} {x1 : Nat} {x2 : Int32} {S : ZS} {H : Heap} {locs : List Loc} {ls : Array Slot} (hf : f_X7_isLegal_0 x0 x1 x2 S = some o) (hM : zH D y A0 s H locs S) (hl : lv_has ls 6 [(0, .ref x0), (1, .ref x1), (2, .int x2)]) : W p l e ({ frames := 3, cells := 0, slots := 0, locals := 106 } : Room) s m args below meth c H locs 0 0 Q (F0 m 0 ls []) := by
  obtain ⟨hx, hb, hml, hown, hts⟩ := id X
  unfold f_X7_isLegal_0 at hf
  refine lv_iload_n hx hb dX7_isLegal_0 rfl (lv_at hl 2 rfl) ?_
  refine lv_bipush (v := (63 : Int32)) hx hb dX7_isLegal_1 (by decide) ?_
  refine lv_iand hx hb dX7_isLegal_3 ?_
  obtain ⟨v1, ev, hf⟩ := m_bndE hf
  refine m_top ev ?_
  clear ev
  refine lv_istore_n (lv' := [(3, .int v1), (0, .ref x0), (1, .ref x1), (2, .int x2)]) hx hb dX7_isLegal_4 rfl hl (by decide) rfl (fun ls hl => ?_)
  refine lv_iload_n hx hb dX7_isLegal_5 rfl (lv_at hl 3 rfl) ?_
  refine lv_bipush (v := (6 : Int32)) hx hb dX7_isLegal_6 (by decide) ?_
  refine lv_ishr hx hb dX7_isLegal_8 ?_
  obtain ⟨v2, ev, hf⟩ := m_bndE hf
  refine m_top ev ?_
  clear ev
  refine lv_bipush (v := (63 : Int32)) hx hb dX7_isLegal_9 (by decide) ?_
  refine lv_iand hx hb dX7_isLegal_11 ?_
  obtain ⟨v3, ev, hf⟩ := m_bndE hf
  refine m_top ev ?_
  clear ev
  refine lv_istore (lv' := [(4, .int v3), (3, .int v1), (0, .ref x0), (1, .ref x1), (2, .int x2)]) hx hb dX7_isLegal_12 hl (by decide) rfl (fun ls hl => ?_)
  refine lv_iload_n hx hb dX7_isLegal_14 rfl (lv_at hl 4 rfl) ?_
  refine lv_bipush (v := (12 : Int32)) hx hb dX7_isLegal_15 (by decide) ?_
  refine lv_ishr hx hb dX7_isLegal_17 ?_
  obtain ⟨v4, ev, hf⟩ := m_bndE hf
  refine m_top ev ?_
  clear ev
  refine lv_istore (lv' := [(5, .int v4), (4, .int v3), (3, .int v1), (0, .ref x0), (1, .ref x1), (2, .int x2)]) hx hb dX7_isLegal_18 hl (by decide) rfl (fun ls hl => ?_)
  refine lv_iload hx hb dX7_isLegal_20 (lv_at hl 0 rfl) ?_
  refine lv_if_lt (tgt := 47) hx hb dX7_isLegal_22 (by decide) (fun cc1 => ?_) (fun cc1 => ?_)
  · replace hf := m_ifT hf cc1
    exact w_X7_isLegal_47 X hret hf hM (lv_sub hl [] rfl)
  · replace hf := m_ifF hf cc1
    refine lv_iload hx hb dX7_isLegal_25 (lv_at hl 0 rfl) ?_
    refine lv_iconst (v := (1 : Int32)) hx hb dX7_isLegal_27 (by decide) ?_
    refine lv_icmp_eq (tgt := 47) hx hb dX7_isLegal_28 (by decide) (fun cc1 => ?_) (fun cc1 => ?_)
    · replace hf := m_ifT hf cc1
      exact w_X7_isLegal_47 X hret hf hM (lv_sub hl [] rfl)
    · replace hf := m_ifF hf cc1
      refine lv_iload hx hb dX7_isLegal_31 (lv_at hl 0 rfl) ?_
      refine lv_iconst (v := (5 : Int32)) hx hb dX7_isLegal_33 (by decide) ?_
      refine lv_icmp_gt (tgt := 47) hx hb dX7_isLegal_34 (by decide) (fun cc1 => ?_) (fun cc1 => ?_)
      · replace hf := m_ifT hf cc1
        exact w_X7_isLegal_47 X hret hf hM (lv_sub hl [] rfl)
      · replace hf := m_ifF hf cc1
        refine lv_aload_n hx hb dX7_isLegal_37 rfl (lv_at hl 4 rfl) ?_
        refine lv_iload_n hx hb dX7_isLegal_38 rfl (lv_at hl 2 rfl) ?_
        refine lv_iload hx hb dX7_isLegal_39 (lv_at hl 1 rfl) ?_
        obtain ⟨ca, hf⟩ := m_chkE hf
        obtain ⟨o5, ho, hf⟩ := m_calE hf
        refine z_callVi (k := 0) (C := RX0) (T := TX0) (N := 7) (fl := zf_0) X hM rfl zc_0 ca (c_X0_reaches ho) gX7_isLegal_X0_reaches rfl ⟨rfl, rfl⟩ hd_X0_reaches ⟨Nat.le_of_ble_eq_true rfl, Nat.le_of_ble_eq_true rfl⟩ rfl hl.1 rfl (Nat.le_of_ble_eq_true rfl) dX7_isLegal_41 (fun H locs hM => ?_)
        clear ho
        refine lv_if_ne (tgt := 49) hx hb dX7_isLegal_44 (by decide) (fun cc1 => ?_) (fun cc1 => ?_)
        · replace hf := m_ifF hf cc1
          refine lv_aload_n hx hb dX7_isLegal_49 rfl (lv_at hl 4 rfl) ?_
          refine lv_iload_n hx hb dX7_isLegal_50 rfl (lv_at hl 2 rfl) ?_
          refine lv_iload hx hb dX7_isLegal_51 (lv_at hl 1 rfl) ?_
          obtain ⟨ca, hf⟩ := m_chkE hf
          obtain ⟨o6, ho, hf⟩ := m_calE hf
          refine z_callVi (k := 0) (C := RX0) (T := TX0) (N := 7) (fl := zf_0) X hM rfl zc_0 ca (c_X0_becomesAnother ho) gX7_isLegal_X0_becomesAnother rfl ⟨rfl, rfl⟩ hd_X0_becomesAnother ⟨Nat.le_of_ble_eq_true rfl, Nat.le_of_ble_eq_true rfl⟩ rfl hl.1 rfl (Nat.le_of_ble_eq_true rfl) dX7_isLegal_53 (fun H locs hM => ?_)
          clear ho
          refine lv_iload hx hb dX7_isLegal_56 (lv_at hl 0 rfl) ?_
          refine lv_if_eq (tgt := 65) hx hb dX7_isLegal_58 (by decide) (fun cc1 => ?_) (fun cc1 => ?_)
          · replace hf := m_ifT hf cc1
            refine lv_iconst (v := (0 : Int32)) hx hb dX7_isLegal_65 (by decide) ?_
            exact w_X7_isLegal_66 (x0 := x0) (x1 := x1) (x2 := x2) (t0 := (0 : Int32)) (t1 := o6.1) X hret hf hM (lv_sub hl [3, 4, 5] rfl)
          · replace hf := m_ifF hf cc1
            refine lv_iconst (v := (1 : Int32)) hx hb dX7_isLegal_61 (by decide) ?_
            refine lv_goto (tgt := 66) hx hb dX7_isLegal_62 (by decide) ?_
            exact w_X7_isLegal_66 (x0 := x0) (x1 := x1) (x2 := x2) (t0 := (1 : Int32)) (t1 := o6.1) X hret hf hM (lv_sub hl [3, 4, 5] rfl)
        · replace hf := m_ifT hf cc1
          exact w_X7_isLegal_47 X hret hf hM (lv_sub hl [] rfl)
def f_X7_isLegal (x0 : Nat) (x1 : Nat) (x2 : Int32) (S : ZS) : Option (Int32 × ZS) := f_X7_isLegal_0 x0 x1 x2 S
theorem c_X7_isLegal {l : Launch} {D : va_G} {y : Nat → ClassId} {x0 : Nat} {x1 : Nat} {x2 : Int32} {S : ZS} {o : Int32 × ZS} (hf : f_X7_isLegal x0 x1 x2 S = some o) : zMi l yX7_isLegal wsX7_isLegal ({ frames := 3, cells := 0, slots := 0, locals := 106 } : Room) [.ref x0, .ref x1, .int x2] D y S o :=
  z_entryI (own := RX7) (cc := cX7_isLegal) (maxL := 6) (by decide) rfl rfl (Nat.le_of_ble_eq_true rfl) (fun p e s m args below meth c A0 Q H locs ls X hret hM hl => w_X7_isLegal_0 X hret hf hM (lv_sub hl [0, 1, 2] rfl))
theorem hd_X7_isLegal : yX7_isLegal.cls = RX7 ∧ yX7_isLegal.cls ≠ "java/lang/invoke/MethodHandle" ∧ yX7_isLegal.cls ≠ "java/lang/invoke/VarHandle" ∧ (parseMethodDescriptor yX7_isLegal.desc).map (fun d => d.parameters.length) = some 2 := by decide +kernel
def f_X7_legalMove_110 (self11 : Nat → Nat → Int32 → Int32 → ZS → Option (Int32 × ZS)) (self21 : Nat → Nat → Int32 → Int32 → Int32 → ZS → Option (Int32 × ZS)) (x0 : Nat) (x1 : Nat) (x3 : Int32) (x4 : Int32) (x5 : Int32) (S : ZS) : Option (Int32 × ZS) :=
  m_bnd (x5 + (1 : Int32)) (fun v1 =>
  self21 x0 x1 x3 x4 v1 S)

set_option maxRecDepth 100000 in
set_option maxHeartbeats 4000000 in
theorem w_X7_legalMove_110 {p : Program} {l : Launch} {e : Env} {s : State} {m : MethodId} {args : Array Value} {below : List Frame} {meth : Method} {c : Code} {Q : State → Prop} {D : va_G} {y : Nat → ClassId} {A0 : Nat → Prop} {o : Int32 × ZS} (X : CallFix p m c cX7_legalMove 8 s args wsX7_legalMove RX7) (hret : zRi p l e ({ frames := 3, cells := 0, slots := 0, locals := 106 } : Room) s m args below meth c Q cX7_legalMove D y A0 .int o) {self11 : Nat → Nat → Int32 → Int32 → ZS → Option (Int32 × ZS)} (hself11 : ∀ (x0 : Nat) (x1 : Nat) (x3 : Int32) (x4 : Int32) (S : ZS) (H : Heap) (locs : List Loc) (ls : Array Slot), self11 x0 x1 x3 x4 S = some o → zH D y A0 s H locs S → lv_has ls 8 [(0, .ref x0), (1, .ref x1), (3, .int x3), (4, .int x4)] → W p l e ({ frames := 3, cells := 0, slots := 0, locals := 106 } : Room) s m args below meth c H locs 0 0 Q (F0 m 11 ls [])) {self21 : Nat → Nat → Int32 → Int32 → Int32 → ZS → Option (Int32 × ZS)} (hself21 : ∀ (x0 : Nat) (x1 : Nat) (x3 : Int32) (x4 : Int32) (x5 : Int32) (S : ZS) (H : Heap) (locs : List Loc) (ls : Array Slot), self21 x0 x1 x3 x4 x5 S = some o → zH D y A0 s H locs S → lv_has ls 8 [(0, .ref x0), (1, .ref x1), (3, .int x3), (4, .int x4), (5, .int x5)] → W p l e ({ frames := 3, cells := 0, slots := 0, locals := 106 } : Room) s m args below meth c H locs 0 0 Q (F0 m 21 ls [])) {x0 : Nat} {x1 : Nat} {x3 : Int32} {x4 : Int32} {x5 : Int32} {S : ZS} {H : Heap} {locs : List Loc} {ls : Array Slot} (hf : f_X7_legalMove_110 self11 self21 x0 x1 x3 x4 x5 S = some o) (hM : zH D y A0 s H locs S) (hl : lv_has ls 8 [(0, .ref x0), (1, .ref x1), (3, .int x3), (4, .int x4), (5, .int x5)]) : W p l e ({ frames := 3, cells := 0, slots := 0, locals := 106 } : Room) s m args below meth c H locs 0 0 Q (F0 m 110 ls []) := by
  obtain ⟨hx, hb, hml, hown, hts⟩ := id X
  unfold f_X7_legalMove_110 at hf
  obtain ⟨v1, ev, hf⟩ := m_bndE hf
  refine lv_iinc (v := v1) (lv' := [(5, .int v1), (0, .ref x0), (1, .ref x1), (3, .int x3), (4, .int x4)]) hx hb dX7_legalMove_110 hl (k := 4) rfl (by rw [ev]; rfl) (by decide) rfl (fun ls hl => ?_)
  clear ev
  refine lv_goto (tgt := 21) hx hb dX7_legalMove_113 (by decide) ?_
  exact hself21 x0 x1 x3 x4 v1 _ _ _ _ hf hM (lv_sub hl [1, 2, 3, 4, 0] rfl)
def f_X7_legalMove_104 (t0 : Int32) (S : ZS) : Option (Int32 × ZS) :=
  some (t0, S)

set_option maxRecDepth 100000 in
set_option maxHeartbeats 4000000 in
theorem w_X7_legalMove_104 {p : Program} {l : Launch} {e : Env} {s : State} {m : MethodId} {args : Array Value} {below : List Frame} {meth : Method} {c : Code} {Q : State → Prop} {D : va_G} {y : Nat → ClassId} {A0 : Nat → Prop} {o : Int32 × ZS} (X : CallFix p m c cX7_legalMove 8 s args wsX7_legalMove RX7) (hret : zRi p l e ({ frames := 3, cells := 0, slots := 0, locals := 106 } : Room) s m args below meth c Q cX7_legalMove D y A0 .int o) {t0 : Int32} {S : ZS} {H : Heap} {locs : List Loc} {ls : Array Slot} (hf : f_X7_legalMove_104 t0 S = some o) (hM : zH D y A0 s H locs S) (hl : lv_has ls 8 []) : W p l e ({ frames := 3, cells := 0, slots := 0, locals := 106 } : Room) s m args below meth c H locs 0 0 Q (F0 m 104 ls [.int t0]) := by
  obtain ⟨hx, hb, hml, hown, hts⟩ := id X
  unfold f_X7_legalMove_104 at hf
  cases hf
  exact hret H locs _ ls hM rfl dX7_legalMove_104
def f_X7_legalMove_75 (self11 : Nat → Nat → Int32 → Int32 → ZS → Option (Int32 × ZS)) (self21 : Nat → Nat → Int32 → Int32 → Int32 → ZS → Option (Int32 × ZS)) (x0 : Nat) (x1 : Nat) (x3 : Int32) (x4 : Int32) (x5 : Int32) (x6 : Int32) (t0 : Int32) (S : ZS) : Option (Int32 × ZS) :=
  m_if (t0 ≤ x3) (
  m_bnd (x3 - t0) (fun v1 =>
  f_X7_legalMove_110 self11 self21 x0 x1 v1 x4 x5 S)
  ) (
  m_if (t0 = (1 : Int32)) (
  f_X7_legalMove_104 x6 S
  ) (
  m_bnd ((2 : Int32) + x3) (fun v2 =>
  m_bnd ((4096 : Int32) * v2) (fun v3 =>
  m_bnd (x6 + v3) (fun v4 =>
  f_X7_legalMove_104 v4 S)))
  )
  )

set_option maxRecDepth 100000 in
set_option maxHeartbeats 4000000 in
theorem w_X7_legalMove_75 {p : Program} {l : Launch} {e : Env} {s : State} {m : MethodId} {args : Array Value} {below : List Frame} {meth : Method} {c : Code} {Q : State → Prop} {D : va_G} {y : Nat → ClassId} {A0 : Nat → Prop} {o : Int32 × ZS} (X : CallFix p m c cX7_legalMove 8 s args wsX7_legalMove RX7) (hret : zRi p l e ({ frames := 3, cells := 0, slots := 0, locals := 106 } : Room) s m args below meth c Q cX7_legalMove D y A0 .int o) {self11 : Nat → Nat → Int32 → Int32 → ZS → Option (Int32 × ZS)} (hself11 : ∀ (x0 : Nat) (x1 : Nat) (x3 : Int32) (x4 : Int32) (S : ZS) (H : Heap) (locs : List Loc) (ls : Array Slot), self11 x0 x1 x3 x4 S = some o → zH D y A0 s H locs S → lv_has ls 8 [(0, .ref x0), (1, .ref x1), (3, .int x3), (4, .int x4)] → W p l e ({ frames := 3, cells := 0, slots := 0, locals := 106 } : Room) s m args below meth c H locs 0 0 Q (F0 m 11 ls [])) {self21 : Nat → Nat → Int32 → Int32 → Int32 → ZS → Option (Int32 × ZS)} (hself21 : ∀ (x0 : Nat) (x1 : Nat) (x3 : Int32) (x4 : Int32) (x5 : Int32) (S : ZS) (H : Heap) (locs : List Loc) (ls : Array Slot), self21 x0 x1 x3 x4 x5 S = some o → zH D y A0 s H locs S → lv_has ls 8 [(0, .ref x0), (1, .ref x1), (3, .int x3), (4, .int x4), (5, .int x5)] → W p l e ({ frames := 3, cells := 0, slots := 0, locals := 106 } : Room) s m args below meth c H locs 0 0 Q (F0 m 21 ls [])) {x0 : Nat} {x1 : Nat} {x3 : Int32} {x4 : Int32} {x5 : Int32} {x6 : Int32} {t0 : Int32} {S : ZS} {H : Heap} {locs : List Loc} {ls : Array Slot} (hf : f_X7_legalMove_75 self11 self21 x0 x1 x3 x4 x5 x6 t0 S = some o) (hM : zH D y A0 s H locs S) (hl : lv_has ls 8 [(0, .ref x0), (1, .ref x1), (3, .int x3), (4, .int x4), (5, .int x5), (6, .int x6)]) : W p l e ({ frames := 3, cells := 0, slots := 0, locals := 106 } : Room) s m args below meth c H locs 0 0 Q (F0 m 75 ls [.int t0]) := by
  obtain ⟨hx, hb, hml, hown, hts⟩ := id X
  unfold f_X7_legalMove_75 at hf
  refine lv_istore (lv' := [(7, .int t0), (0, .ref x0), (1, .ref x1), (3, .int x3), (4, .int x4), (5, .int x5), (6, .int x6)]) hx hb dX7_legalMove_75 hl (by decide) rfl (fun ls hl => ?_)
  refine lv_iload_n hx hb dX7_legalMove_77 rfl (lv_at hl 3 rfl) ?_
  refine lv_iload hx hb dX7_legalMove_78 (lv_at hl 0 rfl) ?_
  refine lv_icmp_ge (tgt := 105) hx hb dX7_legalMove_80 (by decide) (fun cc1 => ?_) (fun cc1 => ?_)
  · replace hf := m_ifT hf cc1
    refine lv_iload_n hx hb dX7_legalMove_105 rfl (lv_at hl 3 rfl) ?_
    refine lv_iload hx hb dX7_legalMove_106 (lv_at hl 0 rfl) ?_
    refine lv_isub hx hb dX7_legalMove_108 ?_
    obtain ⟨v1, ev, hf⟩ := m_bndE hf
    refine m_top ev ?_
    clear ev
    refine lv_istore_n (lv' := [(3, .int v1), (7, .int t0), (0, .ref x0), (1, .ref x1), (4, .int x4), (5, .int x5), (6, .int x6)]) hx hb dX7_legalMove_109 rfl hl (by decide) rfl (fun ls hl => ?_)
    exact w_X7_legalMove_110 (x0 := x0) (x1 := x1) (x3 := v1) (x4 := x4) (x5 := x5) X hret hself11 hself21 hf hM (lv_sub hl [2, 3, 0, 4, 5] rfl)
  · replace hf := m_ifF hf cc1
    refine lv_iload hx hb dX7_legalMove_83 (lv_at hl 0 rfl) ?_
    refine lv_iconst (v := (1 : Int32)) hx hb dX7_legalMove_85 (by decide) ?_
    refine lv_icmp_ne (tgt := 94) hx hb dX7_legalMove_86 (by decide) (fun cc1 => ?_) (fun cc1 => ?_)
    · replace hf := m_ifF hf cc1
      refine lv_iload hx hb dX7_legalMove_94 (lv_at hl 6 rfl) ?_
      refine lv_sipush (v := (4096 : Int32)) hx hb dX7_legalMove_96 (by decide) ?_
      refine lv_iconst (v := (2 : Int32)) hx hb dX7_legalMove_99 (by decide) ?_
      refine lv_iload_n hx hb dX7_legalMove_100 rfl (lv_at hl 3 rfl) ?_
      refine lv_iadd hx hb dX7_legalMove_101 ?_
      obtain ⟨v2, ev, hf⟩ := m_bndE hf
      refine m_top ev ?_
      clear ev
      refine lv_imul hx hb dX7_legalMove_102 ?_
      obtain ⟨v3, ev, hf⟩ := m_bndE hf
      refine m_top ev ?_
      clear ev
      refine lv_iadd hx hb dX7_legalMove_103 ?_
      obtain ⟨v4, ev, hf⟩ := m_bndE hf
      refine m_top ev ?_
      clear ev
      exact w_X7_legalMove_104 (t0 := v4) X hret hf hM (lv_sub hl [] rfl)
    · replace hf := m_ifT hf cc1
      refine lv_iload hx hb dX7_legalMove_89 (lv_at hl 6 rfl) ?_
      refine lv_goto (tgt := 104) hx hb dX7_legalMove_91 (by decide) ?_
      exact w_X7_legalMove_104 (t0 := x6) X hret hf hM (lv_sub hl [] rfl)
def f_X7_legalMove_21s (self11 : Nat → Nat → Int32 → Int32 → ZS → Option (Int32 × ZS)) (self21 : Nat → Nat → Int32 → Int32 → Int32 → ZS → Option (Int32 × ZS)) (x0 : Nat) (x1 : Nat) (x3 : Int32) (x4 : Int32) (x5 : Int32) (S : ZS) : Option (Int32 × ZS) :=
  m_if ((64 : Int32) ≤ x5) (
  m_bnd (x4 + (1 : Int32)) (fun v1 =>
  self11 x0 x1 x3 v1 S)
  ) (
  m_bnd ((64 : Int32) * x5) (fun v2 =>
  m_bnd (x4 + v2) (fun v3 =>
  m_chk (x1 ∈ zL S ∧ zK S x1 = 0) (
  m_cal (f_X0_reaches x1 x4 x5 S) (fun o4 =>
  m_if (o4.1 = 0) (
  f_X7_legalMove_110 self11 self21 x0 x1 x3 x4 x5 o4.2
  ) (
  m_chk (x0 ∈ zL o4.2 ∧ zK o4.2 x0 = 7) (
  m_cal (f_X7_isSafe x0 x1 v3 o4.2) (fun o5 =>
  m_if (o5.1 = 0) (
  f_X7_legalMove_110 self11 self21 x0 x1 x3 x4 x5 o5.2
  ) (
  m_chk (x1 ∈ zL o5.2 ∧ zK o5.2 x1 = 0) (
  m_cal (f_X0_becomesAnother x1 x4 x5 o5.2) (fun o6 =>
  m_if (o6.1 = 0) (
  f_X7_legalMove_75 self11 self21 x0 x1 x3 x4 x5 v3 (1 : Int32) o6.2
  ) (
  f_X7_legalMove_75 self11 self21 x0 x1 x3 x4 x5 v3 (4 : Int32) o6.2
  )))
  )))
  )))))
  )

set_option maxRecDepth 100000 in
set_option maxHeartbeats 4000000 in
theorem ws_X7_legalMove_21 {p : Program} {l : Launch} {e : Env} {s : State} {m : MethodId} {args : Array Value} {below : List Frame} {meth : Method} {c : Code} {Q : State → Prop} {D : va_G} {y : Nat → ClassId} {A0 : Nat → Prop} {o : Int32 × ZS} (X : CallFix p m c cX7_legalMove 8 s args wsX7_legalMove RX7) (hret : zRi p l e ({ frames := 3, cells := 0, slots := 0, locals := 106 } : Room) s m args below meth c Q cX7_legalMove D y A0 .int o) {self11 : Nat → Nat → Int32 → Int32 → ZS → Option (Int32 × ZS)} (hself11 : ∀ (x0 : Nat) (x1 : Nat) (x3 : Int32) (x4 : Int32) (S : ZS) (H : Heap) (locs : List Loc) (ls : Array Slot), self11 x0 x1 x3 x4 S = some o → zH D y A0 s H locs S → lv_has ls 8 [(0, .ref x0), (1, .ref x1), (3, .int x3), (4, .int x4)] → W p l e ({ frames := 3, cells := 0, slots := 0, locals := 106 } : Room) s m args below meth c H locs 0 0 Q (F0 m 11 ls [])) {self21 : Nat → Nat → Int32 → Int32 → Int32 → ZS → Option (Int32 × ZS)} (hself21 : ∀ (x0 : Nat) (x1 : Nat) (x3 : Int32) (x4 : Int32) (x5 : Int32) (S : ZS) (H : Heap) (locs : List Loc) (ls : Array Slot), self21 x0 x1 x3 x4 x5 S = some o → zH D y A0 s H locs S → lv_has ls 8 [(0, .ref x0), (1, .ref x1), (3, .int x3), (4, .int x4), (5, .int x5)] → W p l e ({ frames := 3, cells := 0, slots := 0, locals := 106 } : Room) s m args below meth c H locs 0 0 Q (F0 m 21 ls [])) {x0 : Nat} {x1 : Nat} {x3 : Int32} {x4 : Int32} {x5 : Int32} {S : ZS} {H : Heap} {locs : List Loc} {ls : Array Slot} (hf : f_X7_legalMove_21s self11 self21 x0 x1 x3 x4 x5 S = some o) (hM : zH D y A0 s H locs S) (hl : lv_has ls 8 [(0, .ref x0), (1, .ref x1), (3, .int x3), (4, .int x4), (5, .int x5)]) : W p l e ({ frames := 3, cells := 0, slots := 0, locals := 106 } : Room) s m args below meth c H locs 0 0 Q (F0 m 21 ls []) := by
  obtain ⟨hx, hb, hml, hown, hts⟩ := id X
  unfold f_X7_legalMove_21s at hf
  refine lv_iload hx hb dX7_legalMove_21 (lv_at hl 4 rfl) ?_
  refine lv_bipush (v := (64 : Int32)) hx hb dX7_legalMove_23 (by decide) ?_
  refine lv_icmp_ge (tgt := 116) hx hb dX7_legalMove_25 (by decide) (fun cc1 => ?_) (fun cc1 => ?_)
  · replace hf := m_ifT hf cc1
    obtain ⟨v1, ev, hf⟩ := m_bndE hf
    refine lv_iinc (v := v1) (lv' := [(4, .int v1), (0, .ref x0), (1, .ref x1), (3, .int x3), (5, .int x5)]) hx hb dX7_legalMove_116 hl (k := 3) rfl (by rw [ev]; rfl) (by decide) rfl (fun ls hl => ?_)
    clear ev
    refine lv_goto (tgt := 11) hx hb dX7_legalMove_119 (by decide) ?_
    exact hself11 x0 x1 x3 v1 _ _ _ _ hf hM (lv_sub hl [1, 2, 3, 0] rfl)
  · replace hf := m_ifF hf cc1
    refine lv_iload hx hb dX7_legalMove_28 (lv_at hl 3 rfl) ?_
    refine lv_bipush (v := (64 : Int32)) hx hb dX7_legalMove_30 (by decide) ?_
    refine lv_iload hx hb dX7_legalMove_32 (lv_at hl 4 rfl) ?_
    refine lv_imul hx hb dX7_legalMove_34 ?_
    obtain ⟨v2, ev, hf⟩ := m_bndE hf
    refine m_top ev ?_
    clear ev
    refine lv_iadd hx hb dX7_legalMove_35 ?_
    obtain ⟨v3, ev, hf⟩ := m_bndE hf
    refine m_top ev ?_
    clear ev
    refine lv_istore (lv' := [(6, .int v3), (0, .ref x0), (1, .ref x1), (3, .int x3), (4, .int x4), (5, .int x5)]) hx hb dX7_legalMove_36 hl (by decide) rfl (fun ls hl => ?_)
    refine lv_aload_n hx hb dX7_legalMove_38 rfl (lv_at hl 2 rfl) ?_
    refine lv_iload hx hb dX7_legalMove_39 (lv_at hl 4 rfl) ?_
    refine lv_iload hx hb dX7_legalMove_41 (lv_at hl 5 rfl) ?_
    obtain ⟨ca, hf⟩ := m_chkE hf
    obtain ⟨o4, ho, hf⟩ := m_calE hf
    refine z_callVi (k := 0) (C := RX0) (T := TX0) (N := 7) (fl := zf_0) X hM rfl zc_0 ca (c_X0_reaches ho) gX7_legalMove_X0_reaches rfl ⟨rfl, rfl⟩ hd_X0_reaches ⟨Nat.le_of_ble_eq_true rfl, Nat.le_of_ble_eq_true rfl⟩ rfl hl.1 rfl (Nat.le_of_ble_eq_true rfl) dX7_legalMove_43 (fun H locs hM => ?_)
    clear ho
    refine lv_if_eq (tgt := 110) hx hb dX7_legalMove_46 (by decide) (fun cc1 => ?_) (fun cc1 => ?_)
    · replace hf := m_ifT hf cc1
      exact w_X7_legalMove_110 (x0 := x0) (x1 := x1) (x3 := x3) (x4 := x4) (x5 := x5) X hret hself11 hself21 hf hM (lv_sub hl [1, 2, 3, 4, 5] rfl)
    · replace hf := m_ifF hf cc1
      refine lv_aload_n hx hb dX7_legalMove_49 rfl (lv_at hl 1 rfl) ?_
      refine lv_aload_n hx hb dX7_legalMove_50 rfl (lv_at hl 2 rfl) ?_
      refine lv_iload hx hb dX7_legalMove_51 (lv_at hl 0 rfl) ?_
      obtain ⟨ca, hf⟩ := m_chkE hf
      obtain ⟨o5, ho, hf⟩ := m_calE hf
      refine z_callVi (k := 7) (C := RX7) (T := TX7) (N := 2) (fl := zf_7) X hM rfl zc_7 ca (c_X7_isSafe ho) gX7_legalMove_X7_isSafe rfl ⟨rfl, rfl⟩ hd_X7_isSafe ⟨Nat.le_of_ble_eq_true rfl, Nat.le_of_ble_eq_true rfl⟩ rfl hl.1 rfl (Nat.le_of_ble_eq_true rfl) dX7_legalMove_53 (fun H locs hM => ?_)
      clear ho
      refine lv_if_eq (tgt := 110) hx hb dX7_legalMove_56 (by decide) (fun cc1 => ?_) (fun cc1 => ?_)
      · replace hf := m_ifT hf cc1
        exact w_X7_legalMove_110 (x0 := x0) (x1 := x1) (x3 := x3) (x4 := x4) (x5 := x5) X hret hself11 hself21 hf hM (lv_sub hl [1, 2, 3, 4, 5] rfl)
      · replace hf := m_ifF hf cc1
        refine lv_aload_n hx hb dX7_legalMove_59 rfl (lv_at hl 2 rfl) ?_
        refine lv_iload hx hb dX7_legalMove_60 (lv_at hl 4 rfl) ?_
        refine lv_iload hx hb dX7_legalMove_62 (lv_at hl 5 rfl) ?_
        obtain ⟨ca, hf⟩ := m_chkE hf
        obtain ⟨o6, ho, hf⟩ := m_calE hf
        refine z_callVi (k := 0) (C := RX0) (T := TX0) (N := 7) (fl := zf_0) X hM rfl zc_0 ca (c_X0_becomesAnother ho) gX7_legalMove_X0_becomesAnother rfl ⟨rfl, rfl⟩ hd_X0_becomesAnother ⟨Nat.le_of_ble_eq_true rfl, Nat.le_of_ble_eq_true rfl⟩ rfl hl.1 rfl (Nat.le_of_ble_eq_true rfl) dX7_legalMove_64 (fun H locs hM => ?_)
        clear ho
        refine lv_if_eq (tgt := 74) hx hb dX7_legalMove_67 (by decide) (fun cc1 => ?_) (fun cc1 => ?_)
        · replace hf := m_ifT hf cc1
          refine lv_iconst (v := (1 : Int32)) hx hb dX7_legalMove_74 (by decide) ?_
          exact w_X7_legalMove_75 (x0 := x0) (x1 := x1) (x3 := x3) (x4 := x4) (x5 := x5) (x6 := v3) (t0 := (1 : Int32)) X hret hself11 hself21 hf hM (lv_sub hl [1, 2, 3, 4, 5, 0] rfl)
        · replace hf := m_ifF hf cc1
          refine lv_iconst (v := (4 : Int32)) hx hb dX7_legalMove_70 (by decide) ?_
          refine lv_goto (tgt := 75) hx hb dX7_legalMove_71 (by decide) ?_
          exact w_X7_legalMove_75 (x0 := x0) (x1 := x1) (x3 := x3) (x4 := x4) (x5 := x5) (x6 := v3) (t0 := (4 : Int32)) X hret hself11 hself21 hf hM (lv_sub hl [1, 2, 3, 4, 5, 0] rfl)
def f_X7_legalMove_21 (self11 : Nat → Nat → Int32 → Int32 → ZS → Option (Int32 × ZS)) : Nat → Nat → Nat → Int32 → Int32 → Int32 → ZS → Option (Int32 × ZS)
  | 0 => fun _ _ _ _ _ _ => none
  | n + 1 => f_X7_legalMove_21s self11 (f_X7_legalMove_21 self11 n)
theorem w_X7_legalMove_21 {p : Program} {l : Launch} {e : Env} {s : State} {m : MethodId} {args : Array Value} {below : List Frame} {meth : Method} {c : Code} {Q : State → Prop} {D : va_G} {y : Nat → ClassId} {A0 : Nat → Prop} {o : Int32 × ZS} (X : CallFix p m c cX7_legalMove 8 s args wsX7_legalMove RX7) (hret : zRi p l e ({ frames := 3, cells := 0, slots := 0, locals := 106 } : Room) s m args below meth c Q cX7_legalMove D y A0 .int o) {self11 : Nat → Nat → Int32 → Int32 → ZS → Option (Int32 × ZS)} (hself11 : ∀ (x0 : Nat) (x1 : Nat) (x3 : Int32) (x4 : Int32) (S : ZS) (H : Heap) (locs : List Loc) (ls : Array Slot), self11 x0 x1 x3 x4 S = some o → zH D y A0 s H locs S → lv_has ls 8 [(0, .ref x0), (1, .ref x1), (3, .int x3), (4, .int x4)] → W p l e ({ frames := 3, cells := 0, slots := 0, locals := 106 } : Room) s m args below meth c H locs 0 0 Q (F0 m 11 ls [])) (n : Nat) : ∀ (x0 : Nat) (x1 : Nat) (x3 : Int32) (x4 : Int32) (x5 : Int32) (S : ZS) (H : Heap) (locs : List Loc) (ls : Array Slot), f_X7_legalMove_21 self11 n x0 x1 x3 x4 x5 S = some o → zH D y A0 s H locs S → lv_has ls 8 [(0, .ref x0), (1, .ref x1), (3, .int x3), (4, .int x4), (5, .int x5)] → W p l e ({ frames := 3, cells := 0, slots := 0, locals := 106 } : Room) s m args below meth c H locs 0 0 Q (F0 m 21 ls []) := by
  induction n with
  | zero => intro x0 x1 x3 x4 x5 S H locs ls hf; cases hf
  | succ n ih => intro x0 x1 x3 x4 x5 S H locs ls hf hM hl; exact ws_X7_legalMove_21 X hret hself11 (self21 := f_X7_legalMove_21 self11 n) ih hf hM hl
def f_X7_legalMove_11s (self11 : Nat → Nat → Int32 → Int32 → ZS → Option (Int32 × ZS)) (x0 : Nat) (x1 : Nat) (x3 : Int32) (x4 : Int32) (S : ZS) : Option (Int32 × ZS) :=
  m_if ((64 : Int32) ≤ x4) (
  some ((-1 : Int32), S)
  ) (
  f_X7_legalMove_21 self11 mFuel x0 x1 x3 x4 (0 : Int32) S
  )

set_option maxRecDepth 100000 in
set_option maxHeartbeats 4000000 in
theorem ws_X7_legalMove_11 {p : Program} {l : Launch} {e : Env} {s : State} {m : MethodId} {args : Array Value} {below : List Frame} {meth : Method} {c : Code} {Q : State → Prop} {D : va_G} {y : Nat → ClassId} {A0 : Nat → Prop} {o : Int32 × ZS} (X : CallFix p m c cX7_legalMove 8 s args wsX7_legalMove RX7) (hret : zRi p l e ({ frames := 3, cells := 0, slots := 0, locals := 106 } : Room) s m args below meth c Q cX7_legalMove D y A0 .int o) {self11 : Nat → Nat → Int32 → Int32 → ZS → Option (Int32 × ZS)} (hself11 : ∀ (x0 : Nat) (x1 : Nat) (x3 : Int32) (x4 : Int32) (S : ZS) (H : Heap) (locs : List Loc) (ls : Array Slot), self11 x0 x1 x3 x4 S = some o → zH D y A0 s H locs S → lv_has ls 8 [(0, .ref x0), (1, .ref x1), (3, .int x3), (4, .int x4)] → W p l e ({ frames := 3, cells := 0, slots := 0, locals := 106 } : Room) s m args below meth c H locs 0 0 Q (F0 m 11 ls [])) {x0 : Nat} {x1 : Nat} {x3 : Int32} {x4 : Int32} {S : ZS} {H : Heap} {locs : List Loc} {ls : Array Slot} (hf : f_X7_legalMove_11s self11 x0 x1 x3 x4 S = some o) (hM : zH D y A0 s H locs S) (hl : lv_has ls 8 [(0, .ref x0), (1, .ref x1), (3, .int x3), (4, .int x4)]) : W p l e ({ frames := 3, cells := 0, slots := 0, locals := 106 } : Room) s m args below meth c H locs 0 0 Q (F0 m 11 ls []) := by
  obtain ⟨hx, hb, hml, hown, hts⟩ := id X
  unfold f_X7_legalMove_11s at hf
  refine lv_iload hx hb dX7_legalMove_11 (lv_at hl 3 rfl) ?_
  refine lv_bipush (v := (64 : Int32)) hx hb dX7_legalMove_13 (by decide) ?_
  refine lv_icmp_ge (tgt := 122) hx hb dX7_legalMove_15 (by decide) (fun cc1 => ?_) (fun cc1 => ?_)
  · replace hf := m_ifT hf cc1
    refine lv_iconst (v := (-1 : Int32)) hx hb dX7_legalMove_122 (by decide) ?_
    cases hf
    exact hret H locs _ ls hM rfl dX7_legalMove_123
  · replace hf := m_ifF hf cc1
    refine lv_iconst (v := (0 : Int32)) hx hb dX7_legalMove_18 (by decide) ?_
    refine lv_istore (lv' := [(5, .int (0 : Int32)), (0, .ref x0), (1, .ref x1), (3, .int x3), (4, .int x4)]) hx hb dX7_legalMove_19 hl (by decide) rfl (fun ls hl => ?_)
    exact w_X7_legalMove_21 X hret hself11 _ x0 x1 x3 x4 (0 : Int32) _ _ _ _ hf hM (lv_sub hl [1, 2, 3, 4, 0] rfl)
def f_X7_legalMove_11 : Nat → Nat → Nat → Int32 → Int32 → ZS → Option (Int32 × ZS)
  | 0 => fun _ _ _ _ _ => none
  | n + 1 => f_X7_legalMove_11s (f_X7_legalMove_11 n)
theorem w_X7_legalMove_11 {p : Program} {l : Launch} {e : Env} {s : State} {m : MethodId} {args : Array Value} {below : List Frame} {meth : Method} {c : Code} {Q : State → Prop} {D : va_G} {y : Nat → ClassId} {A0 : Nat → Prop} {o : Int32 × ZS} (X : CallFix p m c cX7_legalMove 8 s args wsX7_legalMove RX7) (hret : zRi p l e ({ frames := 3, cells := 0, slots := 0, locals := 106 } : Room) s m args below meth c Q cX7_legalMove D y A0 .int o) (n : Nat) : ∀ (x0 : Nat) (x1 : Nat) (x3 : Int32) (x4 : Int32) (S : ZS) (H : Heap) (locs : List Loc) (ls : Array Slot), f_X7_legalMove_11 n x0 x1 x3 x4 S = some o → zH D y A0 s H locs S → lv_has ls 8 [(0, .ref x0), (1, .ref x1), (3, .int x3), (4, .int x4)] → W p l e ({ frames := 3, cells := 0, slots := 0, locals := 106 } : Room) s m args below meth c H locs 0 0 Q (F0 m 11 ls []) := by
  induction n with
  | zero => intro x0 x1 x3 x4 S H locs ls hf; cases hf
  | succ n ih => intro x0 x1 x3 x4 S H locs ls hf hM hl; exact ws_X7_legalMove_11 X hret (self11 := f_X7_legalMove_11 n) ih hf hM hl
def f_X7_legalMove_0 (x0 : Nat) (x1 : Nat) (x2 : Int32) (S : ZS) : Option (Int32 × ZS) :=
  m_if (0 ≤ x2) (
  f_X7_legalMove_11 mFuel x0 x1 x2 (0 : Int32) S
  ) (
  some ((-1 : Int32), S)
  )

set_option maxRecDepth 100000 in
set_option maxHeartbeats 4000000 in
theorem w_X7_legalMove_0 {p : Program} {l : Launch} {e : Env} {s : State} {m : MethodId} {args : Array Value} {below : List Frame} {meth : Method} {c : Code} {Q : State → Prop} {D : va_G} {y : Nat → ClassId} {A0 : Nat → Prop} {o : Int32 × ZS} (X : CallFix p m c cX7_legalMove 8 s args wsX7_legalMove RX7) (hret : zRi p l e ({ frames := 3, cells := 0, slots := 0, locals := 106 } : Room) s m args below meth c Q cX7_legalMove D y A0 .int o) {x0 : Nat} {x1 : Nat} {x2 : Int32} {S : ZS} {H : Heap} {locs : List Loc} {ls : Array Slot} (hf : f_X7_legalMove_0 x0 x1 x2 S = some o) (hM : zH D y A0 s H locs S) (hl : lv_has ls 8 [(0, .ref x0), (1, .ref x1), (2, .int x2)]) : W p l e ({ frames := 3, cells := 0, slots := 0, locals := 106 } : Room) s m args below meth c H locs 0 0 Q (F0 m 0 ls []) := by
  obtain ⟨hx, hb, hml, hown, hts⟩ := id X
  unfold f_X7_legalMove_0 at hf
  refine lv_iload_n hx hb dX7_legalMove_0 rfl (lv_at hl 2 rfl) ?_
  refine lv_if_ge (tgt := 6) hx hb dX7_legalMove_1 (by decide) (fun cc1 => ?_) (fun cc1 => ?_)
  · replace hf := m_ifT hf cc1
    refine lv_iload_n hx hb dX7_legalMove_6 rfl (lv_at hl 2 rfl) ?_
    refine lv_istore_n (lv' := [(3, .int x2), (0, .ref x0), (1, .ref x1), (2, .int x2)]) hx hb dX7_legalMove_7 rfl hl (by decide) rfl (fun ls hl => ?_)
    refine lv_iconst (v := (0 : Int32)) hx hb dX7_legalMove_8 (by decide) ?_
    refine lv_istore (lv' := [(4, .int (0 : Int32)), (3, .int x2), (0, .ref x0), (1, .ref x1), (2, .int x2)]) hx hb dX7_legalMove_9 hl (by decide) rfl (fun ls hl => ?_)
    exact w_X7_legalMove_11 X hret _ x0 x1 x2 (0 : Int32) _ _ _ _ hf hM (lv_sub hl [2, 3, 1, 0] rfl)
  · replace hf := m_ifF hf cc1
    refine lv_iconst (v := (-1 : Int32)) hx hb dX7_legalMove_4 (by decide) ?_
    cases hf
    exact hret H locs _ ls hM rfl dX7_legalMove_5
def f_X7_legalMove (x0 : Nat) (x1 : Nat) (x2 : Int32) (S : ZS) : Option (Int32 × ZS) := f_X7_legalMove_0 x0 x1 x2 S
theorem c_X7_legalMove {l : Launch} {D : va_G} {y : Nat → ClassId} {x0 : Nat} {x1 : Nat} {x2 : Int32} {S : ZS} {o : Int32 × ZS} (hf : f_X7_legalMove x0 x1 x2 S = some o) : zMi l yX7_legalMove wsX7_legalMove ({ frames := 3, cells := 0, slots := 0, locals := 106 } : Room) [.ref x0, .ref x1, .int x2] D y S o :=
  z_entryI (own := RX7) (cc := cX7_legalMove) (maxL := 8) (by decide) rfl rfl (Nat.le_of_ble_eq_true rfl) (fun p e s m args below meth c A0 Q H locs ls X hret hM hl => w_X7_legalMove_0 X hret hf hM (lv_sub hl [0, 1, 2] rfl))
theorem hd_X7_legalMove : yX7_legalMove.cls = RX7 ∧ yX7_legalMove.cls ≠ "java/lang/invoke/MethodHandle" ∧ yX7_legalMove.cls ≠ "java/lang/invoke/VarHandle" ∧ (parseMethodDescriptor yX7_legalMove.desc).map (fun d => d.parameters.length) = some 2 := by decide +kernel
theorem cl_X11_byteOf_277 : Cond.constantLong RX11 277 (255) ∈ wsX11_byteOf := by decide +kernel
def f_X11_byteOf_0 (x0 : Int64) (x2 : Int32) (S : ZS) : Option (Int32 × ZS) :=
  m_bnd ((8 : Int32) * x2) (fun v1 =>
  m_bnd (((x0).toUInt64 >>> ((v1).toInt64.toUInt64 &&& Int64.toUInt64 63)).toInt64) (fun v2 =>
  m_bnd (v2 &&& (255 : Int64)) (fun v3 =>
  m_bnd ((v3).toInt32) (fun v4 =>
  m_bnd ((v4.toUInt32 % 65536).toInt32) (fun v5 =>
  m_chk (vp_nar .char v5 = v5) (some (v5, S)))))))

set_option maxRecDepth 100000 in
set_option maxHeartbeats 4000000 in
theorem w_X11_byteOf_0 {p : Program} {l : Launch} {e : Env} {s : State} {m : MethodId} {args : Array Value} {below : List Frame} {meth : Method} {c : Code} {Q : State → Prop} {D : va_G} {y : Nat → ClassId} {A0 : Nat → Prop} {o : Int32 × ZS} (X : CallFix p m c cX11_byteOf 3 s args wsX11_byteOf RX11) (hret : zRi p l e ({ frames := 0, cells := 0, slots := 0, locals := 0 } : Room) s m args below meth c Q cX11_byteOf D y A0 .char o) {x0 : Int64} {x2 : Int32} {S : ZS} {H : Heap} {locs : List Loc} {ls : Array Slot} (hf : f_X11_byteOf_0 x0 x2 S = some o) (hM : zH D y A0 s H locs S) (hl : lv_has ls 3 [(0, .long x0), (2, .int x2)]) : W p l e ({ frames := 0, cells := 0, slots := 0, locals := 0 } : Room) s m args below meth c H locs 0 0 Q (F0 m 0 ls []) := by
  obtain ⟨hx, hb, hml, hown, hts⟩ := id X
  unfold f_X11_byteOf_0 at hf
  refine lv_lload_n hx hb dX11_byteOf_0 rfl (lv_at hl 0 rfl) ?_
  refine lv_bipush (v := (8 : Int32)) hx hb dX11_byteOf_1 (by decide) ?_
  refine lv_iload_n hx hb dX11_byteOf_3 rfl (lv_at hl 1 rfl) ?_
  refine lv_imul hx hb dX11_byteOf_4 ?_
  obtain ⟨v1, ev, hf⟩ := m_bndE hf
  refine m_top ev ?_
  clear ev
  refine lv_lushr (v := ((x0).toUInt64 >>> ((v1).toInt64.toUInt64 &&& Int64.toUInt64 63)).toInt64) hx hb dX11_byteOf_5 rfl ?_
  obtain ⟨v2, ev, hf⟩ := m_bndE hf
  refine m_topl ev ?_
  clear ev
  refine lv_ldc2 (v := (255 : Int64)) hx hb hown (hts _ cl_X11_byteOf_277) dX11_byteOf_6 ?_
  refine lv_land hx hb dX11_byteOf_9 ?_
  obtain ⟨v3, ev, hf⟩ := m_bndE hf
  refine m_topl ev ?_
  clear ev
  refine lv_l2i (v := (v3).toInt32) hx hb dX11_byteOf_10 rfl ?_
  obtain ⟨v4, ev, hf⟩ := m_bndE hf
  refine m_top ev ?_
  clear ev
  refine lv_i2c (v := (v4.toUInt32 % 65536).toInt32) hx hb dX11_byteOf_11 rfl ?_
  obtain ⟨v5, ev, hf⟩ := m_bndE hf
  refine m_top ev ?_
  clear ev
  obtain ⟨cd, hf⟩ := m_chkE hf
  cases hf
  exact hret H locs _ ls hM (m_nc cd) dX11_byteOf_12
def f_X11_byteOf (x0 : Int64) (x2 : Int32) (S : ZS) : Option (Int32 × ZS) := f_X11_byteOf_0 x0 x2 S
theorem c_X11_byteOf {l : Launch} {D : va_G} {y : Nat → ClassId} {x0 : Int64} {x2 : Int32} {S : ZS} {o : Int32 × ZS} (hf : f_X11_byteOf x0 x2 S = some o) : zMi l yX11_byteOf wsX11_byteOf ({ frames := 0, cells := 0, slots := 0, locals := 0 } : Room) [.long x0, .int x2] D y S o :=
  z_entryI (own := RX11) (cc := cX11_byteOf) (maxL := 3) (by decide) rfl rfl (Nat.le_of_ble_eq_true rfl) (fun p e s m args below meth c A0 Q H locs ls X hret hM hl => w_X11_byteOf_0 X hret hf hM (lv_sub hl [0, 1] rfl))
theorem hd_X11_byteOf : yX11_byteOf.cls ≠ "java/lang/invoke/MethodHandle" ∧ yX11_byteOf.cls ≠ "java/lang/invoke/VarHandle" ∧ (parseMethodDescriptor yX11_byteOf.desc).map (fun d => d.parameters.length) = some 2 := by decide +kernel
theorem fl_X11_type_11_0 : Cond.fieldLink RX11 10 "MoveTexts" "text" "LMoveTexts$Row;" ∈ wsX11_type := by decide +kernel
theorem hw_X11_type_11 : ∀ w ∈ wsX110, w ∈ wsX11_type := by decide +kernel
def g_X11_type_26 (Pw : Int32 → ZS → Prop) (S : ZS) (C T : Nat) : Prop :=
  m_chkP (vp_nar .boolean (0 : Int32) = (0 : Int32)) (Pw (0 : Int32) S)

set_option maxRecDepth 100000 in
set_option maxHeartbeats 4000000 in
theorem w_X11_type_26 {p : Program} {l : Launch} {e : Env} {s : State} {m : MethodId} {args : Array Value} {below : List Frame} {meth : Method} {c : Code} {Q : State → Prop} {D : va_G} {y : Nat → ClassId} {A0 : Nat → Prop} {kc kt : Nat} {Pw : Int32 → ZS → Prop} (X : CallFix p m c cX11_type 6 s args wsX11_type RX11) (hret : zQi p l e ({ frames := 2, cells := kc, slots := kt, locals := 82 } : Room) s m args below meth c Q cX11_type D y A0 .boolean Pw) {S : ZS} {C T : Nat} {H : Heap} {locs : List Loc} {ls : Array Slot} (hf : g_X11_type_26 Pw  S C T) (hCT : C ≤ kc ∧ T ≤ kt) (hM : zH D y A0 s H locs S) (hl : lv_has ls 6 []) : W p l e ({ frames := 2, cells := kc, slots := kt, locals := 82 } : Room) s m args below meth c H locs (kc - C) (kt - T) Q (F0 m 26 ls []) := by
  obtain ⟨hx, hb, hml, hown, hts⟩ := id X
  unfold g_X11_type_26 at hf
  refine lv_iconst (v := (0 : Int32)) hx hb dX11_type_26 (by decide) ?_
  obtain ⟨cd, hf⟩ := m_chkPE hf
  exact hret _ _ _ _ H locs _ ls hf hM (m_nb cd) dX11_type_27
def g_X11_type_77s (Pw : Int32 → ZS → Prop) (self77 : Nat → Int64 → Int32 → Int32 → ZS → Nat → Nat → Prop) (x0 : Nat) (x1 : Int64) (x3 : Int32) (x4 : Int32) (S : ZS) (C T : Nat) : Prop :=
  m_ifP (x3 ≤ x4) (
  m_chkP (vp_nar .boolean (1 : Int32) = (1 : Int32)) (Pw (1 : Int32) S)
  ) (
  m_chkP (x0 ∈ zL S ∧ zK S x0 = 11) (
  m_calP (zP S 0 x0) (fun b1 =>
  m_calP (f_X11_byteOf x1 x4 S) (fun o2 =>
  m_chkP (b1 ∈ zL o2.2 ∧ zK o2.2 b1 = 6) (
  m_gal (C) (T) (fun mc ms Pw => g_X6_put b1 o2.1 o2.2 mc ms Pw) (fun r4 S5 C6 T7 =>
  m_bndP (x4 + (1 : Int32)) (fun v8 =>
  self77 x0 x1 x3 v8 S5 (C6) (T7)))))))
  )

set_option maxRecDepth 100000 in
set_option maxHeartbeats 4000000 in
theorem ws_X11_type_77 {p : Program} {l : Launch} {e : Env} {s : State} {m : MethodId} {args : Array Value} {below : List Frame} {meth : Method} {c : Code} {Q : State → Prop} {D : va_G} {y : Nat → ClassId} {A0 : Nat → Prop} {kc kt : Nat} {Pw : Int32 → ZS → Prop} (X : CallFix p m c cX11_type 6 s args wsX11_type RX11) (hret : zQi p l e ({ frames := 2, cells := kc, slots := kt, locals := 82 } : Room) s m args below meth c Q cX11_type D y A0 .boolean Pw) {self77 : Nat → Int64 → Int32 → Int32 → ZS → Nat → Nat → Prop} (hself77 : ∀ (x0 : Nat) (x1 : Int64) (x3 : Int32) (x4 : Int32) (S : ZS) (C T : Nat) (H : Heap) (locs : List Loc) (ls : Array Slot), self77 x0 x1 x3 x4 S C T → C ≤ kc ∧ T ≤ kt → zH D y A0 s H locs S → lv_has ls 6 [(0, .ref x0), (1, .long x1), (3, .int x3), (4, .int x4)] → W p l e ({ frames := 2, cells := kc, slots := kt, locals := 82 } : Room) s m args below meth c H locs (kc - C) (kt - T) Q (F0 m 77 ls [])) {x0 : Nat} {x1 : Int64} {x3 : Int32} {x4 : Int32} {S : ZS} {C T : Nat} {H : Heap} {locs : List Loc} {ls : Array Slot} (hf : g_X11_type_77s Pw self77 x0 x1 x3 x4 S C T) (hCT : C ≤ kc ∧ T ≤ kt) (hM : zH D y A0 s H locs S) (hl : lv_has ls 6 [(0, .ref x0), (1, .long x1), (3, .int x3), (4, .int x4)]) : W p l e ({ frames := 2, cells := kc, slots := kt, locals := 82 } : Room) s m args below meth c H locs (kc - C) (kt - T) Q (F0 m 77 ls []) := by
  obtain ⟨hx, hb, hml, hown, hts⟩ := id X
  unfold g_X11_type_77s at hf
  refine lv_iload hx hb dX11_type_77 (lv_at hl 3 rfl) ?_
  refine lv_iload_n hx hb dX11_type_79 rfl (lv_at hl 2 rfl) ?_
  refine lv_icmp_ge (tgt := 102) hx hb dX11_type_80 (by decide) (fun cc1 => ?_) (fun cc1 => ?_)
  · replace hf := m_ifPT hf cc1
    refine lv_iconst (v := (1 : Int32)) hx hb dX11_type_102 (by decide) ?_
    obtain ⟨cd, hf⟩ := m_chkPE hf
    exact hret _ _ _ _ H locs _ ls hf hM (m_nb cd) dX11_type_103
  · replace hf := m_ifPF hf cc1
    refine lv_aload_n hx hb dX11_type_83 rfl (lv_at hl 0 rfl) ?_
    obtain ⟨ca, hf⟩ := m_chkPE hf
    refine z_get (k := 11) (j := 0) (C := RX11) (T := TX11) (N := 10) (fl := zf_11) (v := va_rf (zP S 0 x0)) X hw_X11_type_11 hM rfl zc_11 ca (by decide) fl_X11_type_11_0 rfl dX11_type_84 ?_
    clear ca
    obtain ⟨b1, hb9, hf⟩ := m_calPE hf
    refine z_topr hb9 ?_
    clear hb9
    refine lv_lload_n hx hb dX11_type_87 rfl (lv_at hl 1 rfl) ?_
    refine lv_iload hx hb dX11_type_88 (lv_at hl 3 rfl) ?_
    obtain ⟨o2, ho, hf⟩ := m_calPE hf
    refine z_gcallSi X hM (c_X11_byteOf ho) gX11_type_X11_byteOf rfl ⟨rfl, rfl⟩ hd_X11_byteOf ⟨Nat.le_of_ble_eq_true rfl, Nat.le_of_ble_eq_true rfl⟩ rfl hl.1 rfl ⟨Nat.sub_le _ _, Nat.sub_le _ _⟩ (Nat.le_of_ble_eq_true rfl) dX11_type_90 (fun H locs hM => ?_)
    clear ho
    obtain ⟨ca, hf⟩ := m_chkPE hf
    obtain ⟨mc, ms, hcm, ho⟩ := m_galE hf
    refine z_wcallVv (k := 6) (C := RX6) (T := TX6) (N := 2) (fl := zf_6) X hM rfl zc_6 ca (c_X6_put ho) gX11_type_X6_put rfl ⟨rfl, rfl⟩ ⟨by show kc - (C) + mc ≤ kc; omega, by show kt - (T) + ms ≤ kt; omega⟩ hd_X6_put ⟨Nat.le_of_ble_eq_true rfl, Nat.le_of_ble_eq_true rfl⟩ rfl hl.1 rfl (Nat.le_of_ble_eq_true rfl) dX11_type_93 (fun S5 H locs hf hM => ?_)
    refine z_eqCS (c2 := kc - (C - mc)) (t2 := kt - (T - ms)) (by omega) (by omega) ?_
    replace hCT : C - mc ≤ kc ∧ T - ms ≤ kt := by omega
    generalize C - mc = C6 at hf hCT ⊢
    generalize T - ms = T7 at hf hCT ⊢
    clear ho hcm
    obtain ⟨v8, ev, hf⟩ := m_bndPE hf
    refine lv_iinc (v := v8) (lv' := [(4, .int v8), (0, .ref x0), (1, .long x1), (3, .int x3)]) hx hb dX11_type_96 hl (k := 3) rfl (by rw [ev]; rfl) (by decide) rfl (fun ls hl => ?_)
    clear ev
    refine lv_goto (tgt := 77) hx hb dX11_type_99 (by decide) ?_
    exact hself77 x0 x1 x3 v8 _ _ _ _ _ _ hf hCT hM (lv_sub hl [1, 2, 3, 0] rfl)
def g_X11_type_77 (Pw : Int32 → ZS → Prop) : Nat → Nat → Int64 → Int32 → Int32 → ZS → Nat → Nat → Prop
  | 0 => fun _ _ _ _ _ _ _ => False
  | n + 1 => g_X11_type_77s Pw (g_X11_type_77 Pw n)
theorem w_X11_type_77 {p : Program} {l : Launch} {e : Env} {s : State} {m : MethodId} {args : Array Value} {below : List Frame} {meth : Method} {c : Code} {Q : State → Prop} {D : va_G} {y : Nat → ClassId} {A0 : Nat → Prop} {kc kt : Nat} {Pw : Int32 → ZS → Prop} (X : CallFix p m c cX11_type 6 s args wsX11_type RX11) (hret : zQi p l e ({ frames := 2, cells := kc, slots := kt, locals := 82 } : Room) s m args below meth c Q cX11_type D y A0 .boolean Pw) (n : Nat) : ∀ (x0 : Nat) (x1 : Int64) (x3 : Int32) (x4 : Int32) (S : ZS) (C T : Nat) (H : Heap) (locs : List Loc) (ls : Array Slot), g_X11_type_77 Pw n x0 x1 x3 x4 S C T → C ≤ kc ∧ T ≤ kt → zH D y A0 s H locs S → lv_has ls 6 [(0, .ref x0), (1, .long x1), (3, .int x3), (4, .int x4)] → W p l e ({ frames := 2, cells := kc, slots := kt, locals := 82 } : Room) s m args below meth c H locs (kc - C) (kt - T) Q (F0 m 77 ls []) := by
  induction n with
  | zero => intro x0 x1 x3 x4 S C T H locs ls hf; exact absurd hf id
  | succ n ih => intro x0 x1 x3 x4 S C T H locs ls hf hCT hM hl; exact ws_X11_type_77 X hret (self77 := g_X11_type_77 Pw n) ih hf hCT hM hl
def g_X11_type_68 (Pw : Int32 → ZS → Prop) (self31 : Nat → Int64 → Int32 → Int32 → ZS → Nat → Nat → Prop) (x0 : Nat) (x1 : Int64) (x3 : Int32) (x4 : Int32) (S : ZS) (C T : Nat) : Prop :=
  m_bndP (x4 + (1 : Int32)) (fun v1 =>
  self31 x0 x1 x3 v1 S (C) (T))

set_option maxRecDepth 100000 in
set_option maxHeartbeats 4000000 in
theorem w_X11_type_68 {p : Program} {l : Launch} {e : Env} {s : State} {m : MethodId} {args : Array Value} {below : List Frame} {meth : Method} {c : Code} {Q : State → Prop} {D : va_G} {y : Nat → ClassId} {A0 : Nat → Prop} {kc kt : Nat} {Pw : Int32 → ZS → Prop} (X : CallFix p m c cX11_type 6 s args wsX11_type RX11) (hret : zQi p l e ({ frames := 2, cells := kc, slots := kt, locals := 82 } : Room) s m args below meth c Q cX11_type D y A0 .boolean Pw) {self31 : Nat → Int64 → Int32 → Int32 → ZS → Nat → Nat → Prop} (hself31 : ∀ (x0 : Nat) (x1 : Int64) (x3 : Int32) (x4 : Int32) (S : ZS) (C T : Nat) (H : Heap) (locs : List Loc) (ls : Array Slot), self31 x0 x1 x3 x4 S C T → C ≤ kc ∧ T ≤ kt → zH D y A0 s H locs S → lv_has ls 6 [(0, .ref x0), (1, .long x1), (3, .int x3), (4, .int x4)] → W p l e ({ frames := 2, cells := kc, slots := kt, locals := 82 } : Room) s m args below meth c H locs (kc - C) (kt - T) Q (F0 m 31 ls [])) {x0 : Nat} {x1 : Int64} {x3 : Int32} {x4 : Int32} {S : ZS} {C T : Nat} {H : Heap} {locs : List Loc} {ls : Array Slot} (hf : g_X11_type_68 Pw self31 x0 x1 x3 x4 S C T) (hCT : C ≤ kc ∧ T ≤ kt) (hM : zH D y A0 s H locs S) (hl : lv_has ls 6 [(0, .ref x0), (1, .long x1), (3, .int x3), (4, .int x4)]) : W p l e ({ frames := 2, cells := kc, slots := kt, locals := 82 } : Room) s m args below meth c H locs (kc - C) (kt - T) Q (F0 m 68 ls []) := by
  obtain ⟨hx, hb, hml, hown, hts⟩ := id X
  unfold g_X11_type_68 at hf
  obtain ⟨v1, ev, hf⟩ := m_bndPE hf
  refine lv_iinc (v := v1) (lv' := [(4, .int v1), (0, .ref x0), (1, .long x1), (3, .int x3)]) hx hb dX11_type_68 hl (k := 3) rfl (by rw [ev]; rfl) (by decide) rfl (fun ls hl => ?_)
  clear ev
  refine lv_goto (tgt := 31) hx hb dX11_type_71 (by decide) ?_
  exact hself31 x0 x1 x3 v1 _ _ _ _ _ _ hf hCT hM (lv_sub hl [1, 2, 3, 0] rfl)
def g_X11_type_66 (Pw : Int32 → ZS → Prop) (S : ZS) (C T : Nat) : Prop :=
  m_chkP (vp_nar .boolean (0 : Int32) = (0 : Int32)) (Pw (0 : Int32) S)

set_option maxRecDepth 100000 in
set_option maxHeartbeats 4000000 in
theorem w_X11_type_66 {p : Program} {l : Launch} {e : Env} {s : State} {m : MethodId} {args : Array Value} {below : List Frame} {meth : Method} {c : Code} {Q : State → Prop} {D : va_G} {y : Nat → ClassId} {A0 : Nat → Prop} {kc kt : Nat} {Pw : Int32 → ZS → Prop} (X : CallFix p m c cX11_type 6 s args wsX11_type RX11) (hret : zQi p l e ({ frames := 2, cells := kc, slots := kt, locals := 82 } : Room) s m args below meth c Q cX11_type D y A0 .boolean Pw) {S : ZS} {C T : Nat} {H : Heap} {locs : List Loc} {ls : Array Slot} (hf : g_X11_type_66 Pw  S C T) (hCT : C ≤ kc ∧ T ≤ kt) (hM : zH D y A0 s H locs S) (hl : lv_has ls 6 []) : W p l e ({ frames := 2, cells := kc, slots := kt, locals := 82 } : Room) s m args below meth c H locs (kc - C) (kt - T) Q (F0 m 66 ls []) := by
  obtain ⟨hx, hb, hml, hown, hts⟩ := id X
  unfold g_X11_type_66 at hf
  refine lv_iconst (v := (0 : Int32)) hx hb dX11_type_66 (by decide) ?_
  obtain ⟨cd, hf⟩ := m_chkPE hf
  exact hret _ _ _ _ H locs _ ls hf hM (m_nb cd) dX11_type_67
def g_X11_type_31s (Pw : Int32 → ZS → Prop) (self31 : Nat → Int64 → Int32 → Int32 → ZS → Nat → Nat → Prop) (x0 : Nat) (x1 : Int64) (x3 : Int32) (x4 : Int32) (S : ZS) (C T : Nat) : Prop :=
  m_ifP (x3 ≤ x4) (
  g_X11_type_77 Pw mFuel x0 x1 x3 (0 : Int32) S (C) (T)
  ) (
  m_calP (f_X11_byteOf x1 x4 S) (fun o1 =>
  m_ifP (o1.1 = (10 : Int32)) (
  g_X11_type_68 Pw self31 x0 x1 x3 x4 o1.2 (C) (T)
  ) (
  m_ifP (o1.1 < (32 : Int32)) (
  g_X11_type_66 Pw  o1.2 (C) (T)
  ) (
  m_ifP (o1.1 ≤ (126 : Int32)) (
  g_X11_type_68 Pw self31 x0 x1 x3 x4 o1.2 (C) (T)
  ) (
  g_X11_type_66 Pw  o1.2 (C) (T)
  )
  )
  ))
  )

set_option maxRecDepth 100000 in
set_option maxHeartbeats 4000000 in
theorem ws_X11_type_31 {p : Program} {l : Launch} {e : Env} {s : State} {m : MethodId} {args : Array Value} {below : List Frame} {meth : Method} {c : Code} {Q : State → Prop} {D : va_G} {y : Nat → ClassId} {A0 : Nat → Prop} {kc kt : Nat} {Pw : Int32 → ZS → Prop} (X : CallFix p m c cX11_type 6 s args wsX11_type RX11) (hret : zQi p l e ({ frames := 2, cells := kc, slots := kt, locals := 82 } : Room) s m args below meth c Q cX11_type D y A0 .boolean Pw) {self31 : Nat → Int64 → Int32 → Int32 → ZS → Nat → Nat → Prop} (hself31 : ∀ (x0 : Nat) (x1 : Int64) (x3 : Int32) (x4 : Int32) (S : ZS) (C T : Nat) (H : Heap) (locs : List Loc) (ls : Array Slot), self31 x0 x1 x3 x4 S C T → C ≤ kc ∧ T ≤ kt → zH D y A0 s H locs S → lv_has ls 6 [(0, .ref x0), (1, .long x1), (3, .int x3), (4, .int x4)] → W p l e ({ frames := 2, cells := kc, slots := kt, locals := 82 } : Room) s m args below meth c H locs (kc - C) (kt - T) Q (F0 m 31 ls [])) {x0 : Nat} {x1 : Int64} {x3 : Int32} {x4 : Int32} {S : ZS} {C T : Nat} {H : Heap} {locs : List Loc} {ls : Array Slot} (hf : g_X11_type_31s Pw self31 x0 x1 x3 x4 S C T) (hCT : C ≤ kc ∧ T ≤ kt) (hM : zH D y A0 s H locs S) (hl : lv_has ls 6 [(0, .ref x0), (1, .long x1), (3, .int x3), (4, .int x4)]) : W p l e ({ frames := 2, cells := kc, slots := kt, locals := 82 } : Room) s m args below meth c H locs (kc - C) (kt - T) Q (F0 m 31 ls []) := by
  obtain ⟨hx, hb, hml, hown, hts⟩ := id X
  unfold g_X11_type_31s at hf
  refine lv_iload hx hb dX11_type_31 (lv_at hl 3 rfl) ?_
  refine lv_iload_n hx hb dX11_type_33 rfl (lv_at hl 2 rfl) ?_
  refine lv_icmp_ge (tgt := 74) hx hb dX11_type_34 (by decide) (fun cc1 => ?_) (fun cc1 => ?_)
  · replace hf := m_ifPT hf cc1
    refine lv_iconst (v := (0 : Int32)) hx hb dX11_type_74 (by decide) ?_
    refine lv_istore (lv' := [(4, .int (0 : Int32)), (0, .ref x0), (1, .long x1), (3, .int x3)]) hx hb dX11_type_75 hl (by decide) rfl (fun ls hl => ?_)
    exact w_X11_type_77 X hret _ x0 x1 x3 (0 : Int32) _ _ _ _ _ _ hf hCT hM (lv_sub hl [1, 2, 3, 0] rfl)
  · replace hf := m_ifPF hf cc1
    refine lv_lload_n hx hb dX11_type_37 rfl (lv_at hl 1 rfl) ?_
    refine lv_iload hx hb dX11_type_38 (lv_at hl 3 rfl) ?_
    obtain ⟨o1, ho, hf⟩ := m_calPE hf
    refine z_gcallSi X hM (c_X11_byteOf ho) gX11_type_X11_byteOf rfl ⟨rfl, rfl⟩ hd_X11_byteOf ⟨Nat.le_of_ble_eq_true rfl, Nat.le_of_ble_eq_true rfl⟩ rfl hl.1 rfl ⟨Nat.sub_le _ _, Nat.sub_le _ _⟩ (Nat.le_of_ble_eq_true rfl) dX11_type_40 (fun H locs hM => ?_)
    clear ho
    refine lv_istore (lv' := [(5, .int o1.1), (0, .ref x0), (1, .long x1), (3, .int x3), (4, .int x4)]) hx hb dX11_type_43 hl (by decide) rfl (fun ls hl => ?_)
    refine lv_iload hx hb dX11_type_45 (lv_at hl 0 rfl) ?_
    refine lv_bipush (v := (10 : Int32)) hx hb dX11_type_47 (by decide) ?_
    refine lv_icmp_eq (tgt := 68) hx hb dX11_type_49 (by decide) (fun cc1 => ?_) (fun cc1 => ?_)
    · replace hf := m_ifPT hf cc1
      exact w_X11_type_68 (x0 := x0) (x1 := x1) (x3 := x3) (x4 := x4) X hret hself31 hf hCT hM (lv_sub hl [1, 2, 3, 4] rfl)
    · replace hf := m_ifPF hf cc1
      refine lv_iload hx hb dX11_type_52 (lv_at hl 0 rfl) ?_
      refine lv_bipush (v := (32 : Int32)) hx hb dX11_type_54 (by decide) ?_
      refine lv_icmp_lt (tgt := 66) hx hb dX11_type_56 (by decide) (fun cc1 => ?_) (fun cc1 => ?_)
      · replace hf := m_ifPT hf cc1
        exact w_X11_type_66 X hret hf hCT hM (lv_sub hl [] rfl)
      · replace hf := m_ifPF hf cc1
        refine lv_iload hx hb dX11_type_59 (lv_at hl 0 rfl) ?_
        refine lv_bipush (v := (126 : Int32)) hx hb dX11_type_61 (by decide) ?_
        refine lv_icmp_le (tgt := 68) hx hb dX11_type_63 (by decide) (fun cc1 => ?_) (fun cc1 => ?_)
        · replace hf := m_ifPT hf cc1
          exact w_X11_type_68 (x0 := x0) (x1 := x1) (x3 := x3) (x4 := x4) X hret hself31 hf hCT hM (lv_sub hl [1, 2, 3, 4] rfl)
        · replace hf := m_ifPF hf cc1
          exact w_X11_type_66 X hret hf hCT hM (lv_sub hl [] rfl)
def g_X11_type_31 (Pw : Int32 → ZS → Prop) : Nat → Nat → Int64 → Int32 → Int32 → ZS → Nat → Nat → Prop
  | 0 => fun _ _ _ _ _ _ _ => False
  | n + 1 => g_X11_type_31s Pw (g_X11_type_31 Pw n)
theorem w_X11_type_31 {p : Program} {l : Launch} {e : Env} {s : State} {m : MethodId} {args : Array Value} {below : List Frame} {meth : Method} {c : Code} {Q : State → Prop} {D : va_G} {y : Nat → ClassId} {A0 : Nat → Prop} {kc kt : Nat} {Pw : Int32 → ZS → Prop} (X : CallFix p m c cX11_type 6 s args wsX11_type RX11) (hret : zQi p l e ({ frames := 2, cells := kc, slots := kt, locals := 82 } : Room) s m args below meth c Q cX11_type D y A0 .boolean Pw) (n : Nat) : ∀ (x0 : Nat) (x1 : Int64) (x3 : Int32) (x4 : Int32) (S : ZS) (C T : Nat) (H : Heap) (locs : List Loc) (ls : Array Slot), g_X11_type_31 Pw n x0 x1 x3 x4 S C T → C ≤ kc ∧ T ≤ kt → zH D y A0 s H locs S → lv_has ls 6 [(0, .ref x0), (1, .long x1), (3, .int x3), (4, .int x4)] → W p l e ({ frames := 2, cells := kc, slots := kt, locals := 82 } : Room) s m args below meth c H locs (kc - C) (kt - T) Q (F0 m 31 ls []) := by
  induction n with
  | zero => intro x0 x1 x3 x4 S C T H locs ls hf; exact absurd hf id
  | succ n ih => intro x0 x1 x3 x4 S C T H locs ls hf hCT hM hl; exact ws_X11_type_31 X hret (self31 := g_X11_type_31 Pw n) ih hf hCT hM hl
def g_X11_type_0 (Pw : Int32 → ZS → Prop) (x0 : Nat) (x1 : Int64) (x3 : Int32) (S : ZS) (C T : Nat) : Prop :=
  m_ifP (x3 < (1 : Int32)) (
  g_X11_type_26 Pw  S (C) (T)
  ) (
  m_ifP ((8 : Int32) < x3) (
  g_X11_type_26 Pw  S (C) (T)
  ) (
  m_chkP (x0 ∈ zL S ∧ zK S x0 = 11) (
  m_calP (zP S 0 x0) (fun b1 =>
  m_chkP (b1 ∈ zL S ∧ zK S b1 = 6) (
  m_calP (f_X6_size b1 S) (fun o2 =>
  m_bndP (o2.1 + x3) (fun v3 =>
  m_ifP (v3 ≤ (2000 : Int32)) (
  g_X11_type_31 Pw mFuel x0 x1 x3 (0 : Int32) o2.2 (C) (T)
  ) (
  g_X11_type_26 Pw  o2.2 (C) (T)
  ))))))
  )
  )

set_option maxRecDepth 100000 in
set_option maxHeartbeats 4000000 in
theorem w_X11_type_0 {p : Program} {l : Launch} {e : Env} {s : State} {m : MethodId} {args : Array Value} {below : List Frame} {meth : Method} {c : Code} {Q : State → Prop} {D : va_G} {y : Nat → ClassId} {A0 : Nat → Prop} {kc kt : Nat} {Pw : Int32 → ZS → Prop} (X : CallFix p m c cX11_type 6 s args wsX11_type RX11) (hret : zQi p l e ({ frames := 2, cells := kc, slots := kt, locals := 82 } : Room) s m args below meth c Q cX11_type D y A0 .boolean Pw) {x0 : Nat} {x1 : Int64} {x3 : Int32} {S : ZS} {C T : Nat} {H : Heap} {locs : List Loc} {ls : Array Slot} (hf : g_X11_type_0 Pw x0 x1 x3 S C T) (hCT : C ≤ kc ∧ T ≤ kt) (hM : zH D y A0 s H locs S) (hl : lv_has ls 6 [(0, .ref x0), (1, .long x1), (3, .int x3)]) : W p l e ({ frames := 2, cells := kc, slots := kt, locals := 82 } : Room) s m args below meth c H locs (kc - C) (kt - T) Q (F0 m 0 ls []) := by
  obtain ⟨hx, hb, hml, hown, hts⟩ := id X
  unfold g_X11_type_0 at hf
  refine lv_iload_n hx hb dX11_type_0 rfl (lv_at hl 2 rfl) ?_
  refine lv_iconst (v := (1 : Int32)) hx hb dX11_type_1 (by decide) ?_
  refine lv_icmp_lt (tgt := 26) hx hb dX11_type_2 (by decide) (fun cc1 => ?_) (fun cc1 => ?_)
  · replace hf := m_ifPT hf cc1
    exact w_X11_type_26 X hret hf hCT hM (lv_sub hl [] rfl)
  · replace hf := m_ifPF hf cc1
    refine lv_iload_n hx hb dX11_type_5 rfl (lv_at hl 2 rfl) ?_
    refine lv_bipush (v := (8 : Int32)) hx hb dX11_type_6 (by decide) ?_
    refine lv_icmp_gt (tgt := 26) hx hb dX11_type_8 (by decide) (fun cc1 => ?_) (fun cc1 => ?_)
    · replace hf := m_ifPT hf cc1
      exact w_X11_type_26 X hret hf hCT hM (lv_sub hl [] rfl)
    · replace hf := m_ifPF hf cc1
      refine lv_aload_n hx hb dX11_type_11 rfl (lv_at hl 0 rfl) ?_
      obtain ⟨ca, hf⟩ := m_chkPE hf
      refine z_get (k := 11) (j := 0) (C := RX11) (T := TX11) (N := 10) (fl := zf_11) (v := va_rf (zP S 0 x0)) X hw_X11_type_11 hM rfl zc_11 ca (by decide) fl_X11_type_11_0 rfl dX11_type_12 ?_
      clear ca
      obtain ⟨b1, hb9, hf⟩ := m_calPE hf
      refine z_topr hb9 ?_
      clear hb9
      obtain ⟨ca, hf⟩ := m_chkPE hf
      obtain ⟨o2, ho, hf⟩ := m_calPE hf
      refine z_gcallVi (k := 6) (C := RX6) (T := TX6) (N := 2) (fl := zf_6) X hM rfl zc_6 ca (c_X6_size ho) gX11_type_X6_size rfl ⟨rfl, rfl⟩ hd_X6_size ⟨Nat.le_of_ble_eq_true rfl, Nat.le_of_ble_eq_true rfl⟩ rfl hl.1 rfl ⟨Nat.sub_le _ _, Nat.sub_le _ _⟩ (Nat.le_of_ble_eq_true rfl) dX11_type_15 (fun H locs hM => ?_)
      clear ho
      refine lv_iload_n hx hb dX11_type_18 rfl (lv_at hl 2 rfl) ?_
      refine lv_iadd hx hb dX11_type_19 ?_
      obtain ⟨v3, ev, hf⟩ := m_bndPE hf
      refine m_top ev ?_
      clear ev
      refine lv_sipush (v := (2000 : Int32)) hx hb dX11_type_20 (by decide) ?_
      refine lv_icmp_le (tgt := 28) hx hb dX11_type_23 (by decide) (fun cc1 => ?_) (fun cc1 => ?_)
      · replace hf := m_ifPT hf cc1
        refine lv_iconst (v := (0 : Int32)) hx hb dX11_type_28 (by decide) ?_
        refine lv_istore (lv' := [(4, .int (0 : Int32)), (0, .ref x0), (1, .long x1), (3, .int x3)]) hx hb dX11_type_29 hl (by decide) rfl (fun ls hl => ?_)
        exact w_X11_type_31 X hret _ x0 x1 x3 (0 : Int32) _ _ _ _ _ _ hf hCT hM (lv_sub hl [1, 2, 3, 0] rfl)
      · replace hf := m_ifPF hf cc1
        exact w_X11_type_26 X hret hf hCT hM (lv_sub hl [] rfl)
def g_X11_type (x0 : Nat) (x1 : Int64) (x3 : Int32) (S : ZS) (mc ms : Nat) (Pw : Int32 → ZS → Prop) : Prop := g_X11_type_0 Pw x0 x1 x3 S mc ms
theorem c_X11_type {l : Launch} {D : va_G} {y : Nat → ClassId} {x0 : Nat} {x1 : Int64} {x3 : Int32} {S : ZS} {kc kt : Nat} {Pw : Int32 → ZS → Prop} (hf : g_X11_type x0 x1 x3 S kc kt Pw) : zWi l yX11_type wsX11_type ({ frames := 2, cells := kc, slots := kt, locals := 82 } : Room) [.ref x0, .long x1, .int x3] D y S kc kt Pw :=
  z_wentI (own := RX11) (cc := cX11_type) (maxL := 6) (by decide) rfl rfl (Nat.le_of_ble_eq_true rfl) ⟨rfl, rfl⟩ (fun p e s m args below meth c A0 Q H locs ls X hret hM hl => w_X11_type_0 X hret hf ⟨Nat.le_refl _, Nat.le_refl _⟩ hM (lv_sub hl [0, 1, 2] rfl))
theorem hd_X11_type : yX11_type.cls = RX11 ∧ yX11_type.cls ≠ "java/lang/invoke/MethodHandle" ∧ yX11_type.cls ≠ "java/lang/invoke/VarHandle" ∧ (parseMethodDescriptor yX11_type.desc).map (fun d => d.parameters.length) = some 2 := by decide +kernel
theorem fl_X11_cut_11_0 : Cond.fieldLink RX11 10 "MoveTexts" "text" "LMoveTexts$Row;" ∈ wsX11_cut := by decide +kernel
theorem hw_X11_cut_11 : ∀ w ∈ wsX110, w ∈ wsX11_cut := by decide +kernel
def f_X11_cut_15 (S : ZS) : Option (Int32 × ZS) :=
  m_chk (vp_nar .boolean (0 : Int32) = (0 : Int32)) (some ((0 : Int32), S))

set_option maxRecDepth 100000 in
set_option maxHeartbeats 4000000 in
theorem w_X11_cut_15 {p : Program} {l : Launch} {e : Env} {s : State} {m : MethodId} {args : Array Value} {below : List Frame} {meth : Method} {c : Code} {Q : State → Prop} {D : va_G} {y : Nat → ClassId} {A0 : Nat → Prop} {o : Int32 × ZS} (X : CallFix p m c cX11_cut 2 s args wsX11_cut RX11) (hret : zRi p l e ({ frames := 1, cells := 0, slots := 0, locals := 21 } : Room) s m args below meth c Q cX11_cut D y A0 .boolean o) {S : ZS} {H : Heap} {locs : List Loc} {ls : Array Slot} (hf : f_X11_cut_15  S = some o) (hM : zH D y A0 s H locs S) (hl : lv_has ls 2 []) : W p l e ({ frames := 1, cells := 0, slots := 0, locals := 21 } : Room) s m args below meth c H locs 0 0 Q (F0 m 15 ls []) := by
  obtain ⟨hx, hb, hml, hown, hts⟩ := id X
  unfold f_X11_cut_15 at hf
  refine lv_iconst (v := (0 : Int32)) hx hb dX11_cut_15 (by decide) ?_
  obtain ⟨cd, hf⟩ := m_chkE hf
  cases hf
  exact hret H locs _ ls hM (m_nb cd) dX11_cut_16
def f_X11_cut_0 (x0 : Nat) (x1 : Int32) (S : ZS) : Option (Int32 × ZS) :=
  m_if (x1 < 0) (
  f_X11_cut_15  S
  ) (
  m_chk (x0 ∈ zL S ∧ zK S x0 = 11) (
  m_cal (zP S 0 x0) (fun b1 =>
  m_chk (b1 ∈ zL S ∧ zK S b1 = 6) (
  m_cal (f_X6_size b1 S) (fun o2 =>
  m_if (x1 ≤ o2.1) (
  m_chk (x0 ∈ zL o2.2 ∧ zK o2.2 x0 = 11) (
  m_cal (zP o2.2 0 x0) (fun b3 =>
  m_chk (b3 ∈ zL o2.2 ∧ zK o2.2 b3 = 6) (
  m_cal (f_X6_keep b3 x1 o2.2) (fun o4 =>
  m_chk (vp_nar .boolean (1 : Int32) = (1 : Int32)) (some ((1 : Int32), o4.2))))))
  ) (
  f_X11_cut_15  o2.2
  )))))
  )

set_option maxRecDepth 100000 in
set_option maxHeartbeats 4000000 in
theorem w_X11_cut_0 {p : Program} {l : Launch} {e : Env} {s : State} {m : MethodId} {args : Array Value} {below : List Frame} {meth : Method} {c : Code} {Q : State → Prop} {D : va_G} {y : Nat → ClassId} {A0 : Nat → Prop} {o : Int32 × ZS} (X : CallFix p m c cX11_cut 2 s args wsX11_cut RX11) (hret : zRi p l e ({ frames := 1, cells := 0, slots := 0, locals := 21 } : Room) s m args below meth c Q cX11_cut D y A0 .boolean o) {x0 : Nat} {x1 : Int32} {S : ZS} {H : Heap} {locs : List Loc} {ls : Array Slot} (hf : f_X11_cut_0 x0 x1 S = some o) (hM : zH D y A0 s H locs S) (hl : lv_has ls 2 [(0, .ref x0), (1, .int x1)]) : W p l e ({ frames := 1, cells := 0, slots := 0, locals := 21 } : Room) s m args below meth c H locs 0 0 Q (F0 m 0 ls []) := by
  obtain ⟨hx, hb, hml, hown, hts⟩ := id X
  unfold f_X11_cut_0 at hf
  refine lv_iload_n hx hb dX11_cut_0 rfl (lv_at hl 1 rfl) ?_
  refine lv_if_lt (tgt := 15) hx hb dX11_cut_1 (by decide) (fun cc1 => ?_) (fun cc1 => ?_)
  · replace hf := m_ifT hf cc1
    exact w_X11_cut_15 X hret hf hM (lv_sub hl [] rfl)
  · replace hf := m_ifF hf cc1
    refine lv_iload_n hx hb dX11_cut_4 rfl (lv_at hl 1 rfl) ?_
    refine lv_aload_n hx hb dX11_cut_5 rfl (lv_at hl 0 rfl) ?_
    obtain ⟨ca, hf⟩ := m_chkE hf
    refine z_get (k := 11) (j := 0) (C := RX11) (T := TX11) (N := 10) (fl := zf_11) (v := va_rf (zP S 0 x0)) X hw_X11_cut_11 hM rfl zc_11 ca (by decide) fl_X11_cut_11_0 rfl dX11_cut_6 ?_
    clear ca
    obtain ⟨b1, hb9, hf⟩ := m_calE hf
    refine z_topr hb9 ?_
    clear hb9
    obtain ⟨ca, hf⟩ := m_chkE hf
    obtain ⟨o2, ho, hf⟩ := m_calE hf
    refine z_callVi (k := 6) (C := RX6) (T := TX6) (N := 2) (fl := zf_6) X hM rfl zc_6 ca (c_X6_size ho) gX11_cut_X6_size rfl ⟨rfl, rfl⟩ hd_X6_size ⟨Nat.le_of_ble_eq_true rfl, Nat.le_of_ble_eq_true rfl⟩ rfl hl.1 rfl (Nat.le_of_ble_eq_true rfl) dX11_cut_9 (fun H locs hM => ?_)
    clear ho
    refine lv_icmp_le (tgt := 17) hx hb dX11_cut_12 (by decide) (fun cc1 => ?_) (fun cc1 => ?_)
    · replace hf := m_ifT hf cc1
      refine lv_aload_n hx hb dX11_cut_17 rfl (lv_at hl 0 rfl) ?_
      obtain ⟨ca, hf⟩ := m_chkE hf
      refine z_get (k := 11) (j := 0) (C := RX11) (T := TX11) (N := 10) (fl := zf_11) (v := va_rf (zP o2.2 0 x0)) X hw_X11_cut_11 hM rfl zc_11 ca (by decide) fl_X11_cut_11_0 rfl dX11_cut_18 ?_
      clear ca
      obtain ⟨b3, hb9, hf⟩ := m_calE hf
      refine z_topr hb9 ?_
      clear hb9
      refine lv_iload_n hx hb dX11_cut_21 rfl (lv_at hl 1 rfl) ?_
      obtain ⟨ca, hf⟩ := m_chkE hf
      obtain ⟨o4, ho, hf⟩ := m_calE hf
      refine z_callVv (k := 6) (C := RX6) (T := TX6) (N := 2) (fl := zf_6) X hM rfl zc_6 ca (c_X6_keep ho) gX11_cut_X6_keep rfl ⟨rfl, rfl⟩ hd_X6_keep ⟨Nat.le_of_ble_eq_true rfl, Nat.le_of_ble_eq_true rfl⟩ rfl hl.1 rfl (Nat.le_of_ble_eq_true rfl) dX11_cut_22 (fun H locs hM => ?_)
      clear ho
      refine lv_iconst (v := (1 : Int32)) hx hb dX11_cut_25 (by decide) ?_
      obtain ⟨cd, hf⟩ := m_chkE hf
      cases hf
      exact hret H locs _ ls hM (m_nb cd) dX11_cut_26
    · replace hf := m_ifF hf cc1
      exact w_X11_cut_15 X hret hf hM (lv_sub hl [] rfl)
def f_X11_cut (x0 : Nat) (x1 : Int32) (S : ZS) : Option (Int32 × ZS) := f_X11_cut_0 x0 x1 S
theorem c_X11_cut {l : Launch} {D : va_G} {y : Nat → ClassId} {x0 : Nat} {x1 : Int32} {S : ZS} {o : Int32 × ZS} (hf : f_X11_cut x0 x1 S = some o) : zMi l yX11_cut wsX11_cut ({ frames := 1, cells := 0, slots := 0, locals := 21 } : Room) [.ref x0, .int x1] D y S o :=
  z_entryI (own := RX11) (cc := cX11_cut) (maxL := 2) (by decide) rfl rfl (Nat.le_of_ble_eq_true rfl) (fun p e s m args below meth c A0 Q H locs ls X hret hM hl => w_X11_cut_0 X hret hf hM (lv_sub hl [0, 1] rfl))
theorem hd_X11_cut : yX11_cut.cls = RX11 ∧ yX11_cut.cls ≠ "java/lang/invoke/MethodHandle" ∧ yX11_cut.cls ≠ "java/lang/invoke/VarHandle" ∧ (parseMethodDescriptor yX11_cut.desc).map (fun d => d.parameters.length) = some 1 := by decide +kernel
