theorem fl_X2_readDigits_2_2 : Cond.fieldLink RX2 28 "MoveTexts$GameReader" "text" "LMoveTexts$Row;" ∈ wsX2_readDigits := by decide +kernel
theorem fl_X2_readDigits_2_4 : Cond.fieldLink RX2 39 "MoveTexts$GameReader" "at" "I" ∈ wsX2_readDigits := by decide +kernel
theorem hw_X2_readDigits_2 : ∀ w ∈ wsX20, w ∈ wsX2_readDigits := by decide +kernel
theorem nn_X2_readDigits_136 : ((RX2, 136, yX11_isDigit, "MoveTexts") ∈ zNW ∧ Cond.initialized yX11_isDigit.cls ∈ wsX2_readDigits) ∧ Cond.static yX11_isDigit ∈ wsX2_readDigits := by decide +kernel
def f_X2_readDigits_67 (x3 : Int32) (S : ZS) : Option (Int32 × ZS) :=
  some (x3, S)

set_option maxRecDepth 100000 in
set_option maxHeartbeats 4000000 in
theorem w_X2_readDigits_67 {p : Program} {l : Launch} {e : Env} {s : State} {m : MethodId} {args : Array Value} {below : List Frame} {meth : Method} {c : Code} {Q : State → Prop} {D : va_G} {y : Nat → ClassId} {A0 : Nat → Prop} {o : Int32 × ZS} (X : CallFix p m c cX2_readDigits 4 s args wsX2_readDigits RX2) (hret : zRi p l e ({ frames := 1, cells := 0, slots := 0, locals := 21 } : Room) s m args below meth c Q cX2_readDigits D y A0 .int o) {x3 : Int32} {S : ZS} {H : Heap} {locs : List Loc} {ls : Array Slot} (hf : f_X2_readDigits_67 x3 S = some o) (hM : zH D y A0 s H locs S) (hl : lv_has ls 4 [(3, .int x3)]) : W p l e ({ frames := 1, cells := 0, slots := 0, locals := 21 } : Room) s m args below meth c H locs 0 0 Q (F0 m 67 ls []) := by
  obtain ⟨hx, hb, hml, hown, hts⟩ := id X
  unfold f_X2_readDigits_67 at hf
  refine lv_iload_n hx hb dX2_readDigits_67 rfl (lv_at hl 0 rfl) ?_
  cases hf
  exact hret H locs _ ls hM rfl dX2_readDigits_68
def f_X2_readDigits_9s (self9 : Nat → Int32 → Int32 → ZS → Option (Int32 × ZS)) (x0 : Nat) (x2 : Int32) (x3 : Int32) (S : ZS) : Option (Int32 × ZS) :=
  m_chk (x0 ∈ zL S ∧ zK S x0 = 2) (
  m_if (x2 ≤ (zI S 4 x0)) (
  f_X2_readDigits_67 x3 S
  ) (
  m_chk (x0 ∈ zL S ∧ zK S x0 = 2) (
  m_cal (zP S 2 x0) (fun b1 =>
  m_chk (x0 ∈ zL S ∧ zK S x0 = 2) (
  m_chk (b1 ∈ zL S ∧ zK S b1 = 6) (
  m_cal (f_X6_at b1 (zI S 4 x0) S) (fun o2 =>
  m_cal (f_X11_isDigit o2.1 o2.2) (fun o3 =>
  m_if (o3.1 = 0) (
  f_X2_readDigits_67 x3 o3.2
  ) (
  m_bnd ((10 : Int32) * x3) (fun v4 =>
  m_chk (x0 ∈ zL o3.2 ∧ zK o3.2 x0 = 2) (
  m_cal (zP o3.2 2 x0) (fun b5 =>
  m_chk (x0 ∈ zL o3.2 ∧ zK o3.2 x0 = 2) (
  m_chk (b5 ∈ zL o3.2 ∧ zK o3.2 b5 = 6) (
  m_cal (f_X6_at b5 (zI o3.2 4 x0) o3.2) (fun o6 =>
  m_bnd (v4 + o6.1) (fun v7 =>
  m_bnd (v7 - (48 : Int32)) (fun v8 =>
  m_chk (x0 ∈ zL o6.2 ∧ zK o6.2 x0 = 2) (
  m_bnd ((zI o6.2 4 x0) + (1 : Int32)) (fun v9 =>
  m_chk (x0 ∈ zL o6.2 ∧ zK o6.2 x0 = 2) (
  m_bnd (zsI o6.2 4 x0 v9) (fun S10 =>
  self9 x0 x2 v8 S10))))))))))))
  )))))))
  ))

set_option maxRecDepth 100000 in
set_option maxHeartbeats 4000000 in
theorem ws_X2_readDigits_9 {p : Program} {l : Launch} {e : Env} {s : State} {m : MethodId} {args : Array Value} {below : List Frame} {meth : Method} {c : Code} {Q : State → Prop} {D : va_G} {y : Nat → ClassId} {A0 : Nat → Prop} {o : Int32 × ZS} (X : CallFix p m c cX2_readDigits 4 s args wsX2_readDigits RX2) (hret : zRi p l e ({ frames := 1, cells := 0, slots := 0, locals := 21 } : Room) s m args below meth c Q cX2_readDigits D y A0 .int o) {self9 : Nat → Int32 → Int32 → ZS → Option (Int32 × ZS)} (hself9 : ∀ (x0 : Nat) (x2 : Int32) (x3 : Int32) (S : ZS) (H : Heap) (locs : List Loc) (ls : Array Slot), self9 x0 x2 x3 S = some o → zH D y A0 s H locs S → lv_has ls 4 [(0, .ref x0), (2, .int x2), (3, .int x3)] → W p l e ({ frames := 1, cells := 0, slots := 0, locals := 21 } : Room) s m args below meth c H locs 0 0 Q (F0 m 9 ls [])) {x0 : Nat} {x2 : Int32} {x3 : Int32} {S : ZS} {H : Heap} {locs : List Loc} {ls : Array Slot} (hf : f_X2_readDigits_9s self9 x0 x2 x3 S = some o) (hM : zH D y A0 s H locs S) (hl : lv_has ls 4 [(0, .ref x0), (2, .int x2), (3, .int x3)]) : W p l e ({ frames := 1, cells := 0, slots := 0, locals := 21 } : Room) s m args below meth c H locs 0 0 Q (F0 m 9 ls []) := by
  obtain ⟨hx, hb, hml, hown, hts⟩ := id X
  unfold f_X2_readDigits_9s at hf
  refine lv_aload_n hx hb dX2_readDigits_9 rfl (lv_at hl 0 rfl) ?_
  obtain ⟨ca, hf⟩ := m_chkE hf
  refine z_get (k := 2) (j := 4) (C := RX2) (T := TX2) (N := 12) (fl := zf_2) (v := .int (zI S 4 x0)) X hw_X2_readDigits_2 hM rfl zc_2 ca (by decide) fl_X2_readDigits_2_4 rfl dX2_readDigits_10 ?_
  clear ca
  refine lv_iload_n hx hb dX2_readDigits_13 rfl (lv_at hl 1 rfl) ?_
  refine lv_icmp_ge (tgt := 67) hx hb dX2_readDigits_14 (by decide) (fun cc1 => ?_) (fun cc1 => ?_)
  · replace hf := m_ifT hf cc1
    exact w_X2_readDigits_67 (x3 := x3) X hret hf hM (lv_sub hl [2] rfl)
  · replace hf := m_ifF hf cc1
    refine lv_aload_n hx hb dX2_readDigits_17 rfl (lv_at hl 0 rfl) ?_
    obtain ⟨ca, hf⟩ := m_chkE hf
    refine z_get (k := 2) (j := 2) (C := RX2) (T := TX2) (N := 12) (fl := zf_2) (v := va_rf (zP S 2 x0)) X hw_X2_readDigits_2 hM rfl zc_2 ca (by decide) fl_X2_readDigits_2_2 rfl dX2_readDigits_18 ?_
    clear ca
    obtain ⟨b1, hb9, hf⟩ := m_calE hf
    refine z_topr hb9 ?_
    clear hb9
    refine lv_aload_n hx hb dX2_readDigits_21 rfl (lv_at hl 0 rfl) ?_
    obtain ⟨ca, hf⟩ := m_chkE hf
    refine z_get (k := 2) (j := 4) (C := RX2) (T := TX2) (N := 12) (fl := zf_2) (v := .int (zI S 4 x0)) X hw_X2_readDigits_2 hM rfl zc_2 ca (by decide) fl_X2_readDigits_2_4 rfl dX2_readDigits_22 ?_
    clear ca
    obtain ⟨ca, hf⟩ := m_chkE hf
    obtain ⟨o2, ho, hf⟩ := m_calE hf
    refine z_callVi (k := 6) (C := RX6) (T := TX6) (N := 2) (fl := zf_6) X hM rfl zc_6 ca (c_X6_at ho) gX2_readDigits_X6_at rfl ⟨rfl, rfl⟩ hd_X6_at ⟨Nat.le_of_ble_eq_true rfl, Nat.le_of_ble_eq_true rfl⟩ rfl hl.1 rfl (Nat.le_of_ble_eq_true rfl) dX2_readDigits_25 (fun H locs hM => ?_)
    clear ho
    obtain ⟨o3, ho, hf⟩ := m_calE hf
    refine z_callSNi X hM (c_X11_isDigit ho) gX2_readDigits_X11_isDigit_n136 nn_X2_readDigits_136.1.1 nn_X2_readDigits_136.1.2 nn_X2_readDigits_136.2 rfl ⟨rfl, rfl⟩ hd_X11_isDigit ⟨Nat.le_of_ble_eq_true rfl, Nat.le_of_ble_eq_true rfl⟩ rfl hl.1 rfl (Nat.le_of_ble_eq_true rfl) dX2_readDigits_28 (fun H locs hM => ?_)
    clear ho
    refine lv_if_eq (tgt := 67) hx hb dX2_readDigits_31 (by decide) (fun cc1 => ?_) (fun cc1 => ?_)
    · replace hf := m_ifT hf cc1
      exact w_X2_readDigits_67 (x3 := x3) X hret hf hM (lv_sub hl [2] rfl)
    · replace hf := m_ifF hf cc1
      refine lv_bipush (v := (10 : Int32)) hx hb dX2_readDigits_34 (by decide) ?_
      refine lv_iload_n hx hb dX2_readDigits_36 rfl (lv_at hl 2 rfl) ?_
      refine lv_imul hx hb dX2_readDigits_37 ?_
      obtain ⟨v4, ev, hf⟩ := m_bndE hf
      refine m_top ev ?_
      clear ev
      refine lv_aload_n hx hb dX2_readDigits_38 rfl (lv_at hl 0 rfl) ?_
      obtain ⟨ca, hf⟩ := m_chkE hf
      refine z_get (k := 2) (j := 2) (C := RX2) (T := TX2) (N := 12) (fl := zf_2) (v := va_rf (zP o3.2 2 x0)) X hw_X2_readDigits_2 hM rfl zc_2 ca (by decide) fl_X2_readDigits_2_2 rfl dX2_readDigits_39 ?_
      clear ca
      obtain ⟨b5, hb9, hf⟩ := m_calE hf
      refine z_topr hb9 ?_
      clear hb9
      refine lv_aload_n hx hb dX2_readDigits_42 rfl (lv_at hl 0 rfl) ?_
      obtain ⟨ca, hf⟩ := m_chkE hf
      refine z_get (k := 2) (j := 4) (C := RX2) (T := TX2) (N := 12) (fl := zf_2) (v := .int (zI o3.2 4 x0)) X hw_X2_readDigits_2 hM rfl zc_2 ca (by decide) fl_X2_readDigits_2_4 rfl dX2_readDigits_43 ?_
      clear ca
      obtain ⟨ca, hf⟩ := m_chkE hf
      obtain ⟨o6, ho, hf⟩ := m_calE hf
      refine z_callVi (k := 6) (C := RX6) (T := TX6) (N := 2) (fl := zf_6) X hM rfl zc_6 ca (c_X6_at ho) gX2_readDigits_X6_at rfl ⟨rfl, rfl⟩ hd_X6_at ⟨Nat.le_of_ble_eq_true rfl, Nat.le_of_ble_eq_true rfl⟩ rfl hl.1 rfl (Nat.le_of_ble_eq_true rfl) dX2_readDigits_46 (fun H locs hM => ?_)
      clear ho
      refine lv_iadd hx hb dX2_readDigits_49 ?_
      obtain ⟨v7, ev, hf⟩ := m_bndE hf
      refine m_top ev ?_
      clear ev
      refine lv_bipush (v := (48 : Int32)) hx hb dX2_readDigits_50 (by decide) ?_
      refine lv_isub hx hb dX2_readDigits_52 ?_
      obtain ⟨v8, ev, hf⟩ := m_bndE hf
      refine m_top ev ?_
      clear ev
      refine lv_istore_n (lv' := [(3, .int v8), (0, .ref x0), (2, .int x2)]) hx hb dX2_readDigits_53 rfl hl (by decide) rfl (fun ls hl => ?_)
      refine lv_aload_n hx hb dX2_readDigits_54 rfl (lv_at hl 1 rfl) ?_
      refine lv_dup hx hb dX2_readDigits_55 rfl ?_
      obtain ⟨ca, hf⟩ := m_chkE hf
      refine z_get (k := 2) (j := 4) (C := RX2) (T := TX2) (N := 12) (fl := zf_2) (v := .int (zI o6.2 4 x0)) X hw_X2_readDigits_2 hM rfl zc_2 ca (by decide) fl_X2_readDigits_2_4 rfl dX2_readDigits_56 ?_
      clear ca
      refine lv_iconst (v := (1 : Int32)) hx hb dX2_readDigits_59 (by decide) ?_
      refine lv_iadd hx hb dX2_readDigits_60 ?_
      obtain ⟨v9, ev, hf⟩ := m_bndE hf
      refine m_top ev ?_
      clear ev
      obtain ⟨ca, hf⟩ := m_chkE hf
      refine z_putI (k := 2) (j := 4) (C := RX2) (T := TX2) (N := 12) (fl := zf_2) (ty := .int) X hw_X2_readDigits_2 tyX2_ok nmX2 hM rfl zc_2 ca (by decide) fl_X2_readDigits_2_4 rfl (tyX2_ok 4 (by decide)) rfl rfl zi_2_4 (Nat.le_of_ble_eq_true rfl) dX2_readDigits_61 (fun H locs hM => ?_)
      clear ca
      obtain ⟨S10, ev, hf⟩ := m_bndE hf
      replace hM := z_hS hM ev
      clear ev
      refine lv_goto (tgt := 9) hx hb dX2_readDigits_64 (by decide) ?_
      exact hself9 x0 x2 v8 _ _ _ _ hf hM (lv_sub hl [1, 2, 0] rfl)
def f_X2_readDigits_9 : Nat → Nat → Int32 → Int32 → ZS → Option (Int32 × ZS)
  | 0 => fun _ _ _ _ => none
  | n + 1 => f_X2_readDigits_9s (f_X2_readDigits_9 n)
theorem w_X2_readDigits_9 {p : Program} {l : Launch} {e : Env} {s : State} {m : MethodId} {args : Array Value} {below : List Frame} {meth : Method} {c : Code} {Q : State → Prop} {D : va_G} {y : Nat → ClassId} {A0 : Nat → Prop} {o : Int32 × ZS} (X : CallFix p m c cX2_readDigits 4 s args wsX2_readDigits RX2) (hret : zRi p l e ({ frames := 1, cells := 0, slots := 0, locals := 21 } : Room) s m args below meth c Q cX2_readDigits D y A0 .int o) (n : Nat) : ∀ (x0 : Nat) (x2 : Int32) (x3 : Int32) (S : ZS) (H : Heap) (locs : List Loc) (ls : Array Slot), f_X2_readDigits_9 n x0 x2 x3 S = some o → zH D y A0 s H locs S → lv_has ls 4 [(0, .ref x0), (2, .int x2), (3, .int x3)] → W p l e ({ frames := 1, cells := 0, slots := 0, locals := 21 } : Room) s m args below meth c H locs 0 0 Q (F0 m 9 ls []) := by
  induction n with
  | zero => intro x0 x2 x3 S H locs ls hf; cases hf
  | succ n ih => intro x0 x2 x3 S H locs ls hf hM hl; exact ws_X2_readDigits_9 X hret (self9 := f_X2_readDigits_9 n) ih hf hM hl
def f_X2_readDigits_0 (x0 : Nat) (x1 : Int32) (S : ZS) : Option (Int32 × ZS) :=
  m_chk (x0 ∈ zL S ∧ zK S x0 = 2) (
  m_bnd ((zI S 4 x0) + x1) (fun v1 =>
  f_X2_readDigits_9 mFuel x0 v1 (0 : Int32) S))

set_option maxRecDepth 100000 in
set_option maxHeartbeats 4000000 in
theorem w_X2_readDigits_0 {p : Program} {l : Launch} {e : Env} {s : State} {m : MethodId} {args : Array Value} {below : List Frame} {meth : Method} {c : Code} {Q : State → Prop} {D : va_G} {y : Nat → ClassId} {A0 : Nat → Prop} {o : Int32 × ZS} (X : CallFix p m c cX2_readDigits 4 s args wsX2_readDigits RX2) (hret : zRi p l e ({ frames := 1, cells := 0, slots := 0, locals := 21 } : Room) s m args below meth c Q cX2_readDigits D y A0 .int o) {x0 : Nat} {x1 : Int32} {S : ZS} {H : Heap} {locs : List Loc} {ls : Array Slot} (hf : f_X2_readDigits_0 x0 x1 S = some o) (hM : zH D y A0 s H locs S) (hl : lv_has ls 4 [(0, .ref x0), (1, .int x1)]) : W p l e ({ frames := 1, cells := 0, slots := 0, locals := 21 } : Room) s m args below meth c H locs 0 0 Q (F0 m 0 ls []) := by
  obtain ⟨hx, hb, hml, hown, hts⟩ := id X
  unfold f_X2_readDigits_0 at hf
  refine lv_aload_n hx hb dX2_readDigits_0 rfl (lv_at hl 0 rfl) ?_
  obtain ⟨ca, hf⟩ := m_chkE hf
  refine z_get (k := 2) (j := 4) (C := RX2) (T := TX2) (N := 12) (fl := zf_2) (v := .int (zI S 4 x0)) X hw_X2_readDigits_2 hM rfl zc_2 ca (by decide) fl_X2_readDigits_2_4 rfl dX2_readDigits_1 ?_
  clear ca
  refine lv_iload_n hx hb dX2_readDigits_4 rfl (lv_at hl 1 rfl) ?_
  refine lv_iadd hx hb dX2_readDigits_5 ?_
  obtain ⟨v1, ev, hf⟩ := m_bndE hf
  refine m_top ev ?_
  clear ev
  refine lv_istore_n (lv' := [(2, .int v1), (0, .ref x0), (1, .int x1)]) hx hb dX2_readDigits_6 rfl hl (by decide) rfl (fun ls hl => ?_)
  refine lv_iconst (v := (0 : Int32)) hx hb dX2_readDigits_7 (by decide) ?_
  refine lv_istore_n (lv' := [(3, .int (0 : Int32)), (2, .int v1), (0, .ref x0), (1, .int x1)]) hx hb dX2_readDigits_8 rfl hl (by decide) rfl (fun ls hl => ?_)
  exact w_X2_readDigits_9 X hret _ x0 v1 (0 : Int32) _ _ _ _ hf hM (lv_sub hl [2, 1, 0] rfl)
def f_X2_readDigits (x0 : Nat) (x1 : Int32) (S : ZS) : Option (Int32 × ZS) := f_X2_readDigits_0 x0 x1 S
theorem c_X2_readDigits {l : Launch} {D : va_G} {y : Nat → ClassId} {x0 : Nat} {x1 : Int32} {S : ZS} {o : Int32 × ZS} (hf : f_X2_readDigits x0 x1 S = some o) : zMi l yX2_readDigits wsX2_readDigits ({ frames := 1, cells := 0, slots := 0, locals := 21 } : Room) [.ref x0, .int x1] D y S o :=
  z_entryI (own := RX2) (cc := cX2_readDigits) (maxL := 4) (by decide) rfl rfl (Nat.le_of_ble_eq_true rfl) (fun p e s m args below meth c A0 Q H locs ls X hret hM hl => w_X2_readDigits_0 X hret hf hM (lv_sub hl [0, 1] rfl))
theorem hd_X2_readDigits : yX2_readDigits.cls = RX2 ∧ yX2_readDigits.cls ≠ "java/lang/invoke/MethodHandle" ∧ yX2_readDigits.cls ≠ "java/lang/invoke/VarHandle" ∧ (parseMethodDescriptor yX2_readDigits.desc).map (fun d => d.parameters.length) = some 1 := by decide +kernel
theorem fl_X2_readNumber_2_2 : Cond.fieldLink RX2 28 "MoveTexts$GameReader" "text" "LMoveTexts$Row;" ∈ wsX2_readNumber := by decide +kernel
theorem fl_X2_readNumber_2_4 : Cond.fieldLink RX2 39 "MoveTexts$GameReader" "at" "I" ∈ wsX2_readNumber := by decide +kernel
theorem hw_X2_readNumber_2 : ∀ w ∈ wsX20, w ∈ wsX2_readNumber := by decide +kernel
def f_X2_readNumber_78 (t0 : Int32) (S : ZS) : Option (Int32 × ZS) :=
  m_chk (vp_nar .boolean t0 = t0) (some (t0, S))

set_option maxRecDepth 100000 in
set_option maxHeartbeats 4000000 in
theorem w_X2_readNumber_78 {p : Program} {l : Launch} {e : Env} {s : State} {m : MethodId} {args : Array Value} {below : List Frame} {meth : Method} {c : Code} {Q : State → Prop} {D : va_G} {y : Nat → ClassId} {A0 : Nat → Prop} {o : Int32 × ZS} (X : CallFix p m c cX2_readNumber 4 s args wsX2_readNumber RX2) (hret : zRi p l e ({ frames := 2, cells := 0, slots := 0, locals := 44 } : Room) s m args below meth c Q cX2_readNumber D y A0 .boolean o) {t0 : Int32} {S : ZS} {H : Heap} {locs : List Loc} {ls : Array Slot} (hf : f_X2_readNumber_78 t0 S = some o) (hM : zH D y A0 s H locs S) (hl : lv_has ls 4 []) : W p l e ({ frames := 2, cells := 0, slots := 0, locals := 44 } : Room) s m args below meth c H locs 0 0 Q (F0 m 78 ls [.int t0]) := by
  obtain ⟨hx, hb, hml, hown, hts⟩ := id X
  unfold f_X2_readNumber_78 at hf
  obtain ⟨cd, hf⟩ := m_chkE hf
  cases hf
  exact hret H locs _ ls hM (m_nb cd) dX2_readNumber_78
def f_X2_readNumber_73 (S : ZS) : Option (Int32 × ZS) :=
  f_X2_readNumber_78 (1 : Int32) S

set_option maxRecDepth 100000 in
set_option maxHeartbeats 4000000 in
theorem w_X2_readNumber_73 {p : Program} {l : Launch} {e : Env} {s : State} {m : MethodId} {args : Array Value} {below : List Frame} {meth : Method} {c : Code} {Q : State → Prop} {D : va_G} {y : Nat → ClassId} {A0 : Nat → Prop} {o : Int32 × ZS} (X : CallFix p m c cX2_readNumber 4 s args wsX2_readNumber RX2) (hret : zRi p l e ({ frames := 2, cells := 0, slots := 0, locals := 44 } : Room) s m args below meth c Q cX2_readNumber D y A0 .boolean o) {S : ZS} {H : Heap} {locs : List Loc} {ls : Array Slot} (hf : f_X2_readNumber_73  S = some o) (hM : zH D y A0 s H locs S) (hl : lv_has ls 4 []) : W p l e ({ frames := 2, cells := 0, slots := 0, locals := 44 } : Room) s m args below meth c H locs 0 0 Q (F0 m 73 ls []) := by
  obtain ⟨hx, hb, hml, hown, hts⟩ := id X
  unfold f_X2_readNumber_73 at hf
  refine lv_iconst (v := (1 : Int32)) hx hb dX2_readNumber_73 (by decide) ?_
  refine lv_goto (tgt := 78) hx hb dX2_readNumber_74 (by decide) ?_
  exact w_X2_readNumber_78 (t0 := (1 : Int32)) X hret hf hM (lv_sub hl [] rfl)
def f_X2_readNumber_54 (x0 : Nat) (x1 : Int32) (x2 : Int32) (x3 : Int32) (S : ZS) : Option (Int32 × ZS) :=
  m_chk (x0 ∈ zL S ∧ zK S x0 = 2) (
  m_cal (f_X2_skipBlanks x0 S) (fun o1 =>
  m_if (x3 = x1) (
  f_X2_readNumber_73  o1.2
  ) (
  m_chk (x0 ∈ zL o1.2 ∧ zK o1.2 x0 = 2) (
  m_cal (f_X2_refuse x0 (7 : Int32) x2 o1.2) (fun o2 =>
  m_if (o2.1 = 0) (
  f_X2_readNumber_78 (0 : Int32) o2.2
  ) (
  f_X2_readNumber_73  o2.2
  )))
  )))

set_option maxRecDepth 100000 in
set_option maxHeartbeats 4000000 in
theorem w_X2_readNumber_54 {p : Program} {l : Launch} {e : Env} {s : State} {m : MethodId} {args : Array Value} {below : List Frame} {meth : Method} {c : Code} {Q : State → Prop} {D : va_G} {y : Nat → ClassId} {A0 : Nat → Prop} {o : Int32 × ZS} (X : CallFix p m c cX2_readNumber 4 s args wsX2_readNumber RX2) (hret : zRi p l e ({ frames := 2, cells := 0, slots := 0, locals := 44 } : Room) s m args below meth c Q cX2_readNumber D y A0 .boolean o) {x0 : Nat} {x1 : Int32} {x2 : Int32} {x3 : Int32} {S : ZS} {H : Heap} {locs : List Loc} {ls : Array Slot} (hf : f_X2_readNumber_54 x0 x1 x2 x3 S = some o) (hM : zH D y A0 s H locs S) (hl : lv_has ls 4 [(0, .ref x0), (1, .int x1), (2, .int x2), (3, .int x3)]) : W p l e ({ frames := 2, cells := 0, slots := 0, locals := 44 } : Room) s m args below meth c H locs 0 0 Q (F0 m 54 ls []) := by
  obtain ⟨hx, hb, hml, hown, hts⟩ := id X
  unfold f_X2_readNumber_54 at hf
  refine lv_aload_n hx hb dX2_readNumber_54 rfl (lv_at hl 0 rfl) ?_
  obtain ⟨ca, hf⟩ := m_chkE hf
  obtain ⟨o1, ho, hf⟩ := m_calE hf
  refine z_callVv (k := 2) (C := RX2) (T := TX2) (N := 12) (fl := zf_2) X hM rfl zc_2 ca (c_X2_skipBlanks ho) gX2_readNumber_X2_skipBlanks rfl ⟨rfl, rfl⟩ hd_X2_skipBlanks ⟨Nat.le_of_ble_eq_true rfl, Nat.le_of_ble_eq_true rfl⟩ rfl hl.1 rfl (Nat.le_of_ble_eq_true rfl) dX2_readNumber_55 (fun H locs hM => ?_)
  clear ho
  refine lv_iload_n hx hb dX2_readNumber_58 rfl (lv_at hl 3 rfl) ?_
  refine lv_iload_n hx hb dX2_readNumber_59 rfl (lv_at hl 1 rfl) ?_
  refine lv_icmp_eq (tgt := 73) hx hb dX2_readNumber_60 (by decide) (fun cc1 => ?_) (fun cc1 => ?_)
  · replace hf := m_ifT hf cc1
    exact w_X2_readNumber_73 X hret hf hM (lv_sub hl [] rfl)
  · replace hf := m_ifF hf cc1
    refine lv_aload_n hx hb dX2_readNumber_63 rfl (lv_at hl 0 rfl) ?_
    refine lv_bipush (v := (7 : Int32)) hx hb dX2_readNumber_64 (by decide) ?_
    refine lv_iload_n hx hb dX2_readNumber_66 rfl (lv_at hl 2 rfl) ?_
    obtain ⟨ca, hf⟩ := m_chkE hf
    obtain ⟨o2, ho, hf⟩ := m_calE hf
    refine z_callVi (k := 2) (C := RX2) (T := TX2) (N := 12) (fl := zf_2) X hM rfl zc_2 ca (c_X2_refuse ho) gX2_readNumber_X2_refuse rfl ⟨rfl, rfl⟩ hd_X2_refuse ⟨Nat.le_of_ble_eq_true rfl, Nat.le_of_ble_eq_true rfl⟩ rfl hl.1 rfl (Nat.le_of_ble_eq_true rfl) dX2_readNumber_67 (fun H locs hM => ?_)
    clear ho
    refine lv_if_eq (tgt := 77) hx hb dX2_readNumber_70 (by decide) (fun cc1 => ?_) (fun cc1 => ?_)
    · replace hf := m_ifT hf cc1
      refine lv_iconst (v := (0 : Int32)) hx hb dX2_readNumber_77 (by decide) ?_
      exact w_X2_readNumber_78 (t0 := (0 : Int32)) X hret hf hM (lv_sub hl [] rfl)
    · replace hf := m_ifF hf cc1
      exact w_X2_readNumber_73 X hret hf hM (lv_sub hl [] rfl)
def f_X2_readNumber_11s (self11 : Nat → Int32 → Int32 → Int32 → ZS → Option (Int32 × ZS)) (x0 : Nat) (x1 : Int32) (x2 : Int32) (x3 : Int32) (S : ZS) : Option (Int32 × ZS) :=
  m_chk (x0 ∈ zL S ∧ zK S x0 = 2) (
  m_chk (x0 ∈ zL S ∧ zK S x0 = 2) (
  m_cal (zP S 2 x0) (fun b1 =>
  m_chk (b1 ∈ zL S ∧ zK S b1 = 6) (
  m_cal (f_X6_size b1 S) (fun o2 =>
  m_if (o2.1 ≤ (zI S 4 x0)) (
  f_X2_readNumber_54 x0 x1 x2 x3 o2.2
  ) (
  m_chk (x0 ∈ zL o2.2 ∧ zK o2.2 x0 = 2) (
  m_cal (zP o2.2 2 x0) (fun b3 =>
  m_chk (x0 ∈ zL o2.2 ∧ zK o2.2 x0 = 2) (
  m_chk (b3 ∈ zL o2.2 ∧ zK o2.2 b3 = 6) (
  m_cal (f_X6_at b3 (zI o2.2 4 x0) o2.2) (fun o4 =>
  m_if (o4.1 = (46 : Int32)) (
  m_chk (x0 ∈ zL o4.2 ∧ zK o4.2 x0 = 2) (
  m_bnd ((zI o4.2 4 x0) + (1 : Int32)) (fun v5 =>
  m_chk (x0 ∈ zL o4.2 ∧ zK o4.2 x0 = 2) (
  m_bnd (zsI o4.2 4 x0 v5) (fun S6 =>
  self11 x0 x1 x2 x3 S6))))
  ) (
  f_X2_readNumber_54 x0 x1 x2 x3 o4.2
  ))))))
  ))))))

set_option maxRecDepth 100000 in
set_option maxHeartbeats 4000000 in
theorem ws_X2_readNumber_11 {p : Program} {l : Launch} {e : Env} {s : State} {m : MethodId} {args : Array Value} {below : List Frame} {meth : Method} {c : Code} {Q : State → Prop} {D : va_G} {y : Nat → ClassId} {A0 : Nat → Prop} {o : Int32 × ZS} (X : CallFix p m c cX2_readNumber 4 s args wsX2_readNumber RX2) (hret : zRi p l e ({ frames := 2, cells := 0, slots := 0, locals := 44 } : Room) s m args below meth c Q cX2_readNumber D y A0 .boolean o) {self11 : Nat → Int32 → Int32 → Int32 → ZS → Option (Int32 × ZS)} (hself11 : ∀ (x0 : Nat) (x1 : Int32) (x2 : Int32) (x3 : Int32) (S : ZS) (H : Heap) (locs : List Loc) (ls : Array Slot), self11 x0 x1 x2 x3 S = some o → zH D y A0 s H locs S → lv_has ls 4 [(0, .ref x0), (1, .int x1), (2, .int x2), (3, .int x3)] → W p l e ({ frames := 2, cells := 0, slots := 0, locals := 44 } : Room) s m args below meth c H locs 0 0 Q (F0 m 11 ls [])) {x0 : Nat} {x1 : Int32} {x2 : Int32} {x3 : Int32} {S : ZS} {H : Heap} {locs : List Loc} {ls : Array Slot} (hf : f_X2_readNumber_11s self11 x0 x1 x2 x3 S = some o) (hM : zH D y A0 s H locs S) (hl : lv_has ls 4 [(0, .ref x0), (1, .int x1), (2, .int x2), (3, .int x3)]) : W p l e ({ frames := 2, cells := 0, slots := 0, locals := 44 } : Room) s m args below meth c H locs 0 0 Q (F0 m 11 ls []) := by
  obtain ⟨hx, hb, hml, hown, hts⟩ := id X
  unfold f_X2_readNumber_11s at hf
  refine lv_aload_n hx hb dX2_readNumber_11 rfl (lv_at hl 0 rfl) ?_
  obtain ⟨ca, hf⟩ := m_chkE hf
  refine z_get (k := 2) (j := 4) (C := RX2) (T := TX2) (N := 12) (fl := zf_2) (v := .int (zI S 4 x0)) X hw_X2_readNumber_2 hM rfl zc_2 ca (by decide) fl_X2_readNumber_2_4 rfl dX2_readNumber_12 ?_
  clear ca
  refine lv_aload_n hx hb dX2_readNumber_15 rfl (lv_at hl 0 rfl) ?_
  obtain ⟨ca, hf⟩ := m_chkE hf
  refine z_get (k := 2) (j := 2) (C := RX2) (T := TX2) (N := 12) (fl := zf_2) (v := va_rf (zP S 2 x0)) X hw_X2_readNumber_2 hM rfl zc_2 ca (by decide) fl_X2_readNumber_2_2 rfl dX2_readNumber_16 ?_
  clear ca
  obtain ⟨b1, hb9, hf⟩ := m_calE hf
  refine z_topr hb9 ?_
  clear hb9
  obtain ⟨ca, hf⟩ := m_chkE hf
  obtain ⟨o2, ho, hf⟩ := m_calE hf
  refine z_callVi (k := 6) (C := RX6) (T := TX6) (N := 2) (fl := zf_6) X hM rfl zc_6 ca (c_X6_size ho) gX2_readNumber_X6_size rfl ⟨rfl, rfl⟩ hd_X6_size ⟨Nat.le_of_ble_eq_true rfl, Nat.le_of_ble_eq_true rfl⟩ rfl hl.1 rfl (Nat.le_of_ble_eq_true rfl) dX2_readNumber_19 (fun H locs hM => ?_)
  clear ho
  refine lv_icmp_ge (tgt := 54) hx hb dX2_readNumber_22 (by decide) (fun cc1 => ?_) (fun cc1 => ?_)
  · replace hf := m_ifT hf cc1
    exact w_X2_readNumber_54 (x0 := x0) (x1 := x1) (x2 := x2) (x3 := x3) X hret hf hM (lv_sub hl [0, 1, 2, 3] rfl)
  · replace hf := m_ifF hf cc1
    refine lv_aload_n hx hb dX2_readNumber_25 rfl (lv_at hl 0 rfl) ?_
    obtain ⟨ca, hf⟩ := m_chkE hf
    refine z_get (k := 2) (j := 2) (C := RX2) (T := TX2) (N := 12) (fl := zf_2) (v := va_rf (zP o2.2 2 x0)) X hw_X2_readNumber_2 hM rfl zc_2 ca (by decide) fl_X2_readNumber_2_2 rfl dX2_readNumber_26 ?_
    clear ca
    obtain ⟨b3, hb9, hf⟩ := m_calE hf
    refine z_topr hb9 ?_
    clear hb9
    refine lv_aload_n hx hb dX2_readNumber_29 rfl (lv_at hl 0 rfl) ?_
    obtain ⟨ca, hf⟩ := m_chkE hf
    refine z_get (k := 2) (j := 4) (C := RX2) (T := TX2) (N := 12) (fl := zf_2) (v := .int (zI o2.2 4 x0)) X hw_X2_readNumber_2 hM rfl zc_2 ca (by decide) fl_X2_readNumber_2_4 rfl dX2_readNumber_30 ?_
    clear ca
    obtain ⟨ca, hf⟩ := m_chkE hf
    obtain ⟨o4, ho, hf⟩ := m_calE hf
    refine z_callVi (k := 6) (C := RX6) (T := TX6) (N := 2) (fl := zf_6) X hM rfl zc_6 ca (c_X6_at ho) gX2_readNumber_X6_at rfl ⟨rfl, rfl⟩ hd_X6_at ⟨Nat.le_of_ble_eq_true rfl, Nat.le_of_ble_eq_true rfl⟩ rfl hl.1 rfl (Nat.le_of_ble_eq_true rfl) dX2_readNumber_33 (fun H locs hM => ?_)
    clear ho
    refine lv_bipush (v := (46 : Int32)) hx hb dX2_readNumber_36 (by decide) ?_
    refine lv_icmp_ne (tgt := 54) hx hb dX2_readNumber_38 (by decide) (fun cc1 => ?_) (fun cc1 => ?_)
    · replace hf := m_ifF hf cc1
      exact w_X2_readNumber_54 (x0 := x0) (x1 := x1) (x2 := x2) (x3 := x3) X hret hf hM (lv_sub hl [0, 1, 2, 3] rfl)
    · replace hf := m_ifT hf cc1
      refine lv_aload_n hx hb dX2_readNumber_41 rfl (lv_at hl 0 rfl) ?_
      refine lv_dup hx hb dX2_readNumber_42 rfl ?_
      obtain ⟨ca, hf⟩ := m_chkE hf
      refine z_get (k := 2) (j := 4) (C := RX2) (T := TX2) (N := 12) (fl := zf_2) (v := .int (zI o4.2 4 x0)) X hw_X2_readNumber_2 hM rfl zc_2 ca (by decide) fl_X2_readNumber_2_4 rfl dX2_readNumber_43 ?_
      clear ca
      refine lv_iconst (v := (1 : Int32)) hx hb dX2_readNumber_46 (by decide) ?_
      refine lv_iadd hx hb dX2_readNumber_47 ?_
      obtain ⟨v5, ev, hf⟩ := m_bndE hf
      refine m_top ev ?_
      clear ev
      obtain ⟨ca, hf⟩ := m_chkE hf
      refine z_putI (k := 2) (j := 4) (C := RX2) (T := TX2) (N := 12) (fl := zf_2) (ty := .int) X hw_X2_readNumber_2 tyX2_ok nmX2 hM rfl zc_2 ca (by decide) fl_X2_readNumber_2_4 rfl (tyX2_ok 4 (by decide)) rfl rfl zi_2_4 (Nat.le_of_ble_eq_true rfl) dX2_readNumber_48 (fun H locs hM => ?_)
      clear ca
      obtain ⟨S6, ev, hf⟩ := m_bndE hf
      replace hM := z_hS hM ev
      clear ev
      refine lv_goto (tgt := 11) hx hb dX2_readNumber_51 (by decide) ?_
      exact hself11 x0 x1 x2 x3 _ _ _ _ hf hM (lv_sub hl [0, 1, 2, 3] rfl)
def f_X2_readNumber_11 : Nat → Nat → Int32 → Int32 → Int32 → ZS → Option (Int32 × ZS)
  | 0 => fun _ _ _ _ _ => none
  | n + 1 => f_X2_readNumber_11s (f_X2_readNumber_11 n)
theorem w_X2_readNumber_11 {p : Program} {l : Launch} {e : Env} {s : State} {m : MethodId} {args : Array Value} {below : List Frame} {meth : Method} {c : Code} {Q : State → Prop} {D : va_G} {y : Nat → ClassId} {A0 : Nat → Prop} {o : Int32 × ZS} (X : CallFix p m c cX2_readNumber 4 s args wsX2_readNumber RX2) (hret : zRi p l e ({ frames := 2, cells := 0, slots := 0, locals := 44 } : Room) s m args below meth c Q cX2_readNumber D y A0 .boolean o) (n : Nat) : ∀ (x0 : Nat) (x1 : Int32) (x2 : Int32) (x3 : Int32) (S : ZS) (H : Heap) (locs : List Loc) (ls : Array Slot), f_X2_readNumber_11 n x0 x1 x2 x3 S = some o → zH D y A0 s H locs S → lv_has ls 4 [(0, .ref x0), (1, .int x1), (2, .int x2), (3, .int x3)] → W p l e ({ frames := 2, cells := 0, slots := 0, locals := 44 } : Room) s m args below meth c H locs 0 0 Q (F0 m 11 ls []) := by
  induction n with
  | zero => intro x0 x1 x2 x3 S H locs ls hf; cases hf
  | succ n ih => intro x0 x1 x2 x3 S H locs ls hf hM hl; exact ws_X2_readNumber_11 X hret (self11 := f_X2_readNumber_11 n) ih hf hM hl
def f_X2_readNumber_0 (x0 : Nat) (x1 : Int32) (S : ZS) : Option (Int32 × ZS) :=
  m_chk (x0 ∈ zL S ∧ zK S x0 = 2) (
  m_chk (x0 ∈ zL S ∧ zK S x0 = 2) (
  m_cal (f_X2_readDigits x0 (4 : Int32) S) (fun o1 =>
  f_X2_readNumber_11 mFuel x0 x1 (zI S 4 x0) o1.1 o1.2)))

set_option maxRecDepth 100000 in
set_option maxHeartbeats 4000000 in
theorem w_X2_readNumber_0 {p : Program} {l : Launch} {e : Env} {s : State} {m : MethodId} {args : Array Value} {below : List Frame} {meth : Method} {c : Code} {Q : State → Prop} {D : va_G} {y : Nat → ClassId} {A0 : Nat → Prop} {o : Int32 × ZS} (X : CallFix p m c cX2_readNumber 4 s args wsX2_readNumber RX2) (hret : zRi p l e ({ frames := 2, cells := 0, slots := 0, locals := 44 } : Room) s m args below meth c Q cX2_readNumber D y A0 .boolean o) {x0 : Nat} {x1 : Int32} {S : ZS} {H : Heap} {locs : List Loc} {ls : Array Slot} (hf : f_X2_readNumber_0 x0 x1 S = some o) (hM : zH D y A0 s H locs S) (hl : lv_has ls 4 [(0, .ref x0), (1, .int x1)]) : W p l e ({ frames := 2, cells := 0, slots := 0, locals := 44 } : Room) s m args below meth c H locs 0 0 Q (F0 m 0 ls []) := by
  obtain ⟨hx, hb, hml, hown, hts⟩ := id X
  unfold f_X2_readNumber_0 at hf
  refine lv_aload_n hx hb dX2_readNumber_0 rfl (lv_at hl 0 rfl) ?_
  obtain ⟨ca, hf⟩ := m_chkE hf
  refine z_get (k := 2) (j := 4) (C := RX2) (T := TX2) (N := 12) (fl := zf_2) (v := .int (zI S 4 x0)) X hw_X2_readNumber_2 hM rfl zc_2 ca (by decide) fl_X2_readNumber_2_4 rfl dX2_readNumber_1 ?_
  clear ca
  refine lv_istore_n (lv' := [(2, .int (zI S 4 x0)), (0, .ref x0), (1, .int x1)]) hx hb dX2_readNumber_4 rfl hl (by decide) rfl (fun ls hl => ?_)
  refine lv_aload_n hx hb dX2_readNumber_5 rfl (lv_at hl 1 rfl) ?_
  refine lv_iconst (v := (4 : Int32)) hx hb dX2_readNumber_6 (by decide) ?_
  obtain ⟨ca, hf⟩ := m_chkE hf
  obtain ⟨o1, ho, hf⟩ := m_calE hf
  refine z_callVi (k := 2) (C := RX2) (T := TX2) (N := 12) (fl := zf_2) X hM rfl zc_2 ca (c_X2_readDigits ho) gX2_readNumber_X2_readDigits rfl ⟨rfl, rfl⟩ hd_X2_readDigits ⟨Nat.le_of_ble_eq_true rfl, Nat.le_of_ble_eq_true rfl⟩ rfl hl.1 rfl (Nat.le_of_ble_eq_true rfl) dX2_readNumber_7 (fun H locs hM => ?_)
  clear ho
  refine lv_istore_n (lv' := [(3, .int o1.1), (2, .int (zI S 4 x0)), (0, .ref x0), (1, .int x1)]) hx hb dX2_readNumber_10 rfl hl (by decide) rfl (fun ls hl => ?_)
  exact w_X2_readNumber_11 X hret _ x0 x1 (zI S 4 x0) o1.1 _ _ _ _ hf hM (lv_sub hl [2, 3, 1, 0] rfl)
def f_X2_readNumber (x0 : Nat) (x1 : Int32) (S : ZS) : Option (Int32 × ZS) := f_X2_readNumber_0 x0 x1 S
theorem c_X2_readNumber {l : Launch} {D : va_G} {y : Nat → ClassId} {x0 : Nat} {x1 : Int32} {S : ZS} {o : Int32 × ZS} (hf : f_X2_readNumber x0 x1 S = some o) : zMi l yX2_readNumber wsX2_readNumber ({ frames := 2, cells := 0, slots := 0, locals := 44 } : Room) [.ref x0, .int x1] D y S o :=
  z_entryI (own := RX2) (cc := cX2_readNumber) (maxL := 4) (by decide) rfl rfl (Nat.le_of_ble_eq_true rfl) (fun p e s m args below meth c A0 Q H locs ls X hret hM hl => w_X2_readNumber_0 X hret hf hM (lv_sub hl [0, 1] rfl))
theorem hd_X2_readNumber : yX2_readNumber.cls = RX2 ∧ yX2_readNumber.cls ≠ "java/lang/invoke/MethodHandle" ∧ yX2_readNumber.cls ≠ "java/lang/invoke/VarHandle" ∧ (parseMethodDescriptor yX2_readNumber.desc).map (fun d => d.parameters.length) = some 1 := by decide +kernel
theorem nn_X2_isSign_132 : ((RX2, 132, yX11_isLetter, "MoveTexts") ∈ zNW ∧ Cond.initialized yX11_isLetter.cls ∈ wsX2_isSign) ∧ Cond.static yX11_isLetter ∈ wsX2_isSign := by decide +kernel
theorem nn_X2_isSign_136 : ((RX2, 136, yX11_isDigit, "MoveTexts") ∈ zNW ∧ Cond.initialized yX11_isDigit.cls ∈ wsX2_isSign) ∧ Cond.static yX11_isDigit ∈ wsX2_isSign := by decide +kernel
def f_X2_isSign_43 (t0 : Int32) (S : ZS) : Option (Int32 × ZS) :=
  m_chk (vp_nar .boolean t0 = t0) (some (t0, S))

set_option maxRecDepth 100000 in
set_option maxHeartbeats 4000000 in
theorem w_X2_isSign_43 {p : Program} {l : Launch} {e : Env} {s : State} {m : MethodId} {args : Array Value} {below : List Frame} {meth : Method} {c : Code} {Q : State → Prop} {D : va_G} {y : Nat → ClassId} {A0 : Nat → Prop} {o : Int32 × ZS} (X : CallFix p m c cX2_isSign 1 s args wsX2_isSign RX2) (hret : zRi p l e ({ frames := 1, cells := 0, slots := 0, locals := 20 } : Room) s m args below meth c Q cX2_isSign D y A0 .boolean o) {t0 : Int32} {S : ZS} {H : Heap} {locs : List Loc} {ls : Array Slot} (hf : f_X2_isSign_43 t0 S = some o) (hM : zH D y A0 s H locs S) (hl : lv_has ls 1 []) : W p l e ({ frames := 1, cells := 0, slots := 0, locals := 20 } : Room) s m args below meth c H locs 0 0 Q (F0 m 43 ls [.int t0]) := by
  obtain ⟨hx, hb, hml, hown, hts⟩ := id X
  unfold f_X2_isSign_43 at hf
  obtain ⟨cd, hf⟩ := m_chkE hf
  cases hf
  exact hret H locs _ ls hM (m_nb cd) dX2_isSign_43
def f_X2_isSign_38 (S : ZS) : Option (Int32 × ZS) :=
  f_X2_isSign_43 (1 : Int32) S

set_option maxRecDepth 100000 in
set_option maxHeartbeats 4000000 in
theorem w_X2_isSign_38 {p : Program} {l : Launch} {e : Env} {s : State} {m : MethodId} {args : Array Value} {below : List Frame} {meth : Method} {c : Code} {Q : State → Prop} {D : va_G} {y : Nat → ClassId} {A0 : Nat → Prop} {o : Int32 × ZS} (X : CallFix p m c cX2_isSign 1 s args wsX2_isSign RX2) (hret : zRi p l e ({ frames := 1, cells := 0, slots := 0, locals := 20 } : Room) s m args below meth c Q cX2_isSign D y A0 .boolean o) {S : ZS} {H : Heap} {locs : List Loc} {ls : Array Slot} (hf : f_X2_isSign_38  S = some o) (hM : zH D y A0 s H locs S) (hl : lv_has ls 1 []) : W p l e ({ frames := 1, cells := 0, slots := 0, locals := 20 } : Room) s m args below meth c H locs 0 0 Q (F0 m 38 ls []) := by
  obtain ⟨hx, hb, hml, hown, hts⟩ := id X
  unfold f_X2_isSign_38 at hf
  refine lv_iconst (v := (1 : Int32)) hx hb dX2_isSign_38 (by decide) ?_
  refine lv_goto (tgt := 43) hx hb dX2_isSign_39 (by decide) ?_
  exact w_X2_isSign_43 (t0 := (1 : Int32)) X hret hf hM (lv_sub hl [] rfl)
def f_X2_isSign_0 (x0 : Int32) (S : ZS) : Option (Int32 × ZS) :=
  m_cal (f_X11_isLetter x0 S) (fun o1 =>
  m_if (o1.1 = 0) (
  m_cal (f_X11_isDigit x0 o1.2) (fun o2 =>
  m_if (o2.1 = 0) (
  m_if (x0 = (61 : Int32)) (
  f_X2_isSign_38  o2.2
  ) (
  m_if (x0 = (45 : Int32)) (
  f_X2_isSign_38  o2.2
  ) (
  m_if (x0 = (43 : Int32)) (
  f_X2_isSign_38  o2.2
  ) (
  m_if (x0 = (35 : Int32)) (
  f_X2_isSign_38  o2.2
  ) (
  f_X2_isSign_43 (0 : Int32) o2.2
  )
  )
  )
  )
  ) (
  f_X2_isSign_38  o2.2
  ))
  ) (
  f_X2_isSign_38  o1.2
  ))

set_option maxRecDepth 100000 in
set_option maxHeartbeats 4000000 in
theorem w_X2_isSign_0 {p : Program} {l : Launch} {e : Env} {s : State} {m : MethodId} {args : Array Value} {below : List Frame} {meth : Method} {c : Code} {Q : State → Prop} {D : va_G} {y : Nat → ClassId} {A0 : Nat → Prop} {o : Int32 × ZS} (X : CallFix p m c cX2_isSign 1 s args wsX2_isSign RX2) (hret : zRi p l e ({ frames := 1, cells := 0, slots := 0, locals := 20 } : Room) s m args below meth c Q cX2_isSign D y A0 .boolean o) {x0 : Int32} {S : ZS} {H : Heap} {locs : List Loc} {ls : Array Slot} (hf : f_X2_isSign_0 x0 S = some o) (hM : zH D y A0 s H locs S) (hl : lv_has ls 1 [(0, .int x0)]) : W p l e ({ frames := 1, cells := 0, slots := 0, locals := 20 } : Room) s m args below meth c H locs 0 0 Q (F0 m 0 ls []) := by
  obtain ⟨hx, hb, hml, hown, hts⟩ := id X
  unfold f_X2_isSign_0 at hf
  refine lv_iload_n hx hb dX2_isSign_0 rfl (lv_at hl 0 rfl) ?_
  obtain ⟨o1, ho, hf⟩ := m_calE hf
  refine z_callSNi X hM (c_X11_isLetter ho) gX2_isSign_X11_isLetter_n132 nn_X2_isSign_132.1.1 nn_X2_isSign_132.1.2 nn_X2_isSign_132.2 rfl ⟨rfl, rfl⟩ hd_X11_isLetter ⟨Nat.le_of_ble_eq_true rfl, Nat.le_of_ble_eq_true rfl⟩ rfl hl.1 rfl (Nat.le_of_ble_eq_true rfl) dX2_isSign_1 (fun H locs hM => ?_)
  clear ho
  refine lv_if_ne (tgt := 38) hx hb dX2_isSign_4 (by decide) (fun cc1 => ?_) (fun cc1 => ?_)
  · replace hf := m_ifF hf cc1
    exact w_X2_isSign_38 X hret hf hM (lv_sub hl [] rfl)
  · replace hf := m_ifT hf cc1
    refine lv_iload_n hx hb dX2_isSign_7 rfl (lv_at hl 0 rfl) ?_
    obtain ⟨o2, ho, hf⟩ := m_calE hf
    refine z_callSNi X hM (c_X11_isDigit ho) gX2_isSign_X11_isDigit_n136 nn_X2_isSign_136.1.1 nn_X2_isSign_136.1.2 nn_X2_isSign_136.2 rfl ⟨rfl, rfl⟩ hd_X11_isDigit ⟨Nat.le_of_ble_eq_true rfl, Nat.le_of_ble_eq_true rfl⟩ rfl hl.1 rfl (Nat.le_of_ble_eq_true rfl) dX2_isSign_8 (fun H locs hM => ?_)
    clear ho
    refine lv_if_ne (tgt := 38) hx hb dX2_isSign_11 (by decide) (fun cc1 => ?_) (fun cc1 => ?_)
    · replace hf := m_ifF hf cc1
      exact w_X2_isSign_38 X hret hf hM (lv_sub hl [] rfl)
    · replace hf := m_ifT hf cc1
      refine lv_iload_n hx hb dX2_isSign_14 rfl (lv_at hl 0 rfl) ?_
      refine lv_bipush (v := (61 : Int32)) hx hb dX2_isSign_15 (by decide) ?_
      refine lv_icmp_eq (tgt := 38) hx hb dX2_isSign_17 (by decide) (fun cc1 => ?_) (fun cc1 => ?_)
      · replace hf := m_ifT hf cc1
        exact w_X2_isSign_38 X hret hf hM (lv_sub hl [] rfl)
      · replace hf := m_ifF hf cc1
        refine lv_iload_n hx hb dX2_isSign_20 rfl (lv_at hl 0 rfl) ?_
        refine lv_bipush (v := (45 : Int32)) hx hb dX2_isSign_21 (by decide) ?_
        refine lv_icmp_eq (tgt := 38) hx hb dX2_isSign_23 (by decide) (fun cc1 => ?_) (fun cc1 => ?_)
        · replace hf := m_ifT hf cc1
          exact w_X2_isSign_38 X hret hf hM (lv_sub hl [] rfl)
        · replace hf := m_ifF hf cc1
          refine lv_iload_n hx hb dX2_isSign_26 rfl (lv_at hl 0 rfl) ?_
          refine lv_bipush (v := (43 : Int32)) hx hb dX2_isSign_27 (by decide) ?_
          refine lv_icmp_eq (tgt := 38) hx hb dX2_isSign_29 (by decide) (fun cc1 => ?_) (fun cc1 => ?_)
          · replace hf := m_ifT hf cc1
            exact w_X2_isSign_38 X hret hf hM (lv_sub hl [] rfl)
          · replace hf := m_ifF hf cc1
            refine lv_iload_n hx hb dX2_isSign_32 rfl (lv_at hl 0 rfl) ?_
            refine lv_bipush (v := (35 : Int32)) hx hb dX2_isSign_33 (by decide) ?_
            refine lv_icmp_ne (tgt := 42) hx hb dX2_isSign_35 (by decide) (fun cc1 => ?_) (fun cc1 => ?_)
            · replace hf := m_ifF hf cc1
              refine lv_iconst (v := (0 : Int32)) hx hb dX2_isSign_42 (by decide) ?_
              exact w_X2_isSign_43 (t0 := (0 : Int32)) X hret hf hM (lv_sub hl [] rfl)
            · replace hf := m_ifT hf cc1
              exact w_X2_isSign_38 X hret hf hM (lv_sub hl [] rfl)
def f_X2_isSign (x0 : Int32) (S : ZS) : Option (Int32 × ZS) := f_X2_isSign_0 x0 S
theorem c_X2_isSign {l : Launch} {D : va_G} {y : Nat → ClassId} {x0 : Int32} {S : ZS} {o : Int32 × ZS} (hf : f_X2_isSign x0 S = some o) : zMi l yX2_isSign wsX2_isSign ({ frames := 1, cells := 0, slots := 0, locals := 20 } : Room) [.int x0] D y S o :=
  z_entryI (own := RX2) (cc := cX2_isSign) (maxL := 1) (by decide) rfl rfl (Nat.le_of_ble_eq_true rfl) (fun p e s m args below meth c A0 Q H locs ls X hret hM hl => w_X2_isSign_0 X hret hf hM (lv_sub hl [0] rfl))
theorem hd_X2_isSign : yX2_isSign.cls ≠ "java/lang/invoke/MethodHandle" ∧ yX2_isSign.cls ≠ "java/lang/invoke/VarHandle" ∧ (parseMethodDescriptor yX2_isSign.desc).map (fun d => d.parameters.length) = some 1 := by decide +kernel
theorem fl_X2_skipSigns_2_2 : Cond.fieldLink RX2 28 "MoveTexts$GameReader" "text" "LMoveTexts$Row;" ∈ wsX2_skipSigns := by decide +kernel
theorem fl_X2_skipSigns_2_4 : Cond.fieldLink RX2 39 "MoveTexts$GameReader" "at" "I" ∈ wsX2_skipSigns := by decide +kernel
theorem hw_X2_skipSigns_2 : ∀ w ∈ wsX20, w ∈ wsX2_skipSigns := by decide +kernel
def f_X2_skipSigns_44 (S : ZS) : Option (Int32 × ZS) :=
  some (0, S)

set_option maxRecDepth 100000 in
set_option maxHeartbeats 4000000 in
theorem w_X2_skipSigns_44 {p : Program} {l : Launch} {e : Env} {s : State} {m : MethodId} {args : Array Value} {below : List Frame} {meth : Method} {c : Code} {Q : State → Prop} {D : va_G} {y : Nat → ClassId} {A0 : Nat → Prop} {o : Int32 × ZS} (X : CallFix p m c cX2_skipSigns 1 s args wsX2_skipSigns RX2) (hret : zRv p l e ({ frames := 2, cells := 0, slots := 0, locals := 40 } : Room) s m args below meth c Q cX2_skipSigns D y A0 o) {S : ZS} {H : Heap} {locs : List Loc} {ls : Array Slot} (hf : f_X2_skipSigns_44  S = some o) (hM : zH D y A0 s H locs S) (hl : lv_has ls 1 []) : W p l e ({ frames := 2, cells := 0, slots := 0, locals := 40 } : Room) s m args below meth c H locs 0 0 Q (F0 m 44 ls []) := by
  obtain ⟨hx, hb, hml, hown, hts⟩ := id X
  unfold f_X2_skipSigns_44 at hf
  cases hf
  exact hret H locs _ ls hM dX2_skipSigns_44
def f_X2_skipSigns_0s (self0 : Nat → ZS → Option (Int32 × ZS)) (x0 : Nat) (S : ZS) : Option (Int32 × ZS) :=
  m_chk (x0 ∈ zL S ∧ zK S x0 = 2) (
  m_chk (x0 ∈ zL S ∧ zK S x0 = 2) (
  m_cal (zP S 2 x0) (fun b1 =>
  m_chk (b1 ∈ zL S ∧ zK S b1 = 6) (
  m_cal (f_X6_size b1 S) (fun o2 =>
  m_if (o2.1 ≤ (zI S 4 x0)) (
  f_X2_skipSigns_44  o2.2
  ) (
  m_chk (x0 ∈ zL o2.2 ∧ zK o2.2 x0 = 2) (
  m_cal (zP o2.2 2 x0) (fun b3 =>
  m_chk (x0 ∈ zL o2.2 ∧ zK o2.2 x0 = 2) (
  m_chk (b3 ∈ zL o2.2 ∧ zK o2.2 b3 = 6) (
  m_cal (f_X6_at b3 (zI o2.2 4 x0) o2.2) (fun o4 =>
  m_cal (f_X2_isSign o4.1 o4.2) (fun o5 =>
  m_if (o5.1 = 0) (
  f_X2_skipSigns_44  o5.2
  ) (
  m_chk (x0 ∈ zL o5.2 ∧ zK o5.2 x0 = 2) (
  m_bnd ((zI o5.2 4 x0) + (1 : Int32)) (fun v6 =>
  m_chk (x0 ∈ zL o5.2 ∧ zK o5.2 x0 = 2) (
  m_bnd (zsI o5.2 4 x0 v6) (fun S7 =>
  self0 x0 S7))))
  )))))))
  ))))))

set_option maxRecDepth 100000 in
set_option maxHeartbeats 4000000 in
theorem ws_X2_skipSigns_0 {p : Program} {l : Launch} {e : Env} {s : State} {m : MethodId} {args : Array Value} {below : List Frame} {meth : Method} {c : Code} {Q : State → Prop} {D : va_G} {y : Nat → ClassId} {A0 : Nat → Prop} {o : Int32 × ZS} (X : CallFix p m c cX2_skipSigns 1 s args wsX2_skipSigns RX2) (hret : zRv p l e ({ frames := 2, cells := 0, slots := 0, locals := 40 } : Room) s m args below meth c Q cX2_skipSigns D y A0 o) {self0 : Nat → ZS → Option (Int32 × ZS)} (hself0 : ∀ (x0 : Nat) (S : ZS) (H : Heap) (locs : List Loc) (ls : Array Slot), self0 x0 S = some o → zH D y A0 s H locs S → lv_has ls 1 [(0, .ref x0)] → W p l e ({ frames := 2, cells := 0, slots := 0, locals := 40 } : Room) s m args below meth c H locs 0 0 Q (F0 m 0 ls [])) {x0 : Nat} {S : ZS} {H : Heap} {locs : List Loc} {ls : Array Slot} (hf : f_X2_skipSigns_0s self0 x0 S = some o) (hM : zH D y A0 s H locs S) (hl : lv_has ls 1 [(0, .ref x0)]) : W p l e ({ frames := 2, cells := 0, slots := 0, locals := 40 } : Room) s m args below meth c H locs 0 0 Q (F0 m 0 ls []) := by
  obtain ⟨hx, hb, hml, hown, hts⟩ := id X
  unfold f_X2_skipSigns_0s at hf
  refine lv_aload_n hx hb dX2_skipSigns_0 rfl (lv_at hl 0 rfl) ?_
  obtain ⟨ca, hf⟩ := m_chkE hf
  refine z_get (k := 2) (j := 4) (C := RX2) (T := TX2) (N := 12) (fl := zf_2) (v := .int (zI S 4 x0)) X hw_X2_skipSigns_2 hM rfl zc_2 ca (by decide) fl_X2_skipSigns_2_4 rfl dX2_skipSigns_1 ?_
  clear ca
  refine lv_aload_n hx hb dX2_skipSigns_4 rfl (lv_at hl 0 rfl) ?_
  obtain ⟨ca, hf⟩ := m_chkE hf
  refine z_get (k := 2) (j := 2) (C := RX2) (T := TX2) (N := 12) (fl := zf_2) (v := va_rf (zP S 2 x0)) X hw_X2_skipSigns_2 hM rfl zc_2 ca (by decide) fl_X2_skipSigns_2_2 rfl dX2_skipSigns_5 ?_
  clear ca
  obtain ⟨b1, hb9, hf⟩ := m_calE hf
  refine z_topr hb9 ?_
  clear hb9
  obtain ⟨ca, hf⟩ := m_chkE hf
  obtain ⟨o2, ho, hf⟩ := m_calE hf
  refine z_callVi (k := 6) (C := RX6) (T := TX6) (N := 2) (fl := zf_6) X hM rfl zc_6 ca (c_X6_size ho) gX2_skipSigns_X6_size rfl ⟨rfl, rfl⟩ hd_X6_size ⟨Nat.le_of_ble_eq_true rfl, Nat.le_of_ble_eq_true rfl⟩ rfl hl.1 rfl (Nat.le_of_ble_eq_true rfl) dX2_skipSigns_8 (fun H locs hM => ?_)
  clear ho
  refine lv_icmp_ge (tgt := 44) hx hb dX2_skipSigns_11 (by decide) (fun cc1 => ?_) (fun cc1 => ?_)
  · replace hf := m_ifT hf cc1
    exact w_X2_skipSigns_44 X hret hf hM (lv_sub hl [] rfl)
  · replace hf := m_ifF hf cc1
    refine lv_aload_n hx hb dX2_skipSigns_14 rfl (lv_at hl 0 rfl) ?_
    obtain ⟨ca, hf⟩ := m_chkE hf
    refine z_get (k := 2) (j := 2) (C := RX2) (T := TX2) (N := 12) (fl := zf_2) (v := va_rf (zP o2.2 2 x0)) X hw_X2_skipSigns_2 hM rfl zc_2 ca (by decide) fl_X2_skipSigns_2_2 rfl dX2_skipSigns_15 ?_
    clear ca
    obtain ⟨b3, hb9, hf⟩ := m_calE hf
    refine z_topr hb9 ?_
    clear hb9
    refine lv_aload_n hx hb dX2_skipSigns_18 rfl (lv_at hl 0 rfl) ?_
    obtain ⟨ca, hf⟩ := m_chkE hf
    refine z_get (k := 2) (j := 4) (C := RX2) (T := TX2) (N := 12) (fl := zf_2) (v := .int (zI o2.2 4 x0)) X hw_X2_skipSigns_2 hM rfl zc_2 ca (by decide) fl_X2_skipSigns_2_4 rfl dX2_skipSigns_19 ?_
    clear ca
    obtain ⟨ca, hf⟩ := m_chkE hf
    obtain ⟨o4, ho, hf⟩ := m_calE hf
    refine z_callVi (k := 6) (C := RX6) (T := TX6) (N := 2) (fl := zf_6) X hM rfl zc_6 ca (c_X6_at ho) gX2_skipSigns_X6_at rfl ⟨rfl, rfl⟩ hd_X6_at ⟨Nat.le_of_ble_eq_true rfl, Nat.le_of_ble_eq_true rfl⟩ rfl hl.1 rfl (Nat.le_of_ble_eq_true rfl) dX2_skipSigns_22 (fun H locs hM => ?_)
    clear ho
    obtain ⟨o5, ho, hf⟩ := m_calE hf
    refine z_callSi X hM (c_X2_isSign ho) gX2_skipSigns_X2_isSign rfl ⟨rfl, rfl⟩ hd_X2_isSign ⟨Nat.le_of_ble_eq_true rfl, Nat.le_of_ble_eq_true rfl⟩ rfl hl.1 rfl (Nat.le_of_ble_eq_true rfl) dX2_skipSigns_25 (fun H locs hM => ?_)
    clear ho
    refine lv_if_eq (tgt := 44) hx hb dX2_skipSigns_28 (by decide) (fun cc1 => ?_) (fun cc1 => ?_)
    · replace hf := m_ifT hf cc1
      exact w_X2_skipSigns_44 X hret hf hM (lv_sub hl [] rfl)
    · replace hf := m_ifF hf cc1
      refine lv_aload_n hx hb dX2_skipSigns_31 rfl (lv_at hl 0 rfl) ?_
      refine lv_dup hx hb dX2_skipSigns_32 rfl ?_
      obtain ⟨ca, hf⟩ := m_chkE hf
      refine z_get (k := 2) (j := 4) (C := RX2) (T := TX2) (N := 12) (fl := zf_2) (v := .int (zI o5.2 4 x0)) X hw_X2_skipSigns_2 hM rfl zc_2 ca (by decide) fl_X2_skipSigns_2_4 rfl dX2_skipSigns_33 ?_
      clear ca
      refine lv_iconst (v := (1 : Int32)) hx hb dX2_skipSigns_36 (by decide) ?_
      refine lv_iadd hx hb dX2_skipSigns_37 ?_
      obtain ⟨v6, ev, hf⟩ := m_bndE hf
      refine m_top ev ?_
      clear ev
      obtain ⟨ca, hf⟩ := m_chkE hf
      refine z_putI (k := 2) (j := 4) (C := RX2) (T := TX2) (N := 12) (fl := zf_2) (ty := .int) X hw_X2_skipSigns_2 tyX2_ok nmX2 hM rfl zc_2 ca (by decide) fl_X2_skipSigns_2_4 rfl (tyX2_ok 4 (by decide)) rfl rfl zi_2_4 (Nat.le_of_ble_eq_true rfl) dX2_skipSigns_38 (fun H locs hM => ?_)
      clear ca
      obtain ⟨S7, ev, hf⟩ := m_bndE hf
      replace hM := z_hS hM ev
      clear ev
      refine lv_goto (tgt := 0) hx hb dX2_skipSigns_41 (by decide) ?_
      exact hself0 x0 _ _ _ _ hf hM (lv_sub hl [0] rfl)
def f_X2_skipSigns_0 : Nat → Nat → ZS → Option (Int32 × ZS)
  | 0 => fun _ _ => none
  | n + 1 => f_X2_skipSigns_0s (f_X2_skipSigns_0 n)
theorem w_X2_skipSigns_0 {p : Program} {l : Launch} {e : Env} {s : State} {m : MethodId} {args : Array Value} {below : List Frame} {meth : Method} {c : Code} {Q : State → Prop} {D : va_G} {y : Nat → ClassId} {A0 : Nat → Prop} {o : Int32 × ZS} (X : CallFix p m c cX2_skipSigns 1 s args wsX2_skipSigns RX2) (hret : zRv p l e ({ frames := 2, cells := 0, slots := 0, locals := 40 } : Room) s m args below meth c Q cX2_skipSigns D y A0 o) (n : Nat) : ∀ (x0 : Nat) (S : ZS) (H : Heap) (locs : List Loc) (ls : Array Slot), f_X2_skipSigns_0 n x0 S = some o → zH D y A0 s H locs S → lv_has ls 1 [(0, .ref x0)] → W p l e ({ frames := 2, cells := 0, slots := 0, locals := 40 } : Room) s m args below meth c H locs 0 0 Q (F0 m 0 ls []) := by
  induction n with
  | zero => intro x0 S H locs ls hf; cases hf
  | succ n ih => intro x0 S H locs ls hf hM hl; exact ws_X2_skipSigns_0 X hret (self0 := f_X2_skipSigns_0 n) ih hf hM hl
def f_X2_skipSigns (x0 : Nat) (S : ZS) : Option (Int32 × ZS) := f_X2_skipSigns_0 mFuel x0 S
theorem c_X2_skipSigns {l : Launch} {D : va_G} {y : Nat → ClassId} {x0 : Nat} {S : ZS} {o : Int32 × ZS} (hf : f_X2_skipSigns x0 S = some o) : zMv l yX2_skipSigns wsX2_skipSigns ({ frames := 2, cells := 0, slots := 0, locals := 40 } : Room) [.ref x0] D y S o :=
  z_entryV (own := RX2) (cc := cX2_skipSigns) (maxL := 1) (by decide) rfl rfl (Nat.le_of_ble_eq_true rfl) (fun p e s m args below meth c A0 Q H locs ls X hret hM hl => w_X2_skipSigns_0 X hret mFuel x0 S H locs ls hf hM (lv_sub hl [0] rfl))
theorem hd_X2_skipSigns : yX2_skipSigns.cls = RX2 ∧ yX2_skipSigns.cls ≠ "java/lang/invoke/MethodHandle" ∧ yX2_skipSigns.cls ≠ "java/lang/invoke/VarHandle" ∧ (parseMethodDescriptor yX2_skipSigns.desc).map (fun d => d.parameters.length) = some 0 := by decide +kernel
theorem fl_X8_copyWhole_8_1 : Cond.fieldLink RX8 21 "MoveTexts$SignReader" "row" "LMoveTexts$Row;" ∈ wsX8_copyWhole := by decide +kernel
theorem fl_X8_copyWhole_8_9 : Cond.fieldLink RX8 45 "MoveTexts$SignReader" "check" "C" ∈ wsX8_copyWhole := by decide +kernel
theorem hw_X8_copyWhole_8 : ∀ w ∈ wsX80, w ∈ wsX8_copyWhole := by decide +kernel
def g_X8_copyWhole_113 (Pw : Int32 → ZS → Prop) (S : ZS) (C T : Nat) : Prop :=
  Pw 0 S

set_option maxRecDepth 100000 in
set_option maxHeartbeats 4000000 in
theorem w_X8_copyWhole_113 {p : Program} {l : Launch} {e : Env} {s : State} {m : MethodId} {args : Array Value} {below : List Frame} {meth : Method} {c : Code} {Q : State → Prop} {D : va_G} {y : Nat → ClassId} {A0 : Nat → Prop} {kc kt : Nat} {Pw : Int32 → ZS → Prop} (X : CallFix p m c cX8_copyWhole 5 s args wsX8_copyWhole RX8) (hret : zQv p l e ({ frames := 2, cells := kc, slots := kt, locals := 82 } : Room) s m args below meth c Q cX8_copyWhole D y A0 Pw) {S : ZS} {C T : Nat} {H : Heap} {locs : List Loc} {ls : Array Slot} (hf : g_X8_copyWhole_113 Pw  S C T) (hCT : C ≤ kc ∧ T ≤ kt) (hM : zH D y A0 s H locs S) (hl : lv_has ls 5 []) : W p l e ({ frames := 2, cells := kc, slots := kt, locals := 82 } : Room) s m args below meth c H locs (kc - C) (kt - T) Q (F0 m 113 ls []) := by
  obtain ⟨hx, hb, hml, hown, hts⟩ := id X
  unfold g_X8_copyWhole_113 at hf
  exact hret _ _ _ H locs _ ls hf hM dX8_copyWhole_113
def g_X8_copyWhole_87 (Pw : Int32 → ZS → Prop) (x0 : Nat) (t0 : Int32) (t1 : Nat) (S : ZS) (C T : Nat) : Prop :=
  m_chkP (t1 ∈ zL S ∧ zK S t1 = 8) (
  m_chkP (vp_nar .char t0 = t0 ∧ fits .char (.int t0) = true) (
  m_bndP (zsI S 9 t1 t0) (fun S1 =>
  m_chkP (x0 ∈ zL S1 ∧ zK S1 x0 = 8) (
  m_ifP ((zI S1 9 x0) = 0) (
  g_X8_copyWhole_113 Pw  S1 (C) (T)
  ) (
  m_chkP (x0 ∈ zL S1 ∧ zK S1 x0 = 8) (
  m_calP (zP S1 1 x0) (fun b2 =>
  m_chkP (x0 ∈ zL S1 ∧ zK S1 x0 = 8) (
  m_calP (zP S1 1 x0) (fun b3 =>
  m_chkP (b3 ∈ zL S1 ∧ zK S1 b3 = 6) (
  m_calP (f_X6_size b3 S1) (fun o4 =>
  m_bndP (o4.1 - (1 : Int32)) (fun v5 =>
  m_chkP (b2 ∈ zL o4.2 ∧ zK o4.2 b2 = 6) (
  m_calP (f_X6_keep b2 v5 o4.2) (fun o6 =>
  g_X8_copyWhole_113 Pw  o6.2 (C) (T))))))))))
  )))))

set_option maxRecDepth 100000 in
set_option maxHeartbeats 4000000 in
theorem w_X8_copyWhole_87 {p : Program} {l : Launch} {e : Env} {s : State} {m : MethodId} {args : Array Value} {below : List Frame} {meth : Method} {c : Code} {Q : State → Prop} {D : va_G} {y : Nat → ClassId} {A0 : Nat → Prop} {kc kt : Nat} {Pw : Int32 → ZS → Prop} (X : CallFix p m c cX8_copyWhole 5 s args wsX8_copyWhole RX8) (hret : zQv p l e ({ frames := 2, cells := kc, slots := kt, locals := 82 } : Room) s m args below meth c Q cX8_copyWhole D y A0 Pw) {x0 : Nat} {t0 : Int32} {t1 : Nat} {S : ZS} {C T : Nat} {H : Heap} {locs : List Loc} {ls : Array Slot} (hf : g_X8_copyWhole_87 Pw x0 t0 t1 S C T) (hCT : C ≤ kc ∧ T ≤ kt) (hM : zH D y A0 s H locs S) (hl : lv_has ls 5 [(0, .ref x0)]) : W p l e ({ frames := 2, cells := kc, slots := kt, locals := 82 } : Room) s m args below meth c H locs (kc - C) (kt - T) Q (F0 m 87 ls [.int t0, .ref t1]) := by
  obtain ⟨hx, hb, hml, hown, hts⟩ := id X
  unfold g_X8_copyWhole_87 at hf
  obtain ⟨ca, hf⟩ := m_chkPE hf
  obtain ⟨cg, hf⟩ := m_chkPE hf
  refine z_putI (k := 8) (j := 9) (C := RX8) (T := TX8) (N := 12) (fl := zf_8) (ty := .char) X hw_X8_copyWhole_8 tyX8_ok nmX8 hM rfl zc_8 ca (by decide) fl_X8_copyWhole_8_9 rfl (tyX8_ok 9 (by decide)) (m_nc cg.1) cg.2 zi_8_9 (Nat.le_of_ble_eq_true rfl) dX8_copyWhole_87 (fun H locs hM => ?_)
  clear ca
  obtain ⟨S1, ev, hf⟩ := m_bndPE hf
  replace hM := z_hS hM ev
  clear ev
  refine lv_aload_n hx hb dX8_copyWhole_90 rfl (lv_at hl 0 rfl) ?_
  obtain ⟨ca, hf⟩ := m_chkPE hf
  refine z_get (k := 8) (j := 9) (C := RX8) (T := TX8) (N := 12) (fl := zf_8) (v := .int (zI S1 9 x0)) X hw_X8_copyWhole_8 hM rfl zc_8 ca (by decide) fl_X8_copyWhole_8_9 rfl dX8_copyWhole_91 ?_
  clear ca
  refine lv_if_eq (tgt := 113) hx hb dX8_copyWhole_94 (by decide) (fun cc1 => ?_) (fun cc1 => ?_)
  · replace hf := m_ifPT hf cc1
    exact w_X8_copyWhole_113 X hret hf hCT hM (lv_sub hl [] rfl)
  · replace hf := m_ifPF hf cc1
    refine lv_aload_n hx hb dX8_copyWhole_97 rfl (lv_at hl 0 rfl) ?_
    obtain ⟨ca, hf⟩ := m_chkPE hf
    refine z_get (k := 8) (j := 1) (C := RX8) (T := TX8) (N := 12) (fl := zf_8) (v := va_rf (zP S1 1 x0)) X hw_X8_copyWhole_8 hM rfl zc_8 ca (by decide) fl_X8_copyWhole_8_1 rfl dX8_copyWhole_98 ?_
    clear ca
    obtain ⟨b2, hb9, hf⟩ := m_calPE hf
    refine z_topr hb9 ?_
    clear hb9
    refine lv_aload_n hx hb dX8_copyWhole_101 rfl (lv_at hl 0 rfl) ?_
    obtain ⟨ca, hf⟩ := m_chkPE hf
    refine z_get (k := 8) (j := 1) (C := RX8) (T := TX8) (N := 12) (fl := zf_8) (v := va_rf (zP S1 1 x0)) X hw_X8_copyWhole_8 hM rfl zc_8 ca (by decide) fl_X8_copyWhole_8_1 rfl dX8_copyWhole_102 ?_
    clear ca
    obtain ⟨b3, hb9, hf⟩ := m_calPE hf
    refine z_topr hb9 ?_
    clear hb9
    obtain ⟨ca, hf⟩ := m_chkPE hf
    obtain ⟨o4, ho, hf⟩ := m_calPE hf
    refine z_gcallVi (k := 6) (C := RX6) (T := TX6) (N := 2) (fl := zf_6) X hM rfl zc_6 ca (c_X6_size ho) gX8_copyWhole_X6_size rfl ⟨rfl, rfl⟩ hd_X6_size ⟨Nat.le_of_ble_eq_true rfl, Nat.le_of_ble_eq_true rfl⟩ rfl hl.1 rfl ⟨Nat.sub_le _ _, Nat.sub_le _ _⟩ (Nat.le_of_ble_eq_true rfl) dX8_copyWhole_105 (fun H locs hM => ?_)
    clear ho
    refine lv_iconst (v := (1 : Int32)) hx hb dX8_copyWhole_108 (by decide) ?_
    refine lv_isub hx hb dX8_copyWhole_109 ?_
    obtain ⟨v5, ev, hf⟩ := m_bndPE hf
    refine m_top ev ?_
    clear ev
    obtain ⟨ca, hf⟩ := m_chkPE hf
    obtain ⟨o6, ho, hf⟩ := m_calPE hf
    refine z_gcallVv (k := 6) (C := RX6) (T := TX6) (N := 2) (fl := zf_6) X hM rfl zc_6 ca (c_X6_keep ho) gX8_copyWhole_X6_keep rfl ⟨rfl, rfl⟩ hd_X6_keep ⟨Nat.le_of_ble_eq_true rfl, Nat.le_of_ble_eq_true rfl⟩ rfl hl.1 rfl ⟨Nat.sub_le _ _, Nat.sub_le _ _⟩ (Nat.le_of_ble_eq_true rfl) dX8_copyWhole_110 (fun H locs hM => ?_)
    clear ho
    exact w_X8_copyWhole_113 X hret hf hCT hM (lv_sub hl [] rfl)
def g_X8_copyWhole_81 (Pw : Int32 → ZS → Prop) (x0 : Nat) (x4 : Int32) (t0 : Nat) (S : ZS) (C T : Nat) : Prop :=
  g_X8_copyWhole_87 Pw x0 x4 t0 S (C) (T)

set_option maxRecDepth 100000 in
set_option maxHeartbeats 4000000 in
theorem w_X8_copyWhole_81 {p : Program} {l : Launch} {e : Env} {s : State} {m : MethodId} {args : Array Value} {below : List Frame} {meth : Method} {c : Code} {Q : State → Prop} {D : va_G} {y : Nat → ClassId} {A0 : Nat → Prop} {kc kt : Nat} {Pw : Int32 → ZS → Prop} (X : CallFix p m c cX8_copyWhole 5 s args wsX8_copyWhole RX8) (hret : zQv p l e ({ frames := 2, cells := kc, slots := kt, locals := 82 } : Room) s m args below meth c Q cX8_copyWhole D y A0 Pw) {x0 : Nat} {x4 : Int32} {t0 : Nat} {S : ZS} {C T : Nat} {H : Heap} {locs : List Loc} {ls : Array Slot} (hf : g_X8_copyWhole_81 Pw x0 x4 t0 S C T) (hCT : C ≤ kc ∧ T ≤ kt) (hM : zH D y A0 s H locs S) (hl : lv_has ls 5 [(0, .ref x0), (4, .int x4)]) : W p l e ({ frames := 2, cells := kc, slots := kt, locals := 82 } : Room) s m args below meth c H locs (kc - C) (kt - T) Q (F0 m 81 ls [.ref t0]) := by
  obtain ⟨hx, hb, hml, hown, hts⟩ := id X
  unfold g_X8_copyWhole_81 at hf
  refine lv_iload hx hb dX8_copyWhole_81 (lv_at hl 1 rfl) ?_
  refine lv_goto (tgt := 87) hx hb dX8_copyWhole_83 (by decide) ?_
  exact w_X8_copyWhole_87 (x0 := x0) (t0 := x4) (t1 := t0) X hret hf hCT hM (lv_sub hl [0] rfl)
def g_X8_copyWhole_48 (Pw : Int32 → ZS → Prop) (x0 : Nat) (S : ZS) (C T : Nat) : Prop :=
  m_chkP (x0 ∈ zL S ∧ zK S x0 = 8) (
  m_calP (zP S 1 x0) (fun b1 =>
  m_chkP (x0 ∈ zL S ∧ zK S x0 = 8) (
  m_calP (zP S 1 x0) (fun b2 =>
  m_chkP (b2 ∈ zL S ∧ zK S b2 = 6) (
  m_calP (f_X6_size b2 S) (fun o3 =>
  m_bndP (o3.1 - (1 : Int32)) (fun v4 =>
  m_chkP (b1 ∈ zL o3.2 ∧ zK o3.2 b1 = 6) (
  m_calP (f_X6_at b1 v4 o3.2) (fun o5 =>
  m_ifP (o5.1 = (43 : Int32)) (
  g_X8_copyWhole_81 Pw x0 o5.1 x0 o5.2 (C) (T)
  ) (
  m_ifP (o5.1 = (35 : Int32)) (
  g_X8_copyWhole_81 Pw x0 o5.1 x0 o5.2 (C) (T)
  ) (
  g_X8_copyWhole_87 Pw x0 (0 : Int32) x0 o5.2 (C) (T)
  )
  ))))))))))

set_option maxRecDepth 100000 in
set_option maxHeartbeats 4000000 in
theorem w_X8_copyWhole_48 {p : Program} {l : Launch} {e : Env} {s : State} {m : MethodId} {args : Array Value} {below : List Frame} {meth : Method} {c : Code} {Q : State → Prop} {D : va_G} {y : Nat → ClassId} {A0 : Nat → Prop} {kc kt : Nat} {Pw : Int32 → ZS → Prop} (X : CallFix p m c cX8_copyWhole 5 s args wsX8_copyWhole RX8) (hret : zQv p l e ({ frames := 2, cells := kc, slots := kt, locals := 82 } : Room) s m args below meth c Q cX8_copyWhole D y A0 Pw) {x0 : Nat} {S : ZS} {C T : Nat} {H : Heap} {locs : List Loc} {ls : Array Slot} (hf : g_X8_copyWhole_48 Pw x0 S C T) (hCT : C ≤ kc ∧ T ≤ kt) (hM : zH D y A0 s H locs S) (hl : lv_has ls 5 [(0, .ref x0)]) : W p l e ({ frames := 2, cells := kc, slots := kt, locals := 82 } : Room) s m args below meth c H locs (kc - C) (kt - T) Q (F0 m 48 ls []) := by
  obtain ⟨hx, hb, hml, hown, hts⟩ := id X
  unfold g_X8_copyWhole_48 at hf
  refine lv_aload_n hx hb dX8_copyWhole_48 rfl (lv_at hl 0 rfl) ?_
  obtain ⟨ca, hf⟩ := m_chkPE hf
  refine z_get (k := 8) (j := 1) (C := RX8) (T := TX8) (N := 12) (fl := zf_8) (v := va_rf (zP S 1 x0)) X hw_X8_copyWhole_8 hM rfl zc_8 ca (by decide) fl_X8_copyWhole_8_1 rfl dX8_copyWhole_49 ?_
  clear ca
  obtain ⟨b1, hb9, hf⟩ := m_calPE hf
  refine z_topr hb9 ?_
  clear hb9
  refine lv_aload_n hx hb dX8_copyWhole_52 rfl (lv_at hl 0 rfl) ?_
  obtain ⟨ca, hf⟩ := m_chkPE hf
  refine z_get (k := 8) (j := 1) (C := RX8) (T := TX8) (N := 12) (fl := zf_8) (v := va_rf (zP S 1 x0)) X hw_X8_copyWhole_8 hM rfl zc_8 ca (by decide) fl_X8_copyWhole_8_1 rfl dX8_copyWhole_53 ?_
  clear ca
  obtain ⟨b2, hb9, hf⟩ := m_calPE hf
  refine z_topr hb9 ?_
  clear hb9
  obtain ⟨ca, hf⟩ := m_chkPE hf
  obtain ⟨o3, ho, hf⟩ := m_calPE hf
  refine z_gcallVi (k := 6) (C := RX6) (T := TX6) (N := 2) (fl := zf_6) X hM rfl zc_6 ca (c_X6_size ho) gX8_copyWhole_X6_size rfl ⟨rfl, rfl⟩ hd_X6_size ⟨Nat.le_of_ble_eq_true rfl, Nat.le_of_ble_eq_true rfl⟩ rfl hl.1 rfl ⟨Nat.sub_le _ _, Nat.sub_le _ _⟩ (Nat.le_of_ble_eq_true rfl) dX8_copyWhole_56 (fun H locs hM => ?_)
  clear ho
  refine lv_iconst (v := (1 : Int32)) hx hb dX8_copyWhole_59 (by decide) ?_
  refine lv_isub hx hb dX8_copyWhole_60 ?_
  obtain ⟨v4, ev, hf⟩ := m_bndPE hf
  refine m_top ev ?_
  clear ev
  obtain ⟨ca, hf⟩ := m_chkPE hf
  obtain ⟨o5, ho, hf⟩ := m_calPE hf
  refine z_gcallVi (k := 6) (C := RX6) (T := TX6) (N := 2) (fl := zf_6) X hM rfl zc_6 ca (c_X6_at ho) gX8_copyWhole_X6_at rfl ⟨rfl, rfl⟩ hd_X6_at ⟨Nat.le_of_ble_eq_true rfl, Nat.le_of_ble_eq_true rfl⟩ rfl hl.1 rfl ⟨Nat.sub_le _ _, Nat.sub_le _ _⟩ (Nat.le_of_ble_eq_true rfl) dX8_copyWhole_61 (fun H locs hM => ?_)
  clear ho
  refine lv_istore (lv' := [(4, .int o5.1), (0, .ref x0)]) hx hb dX8_copyWhole_64 hl (by decide) rfl (fun ls hl => ?_)
  refine lv_aload_n hx hb dX8_copyWhole_66 rfl (lv_at hl 1 rfl) ?_
  refine lv_iload hx hb dX8_copyWhole_67 (lv_at hl 0 rfl) ?_
  refine lv_bipush (v := (43 : Int32)) hx hb dX8_copyWhole_69 (by decide) ?_
  refine lv_icmp_eq (tgt := 81) hx hb dX8_copyWhole_71 (by decide) (fun cc1 => ?_) (fun cc1 => ?_)
  · replace hf := m_ifPT hf cc1
    exact w_X8_copyWhole_81 (x0 := x0) (x4 := o5.1) (t0 := x0) X hret hf hCT hM (lv_sub hl [1, 0] rfl)
  · replace hf := m_ifPF hf cc1
    refine lv_iload hx hb dX8_copyWhole_74 (lv_at hl 0 rfl) ?_
    refine lv_bipush (v := (35 : Int32)) hx hb dX8_copyWhole_76 (by decide) ?_
    refine lv_icmp_ne (tgt := 86) hx hb dX8_copyWhole_78 (by decide) (fun cc1 => ?_) (fun cc1 => ?_)
    · replace hf := m_ifPF hf cc1
      refine lv_iconst (v := (0 : Int32)) hx hb dX8_copyWhole_86 (by decide) ?_
      exact w_X8_copyWhole_87 (x0 := x0) (t0 := (0 : Int32)) (t1 := x0) X hret hf hCT hM (lv_sub hl [1] rfl)
    · replace hf := m_ifPT hf cc1
      exact w_X8_copyWhole_81 (x0 := x0) (x4 := o5.1) (t0 := x0) X hret hf hCT hM (lv_sub hl [1, 0] rfl)
def g_X8_copyWhole_11s (Pw : Int32 → ZS → Prop) (self11 : Nat → Nat → Int32 → Int32 → ZS → Nat → Nat → Prop) (x0 : Nat) (x1 : Nat) (x3 : Int32) (x4 : Int32) (S : ZS) (C T : Nat) : Prop :=
  m_ifP (x3 ≤ x4) (
  g_X8_copyWhole_48 Pw x0 S (C) (T)
  ) (
  m_chkP (x0 ∈ zL S ∧ zK S x0 = 8) (
  m_calP (zP S 1 x0) (fun b1 =>
  m_chkP (b1 ∈ zL S ∧ zK S b1 = 6) (
  m_calP (f_X6_size b1 S) (fun o2 =>
  m_ifP ((7 : Int32) < o2.1) (
  g_X8_copyWhole_48 Pw x0 o2.2 (C) (T)
  ) (
  m_chkP (x0 ∈ zL o2.2 ∧ zK o2.2 x0 = 8) (
  m_calP (zP o2.2 1 x0) (fun b3 =>
  m_chkP (x1 ∈ zL o2.2 ∧ zK o2.2 x1 = 6) (
  m_calP (f_X6_at x1 x4 o2.2) (fun o4 =>
  m_chkP (b3 ∈ zL o4.2 ∧ zK o4.2 b3 = 6) (
  m_gal (C) (T) (fun mc ms Pw => g_X6_put b3 o4.1 o4.2 mc ms Pw) (fun r6 S7 C8 T9 =>
  m_bndP (x4 + (1 : Int32)) (fun v10 =>
  self11 x0 x1 x3 v10 S7 (C8) (T9))))))))
  )))))
  )

set_option maxRecDepth 100000 in
set_option maxHeartbeats 4000000 in
theorem ws_X8_copyWhole_11 {p : Program} {l : Launch} {e : Env} {s : State} {m : MethodId} {args : Array Value} {below : List Frame} {meth : Method} {c : Code} {Q : State → Prop} {D : va_G} {y : Nat → ClassId} {A0 : Nat → Prop} {kc kt : Nat} {Pw : Int32 → ZS → Prop} (X : CallFix p m c cX8_copyWhole 5 s args wsX8_copyWhole RX8) (hret : zQv p l e ({ frames := 2, cells := kc, slots := kt, locals := 82 } : Room) s m args below meth c Q cX8_copyWhole D y A0 Pw) {self11 : Nat → Nat → Int32 → Int32 → ZS → Nat → Nat → Prop} (hself11 : ∀ (x0 : Nat) (x1 : Nat) (x3 : Int32) (x4 : Int32) (S : ZS) (C T : Nat) (H : Heap) (locs : List Loc) (ls : Array Slot), self11 x0 x1 x3 x4 S C T → C ≤ kc ∧ T ≤ kt → zH D y A0 s H locs S → lv_has ls 5 [(0, .ref x0), (1, .ref x1), (3, .int x3), (4, .int x4)] → W p l e ({ frames := 2, cells := kc, slots := kt, locals := 82 } : Room) s m args below meth c H locs (kc - C) (kt - T) Q (F0 m 11 ls [])) {x0 : Nat} {x1 : Nat} {x3 : Int32} {x4 : Int32} {S : ZS} {C T : Nat} {H : Heap} {locs : List Loc} {ls : Array Slot} (hf : g_X8_copyWhole_11s Pw self11 x0 x1 x3 x4 S C T) (hCT : C ≤ kc ∧ T ≤ kt) (hM : zH D y A0 s H locs S) (hl : lv_has ls 5 [(0, .ref x0), (1, .ref x1), (3, .int x3), (4, .int x4)]) : W p l e ({ frames := 2, cells := kc, slots := kt, locals := 82 } : Room) s m args below meth c H locs (kc - C) (kt - T) Q (F0 m 11 ls []) := by
  obtain ⟨hx, hb, hml, hown, hts⟩ := id X
  unfold g_X8_copyWhole_11s at hf
  refine lv_iload hx hb dX8_copyWhole_11 (lv_at hl 3 rfl) ?_
  refine lv_iload_n hx hb dX8_copyWhole_13 rfl (lv_at hl 2 rfl) ?_
  refine lv_icmp_ge (tgt := 48) hx hb dX8_copyWhole_14 (by decide) (fun cc1 => ?_) (fun cc1 => ?_)
  · replace hf := m_ifPT hf cc1
    exact w_X8_copyWhole_48 (x0 := x0) X hret hf hCT hM (lv_sub hl [0] rfl)
  · replace hf := m_ifPF hf cc1
    refine lv_aload_n hx hb dX8_copyWhole_17 rfl (lv_at hl 0 rfl) ?_
    obtain ⟨ca, hf⟩ := m_chkPE hf
    refine z_get (k := 8) (j := 1) (C := RX8) (T := TX8) (N := 12) (fl := zf_8) (v := va_rf (zP S 1 x0)) X hw_X8_copyWhole_8 hM rfl zc_8 ca (by decide) fl_X8_copyWhole_8_1 rfl dX8_copyWhole_18 ?_
    clear ca
    obtain ⟨b1, hb9, hf⟩ := m_calPE hf
    refine z_topr hb9 ?_
    clear hb9
    obtain ⟨ca, hf⟩ := m_chkPE hf
    obtain ⟨o2, ho, hf⟩ := m_calPE hf
    refine z_gcallVi (k := 6) (C := RX6) (T := TX6) (N := 2) (fl := zf_6) X hM rfl zc_6 ca (c_X6_size ho) gX8_copyWhole_X6_size rfl ⟨rfl, rfl⟩ hd_X6_size ⟨Nat.le_of_ble_eq_true rfl, Nat.le_of_ble_eq_true rfl⟩ rfl hl.1 rfl ⟨Nat.sub_le _ _, Nat.sub_le _ _⟩ (Nat.le_of_ble_eq_true rfl) dX8_copyWhole_21 (fun H locs hM => ?_)
    clear ho
    refine lv_bipush (v := (7 : Int32)) hx hb dX8_copyWhole_24 (by decide) ?_
    refine lv_icmp_gt (tgt := 48) hx hb dX8_copyWhole_26 (by decide) (fun cc1 => ?_) (fun cc1 => ?_)
    · replace hf := m_ifPT hf cc1
      exact w_X8_copyWhole_48 (x0 := x0) X hret hf hCT hM (lv_sub hl [0] rfl)
    · replace hf := m_ifPF hf cc1
      refine lv_aload_n hx hb dX8_copyWhole_29 rfl (lv_at hl 0 rfl) ?_
      obtain ⟨ca, hf⟩ := m_chkPE hf
      refine z_get (k := 8) (j := 1) (C := RX8) (T := TX8) (N := 12) (fl := zf_8) (v := va_rf (zP o2.2 1 x0)) X hw_X8_copyWhole_8 hM rfl zc_8 ca (by decide) fl_X8_copyWhole_8_1 rfl dX8_copyWhole_30 ?_
      clear ca
      obtain ⟨b3, hb9, hf⟩ := m_calPE hf
      refine z_topr hb9 ?_
      clear hb9
      refine lv_aload_n hx hb dX8_copyWhole_33 rfl (lv_at hl 1 rfl) ?_
      refine lv_iload hx hb dX8_copyWhole_34 (lv_at hl 3 rfl) ?_
      obtain ⟨ca, hf⟩ := m_chkPE hf
      obtain ⟨o4, ho, hf⟩ := m_calPE hf
      refine z_gcallVi (k := 6) (C := RX6) (T := TX6) (N := 2) (fl := zf_6) X hM rfl zc_6 ca (c_X6_at ho) gX8_copyWhole_X6_at rfl ⟨rfl, rfl⟩ hd_X6_at ⟨Nat.le_of_ble_eq_true rfl, Nat.le_of_ble_eq_true rfl⟩ rfl hl.1 rfl ⟨Nat.sub_le _ _, Nat.sub_le _ _⟩ (Nat.le_of_ble_eq_true rfl) dX8_copyWhole_36 (fun H locs hM => ?_)
      clear ho
      obtain ⟨ca, hf⟩ := m_chkPE hf
      obtain ⟨mc, ms, hcm, ho⟩ := m_galE hf
      refine z_wcallVv (k := 6) (C := RX6) (T := TX6) (N := 2) (fl := zf_6) X hM rfl zc_6 ca (c_X6_put ho) gX8_copyWhole_X6_put rfl ⟨rfl, rfl⟩ ⟨by show kc - (C) + mc ≤ kc; omega, by show kt - (T) + ms ≤ kt; omega⟩ hd_X6_put ⟨Nat.le_of_ble_eq_true rfl, Nat.le_of_ble_eq_true rfl⟩ rfl hl.1 rfl (Nat.le_of_ble_eq_true rfl) dX8_copyWhole_39 (fun S7 H locs hf hM => ?_)
      refine z_eqCS (c2 := kc - (C - mc)) (t2 := kt - (T - ms)) (by omega) (by omega) ?_
      replace hCT : C - mc ≤ kc ∧ T - ms ≤ kt := by omega
      generalize C - mc = C8 at hf hCT ⊢
      generalize T - ms = T9 at hf hCT ⊢
      clear ho hcm
      obtain ⟨v10, ev, hf⟩ := m_bndPE hf
      refine lv_iinc (v := v10) (lv' := [(4, .int v10), (0, .ref x0), (1, .ref x1), (3, .int x3)]) hx hb dX8_copyWhole_42 hl (k := 3) rfl (by rw [ev]; rfl) (by decide) rfl (fun ls hl => ?_)
      clear ev
      refine lv_goto (tgt := 11) hx hb dX8_copyWhole_45 (by decide) ?_
      exact hself11 x0 x1 x3 v10 _ _ _ _ _ _ hf hCT hM (lv_sub hl [1, 2, 3, 0] rfl)
def g_X8_copyWhole_11 (Pw : Int32 → ZS → Prop) : Nat → Nat → Nat → Int32 → Int32 → ZS → Nat → Nat → Prop
  | 0 => fun _ _ _ _ _ _ _ => False
  | n + 1 => g_X8_copyWhole_11s Pw (g_X8_copyWhole_11 Pw n)
theorem w_X8_copyWhole_11 {p : Program} {l : Launch} {e : Env} {s : State} {m : MethodId} {args : Array Value} {below : List Frame} {meth : Method} {c : Code} {Q : State → Prop} {D : va_G} {y : Nat → ClassId} {A0 : Nat → Prop} {kc kt : Nat} {Pw : Int32 → ZS → Prop} (X : CallFix p m c cX8_copyWhole 5 s args wsX8_copyWhole RX8) (hret : zQv p l e ({ frames := 2, cells := kc, slots := kt, locals := 82 } : Room) s m args below meth c Q cX8_copyWhole D y A0 Pw) (n : Nat) : ∀ (x0 : Nat) (x1 : Nat) (x3 : Int32) (x4 : Int32) (S : ZS) (C T : Nat) (H : Heap) (locs : List Loc) (ls : Array Slot), g_X8_copyWhole_11 Pw n x0 x1 x3 x4 S C T → C ≤ kc ∧ T ≤ kt → zH D y A0 s H locs S → lv_has ls 5 [(0, .ref x0), (1, .ref x1), (3, .int x3), (4, .int x4)] → W p l e ({ frames := 2, cells := kc, slots := kt, locals := 82 } : Room) s m args below meth c H locs (kc - C) (kt - T) Q (F0 m 11 ls []) := by
  induction n with
  | zero => intro x0 x1 x3 x4 S C T H locs ls hf; exact absurd hf id
  | succ n ih => intro x0 x1 x3 x4 S C T H locs ls hf hCT hM hl; exact ws_X8_copyWhole_11 X hret (self11 := g_X8_copyWhole_11 Pw n) ih hf hCT hM hl
def g_X8_copyWhole_0 (Pw : Int32 → ZS → Prop) (x0 : Nat) (x1 : Nat) (x2 : Int32) (x3 : Int32) (S : ZS) (C T : Nat) : Prop :=
  m_chkP (x0 ∈ zL S ∧ zK S x0 = 8) (
  m_calP (zP S 1 x0) (fun b1 =>
  m_chkP (b1 ∈ zL S ∧ zK S b1 = 6) (
  m_calP (f_X6_keep b1 (0 : Int32) S) (fun o2 =>
  g_X8_copyWhole_11 Pw mFuel x0 x1 x3 x2 o2.2 (C) (T)))))

set_option maxRecDepth 100000 in
set_option maxHeartbeats 4000000 in
theorem w_X8_copyWhole_0 {p : Program} {l : Launch} {e : Env} {s : State} {m : MethodId} {args : Array Value} {below : List Frame} {meth : Method} {c : Code} {Q : State → Prop} {D : va_G} {y : Nat → ClassId} {A0 : Nat → Prop} {kc kt : Nat} {Pw : Int32 → ZS → Prop} (X : CallFix p m c cX8_copyWhole 5 s args wsX8_copyWhole RX8) (hret : zQv p l e ({ frames := 2, cells := kc, slots := kt, locals := 82 } : Room) s m args below meth c Q cX8_copyWhole D y A0 Pw) {x0 : Nat} {x1 : Nat} {x2 : Int32} {x3 : Int32} {S : ZS} {C T : Nat} {H : Heap} {locs : List Loc} {ls : Array Slot} (hf : g_X8_copyWhole_0 Pw x0 x1 x2 x3 S C T) (hCT : C ≤ kc ∧ T ≤ kt) (hM : zH D y A0 s H locs S) (hl : lv_has ls 5 [(0, .ref x0), (1, .ref x1), (2, .int x2), (3, .int x3)]) : W p l e ({ frames := 2, cells := kc, slots := kt, locals := 82 } : Room) s m args below meth c H locs (kc - C) (kt - T) Q (F0 m 0 ls []) := by
  obtain ⟨hx, hb, hml, hown, hts⟩ := id X
  unfold g_X8_copyWhole_0 at hf
  refine lv_aload_n hx hb dX8_copyWhole_0 rfl (lv_at hl 0 rfl) ?_
  obtain ⟨ca, hf⟩ := m_chkPE hf
  refine z_get (k := 8) (j := 1) (C := RX8) (T := TX8) (N := 12) (fl := zf_8) (v := va_rf (zP S 1 x0)) X hw_X8_copyWhole_8 hM rfl zc_8 ca (by decide) fl_X8_copyWhole_8_1 rfl dX8_copyWhole_1 ?_
  clear ca
  obtain ⟨b1, hb9, hf⟩ := m_calPE hf
  refine z_topr hb9 ?_
  clear hb9
  refine lv_iconst (v := (0 : Int32)) hx hb dX8_copyWhole_4 (by decide) ?_
  obtain ⟨ca, hf⟩ := m_chkPE hf
  obtain ⟨o2, ho, hf⟩ := m_calPE hf
  refine z_gcallVv (k := 6) (C := RX6) (T := TX6) (N := 2) (fl := zf_6) X hM rfl zc_6 ca (c_X6_keep ho) gX8_copyWhole_X6_keep rfl ⟨rfl, rfl⟩ hd_X6_keep ⟨Nat.le_of_ble_eq_true rfl, Nat.le_of_ble_eq_true rfl⟩ rfl hl.1 rfl ⟨Nat.sub_le _ _, Nat.sub_le _ _⟩ (Nat.le_of_ble_eq_true rfl) dX8_copyWhole_5 (fun H locs hM => ?_)
  clear ho
  refine lv_iload_n hx hb dX8_copyWhole_8 rfl (lv_at hl 2 rfl) ?_
  refine lv_istore (lv' := [(4, .int x2), (0, .ref x0), (1, .ref x1), (2, .int x2), (3, .int x3)]) hx hb dX8_copyWhole_9 hl (by decide) rfl (fun ls hl => ?_)
  exact w_X8_copyWhole_11 X hret _ x0 x1 x3 x2 _ _ _ _ _ _ hf hCT hM (lv_sub hl [1, 2, 4, 0] rfl)
def g_X8_copyWhole (x0 : Nat) (x1 : Nat) (x2 : Int32) (x3 : Int32) (S : ZS) (mc ms : Nat) (Pw : Int32 → ZS → Prop) : Prop := g_X8_copyWhole_0 Pw x0 x1 x2 x3 S mc ms
theorem c_X8_copyWhole {l : Launch} {D : va_G} {y : Nat → ClassId} {x0 : Nat} {x1 : Nat} {x2 : Int32} {x3 : Int32} {S : ZS} {kc kt : Nat} {Pw : Int32 → ZS → Prop} (hf : g_X8_copyWhole x0 x1 x2 x3 S kc kt Pw) : zWv l yX8_copyWhole wsX8_copyWhole ({ frames := 2, cells := kc, slots := kt, locals := 82 } : Room) [.ref x0, .ref x1, .int x2, .int x3] D y S kc kt Pw :=
  z_wentV (own := RX8) (cc := cX8_copyWhole) (maxL := 5) (by decide) rfl rfl (Nat.le_of_ble_eq_true rfl) ⟨rfl, rfl⟩ (fun p e s m args below meth c A0 Q H locs ls X hret hM hl => w_X8_copyWhole_0 X hret hf ⟨Nat.le_refl _, Nat.le_refl _⟩ hM (lv_sub hl [0, 1, 2, 3] rfl))
theorem hd_X8_copyWhole : yX8_copyWhole.cls = RX8 ∧ yX8_copyWhole.cls ≠ "java/lang/invoke/MethodHandle" ∧ yX8_copyWhole.cls ≠ "java/lang/invoke/VarHandle" ∧ (parseMethodDescriptor yX8_copyWhole.desc).map (fun d => d.parameters.length) = some 3 := by decide +kernel
def f_X2_shortMark_56 (t0 : Int32) (S : ZS) : Option (Int32 × ZS) :=
  some (t0, S)

set_option maxRecDepth 100000 in
set_option maxHeartbeats 4000000 in
theorem w_X2_shortMark_56 {p : Program} {l : Launch} {e : Env} {s : State} {m : MethodId} {args : Array Value} {below : List Frame} {meth : Method} {c : Code} {Q : State → Prop} {D : va_G} {y : Nat → ClassId} {A0 : Nat → Prop} {o : Int32 × ZS} (X : CallFix p m c cX2_shortMark 2 s args wsX2_shortMark RX2) (hret : zRi p l e ({ frames := 0, cells := 0, slots := 0, locals := 0 } : Room) s m args below meth c Q cX2_shortMark D y A0 .int o) {t0 : Int32} {S : ZS} {H : Heap} {locs : List Loc} {ls : Array Slot} (hf : f_X2_shortMark_56 t0 S = some o) (hM : zH D y A0 s H locs S) (hl : lv_has ls 2 []) : W p l e ({ frames := 0, cells := 0, slots := 0, locals := 0 } : Room) s m args below meth c H locs 0 0 Q (F0 m 56 ls [.int t0]) := by
  obtain ⟨hx, hb, hml, hown, hts⟩ := id X
  unfold f_X2_shortMark_56 at hf
  cases hf
  exact hret H locs _ ls hM rfl dX2_shortMark_56
def f_X2_shortMark_27 (t0 : Int32) (S : ZS) : Option (Int32 × ZS) :=
  some (t0, S)

set_option maxRecDepth 100000 in
set_option maxHeartbeats 4000000 in
theorem w_X2_shortMark_27 {p : Program} {l : Launch} {e : Env} {s : State} {m : MethodId} {args : Array Value} {below : List Frame} {meth : Method} {c : Code} {Q : State → Prop} {D : va_G} {y : Nat → ClassId} {A0 : Nat → Prop} {o : Int32 × ZS} (X : CallFix p m c cX2_shortMark 2 s args wsX2_shortMark RX2) (hret : zRi p l e ({ frames := 0, cells := 0, slots := 0, locals := 0 } : Room) s m args below meth c Q cX2_shortMark D y A0 .int o) {t0 : Int32} {S : ZS} {H : Heap} {locs : List Loc} {ls : Array Slot} (hf : f_X2_shortMark_27 t0 S = some o) (hM : zH D y A0 s H locs S) (hl : lv_has ls 2 []) : W p l e ({ frames := 0, cells := 0, slots := 0, locals := 0 } : Room) s m args below meth c H locs 0 0 Q (F0 m 27 ls [.int t0]) := by
  obtain ⟨hx, hb, hml, hown, hts⟩ := id X
  unfold f_X2_shortMark_27 at hf
  cases hf
  exact hret H locs _ ls hM rfl dX2_shortMark_27
def f_X2_shortMark_0 (x0 : Int32) (x1 : Int32) (S : ZS) : Option (Int32 × ZS) :=
  m_if (x0 = (33 : Int32)) (
  m_if (x1 = (33 : Int32)) (
  f_X2_shortMark_27 (3 : Int32) S
  ) (
  m_if (x1 = (63 : Int32)) (
  f_X2_shortMark_27 (5 : Int32) S
  ) (
  f_X2_shortMark_27 (1 : Int32) S
  )
  )
  ) (
  m_if (x0 = (63 : Int32)) (
  m_if (x1 = (63 : Int32)) (
  f_X2_shortMark_56 (4 : Int32) S
  ) (
  m_if (x1 = (33 : Int32)) (
  f_X2_shortMark_56 (6 : Int32) S
  ) (
  f_X2_shortMark_56 (2 : Int32) S
  )
  )
  ) (
  some ((0 : Int32), S)
  )
  )

set_option maxRecDepth 100000 in
set_option maxHeartbeats 4000000 in
theorem w_X2_shortMark_0 {p : Program} {l : Launch} {e : Env} {s : State} {m : MethodId} {args : Array Value} {below : List Frame} {meth : Method} {c : Code} {Q : State → Prop} {D : va_G} {y : Nat → ClassId} {A0 : Nat → Prop} {o : Int32 × ZS} (X : CallFix p m c cX2_shortMark 2 s args wsX2_shortMark RX2) (hret : zRi p l e ({ frames := 0, cells := 0, slots := 0, locals := 0 } : Room) s m args below meth c Q cX2_shortMark D y A0 .int o) {x0 : Int32} {x1 : Int32} {S : ZS} {H : Heap} {locs : List Loc} {ls : Array Slot} (hf : f_X2_shortMark_0 x0 x1 S = some o) (hM : zH D y A0 s H locs S) (hl : lv_has ls 2 [(0, .int x0), (1, .int x1)]) : W p l e ({ frames := 0, cells := 0, slots := 0, locals := 0 } : Room) s m args below meth c H locs 0 0 Q (F0 m 0 ls []) := by
  obtain ⟨hx, hb, hml, hown, hts⟩ := id X
  unfold f_X2_shortMark_0 at hf
  refine lv_iload_n hx hb dX2_shortMark_0 rfl (lv_at hl 0 rfl) ?_
  refine lv_bipush (v := (33 : Int32)) hx hb dX2_shortMark_1 (by decide) ?_
  refine lv_icmp_ne (tgt := 28) hx hb dX2_shortMark_3 (by decide) (fun cc1 => ?_) (fun cc1 => ?_)
  · replace hf := m_ifF hf cc1
    refine lv_iload_n hx hb dX2_shortMark_28 rfl (lv_at hl 0 rfl) ?_
    refine lv_bipush (v := (63 : Int32)) hx hb dX2_shortMark_29 (by decide) ?_
    refine lv_icmp_ne (tgt := 57) hx hb dX2_shortMark_31 (by decide) (fun cc1 => ?_) (fun cc1 => ?_)
    · replace hf := m_ifF hf cc1
      refine lv_iconst (v := (0 : Int32)) hx hb dX2_shortMark_57 (by decide) ?_
      cases hf
      exact hret H locs _ ls hM rfl dX2_shortMark_58
    · replace hf := m_ifT hf cc1
      refine lv_iload_n hx hb dX2_shortMark_34 rfl (lv_at hl 1 rfl) ?_
      refine lv_bipush (v := (63 : Int32)) hx hb dX2_shortMark_35 (by decide) ?_
      refine lv_icmp_ne (tgt := 44) hx hb dX2_shortMark_37 (by decide) (fun cc1 => ?_) (fun cc1 => ?_)
      · replace hf := m_ifF hf cc1
        refine lv_iload_n hx hb dX2_shortMark_44 rfl (lv_at hl 1 rfl) ?_
        refine lv_bipush (v := (33 : Int32)) hx hb dX2_shortMark_45 (by decide) ?_
        refine lv_icmp_ne (tgt := 55) hx hb dX2_shortMark_47 (by decide) (fun cc1 => ?_) (fun cc1 => ?_)
        · replace hf := m_ifF hf cc1
          refine lv_iconst (v := (2 : Int32)) hx hb dX2_shortMark_55 (by decide) ?_
          exact w_X2_shortMark_56 (t0 := (2 : Int32)) X hret hf hM (lv_sub hl [] rfl)
        · replace hf := m_ifT hf cc1
          refine lv_bipush (v := (6 : Int32)) hx hb dX2_shortMark_50 (by decide) ?_
          refine lv_goto (tgt := 56) hx hb dX2_shortMark_52 (by decide) ?_
          exact w_X2_shortMark_56 (t0 := (6 : Int32)) X hret hf hM (lv_sub hl [] rfl)
      · replace hf := m_ifT hf cc1
        refine lv_iconst (v := (4 : Int32)) hx hb dX2_shortMark_40 (by decide) ?_
        refine lv_goto (tgt := 56) hx hb dX2_shortMark_41 (by decide) ?_
        exact w_X2_shortMark_56 (t0 := (4 : Int32)) X hret hf hM (lv_sub hl [] rfl)
  · replace hf := m_ifT hf cc1
    refine lv_iload_n hx hb dX2_shortMark_6 rfl (lv_at hl 1 rfl) ?_
    refine lv_bipush (v := (33 : Int32)) hx hb dX2_shortMark_7 (by decide) ?_
    refine lv_icmp_ne (tgt := 16) hx hb dX2_shortMark_9 (by decide) (fun cc1 => ?_) (fun cc1 => ?_)
    · replace hf := m_ifF hf cc1
      refine lv_iload_n hx hb dX2_shortMark_16 rfl (lv_at hl 1 rfl) ?_
      refine lv_bipush (v := (63 : Int32)) hx hb dX2_shortMark_17 (by decide) ?_
      refine lv_icmp_ne (tgt := 26) hx hb dX2_shortMark_19 (by decide) (fun cc1 => ?_) (fun cc1 => ?_)
      · replace hf := m_ifF hf cc1
        refine lv_iconst (v := (1 : Int32)) hx hb dX2_shortMark_26 (by decide) ?_
        exact w_X2_shortMark_27 (t0 := (1 : Int32)) X hret hf hM (lv_sub hl [] rfl)
      · replace hf := m_ifT hf cc1
        refine lv_iconst (v := (5 : Int32)) hx hb dX2_shortMark_22 (by decide) ?_
        refine lv_goto (tgt := 27) hx hb dX2_shortMark_23 (by decide) ?_
        exact w_X2_shortMark_27 (t0 := (5 : Int32)) X hret hf hM (lv_sub hl [] rfl)
    · replace hf := m_ifT hf cc1
      refine lv_iconst (v := (3 : Int32)) hx hb dX2_shortMark_12 (by decide) ?_
      refine lv_goto (tgt := 27) hx hb dX2_shortMark_13 (by decide) ?_
      exact w_X2_shortMark_27 (t0 := (3 : Int32)) X hret hf hM (lv_sub hl [] rfl)
def f_X2_shortMark (x0 : Int32) (x1 : Int32) (S : ZS) : Option (Int32 × ZS) := f_X2_shortMark_0 x0 x1 S
theorem c_X2_shortMark {l : Launch} {D : va_G} {y : Nat → ClassId} {x0 : Int32} {x1 : Int32} {S : ZS} {o : Int32 × ZS} (hf : f_X2_shortMark x0 x1 S = some o) : zMi l yX2_shortMark wsX2_shortMark ({ frames := 0, cells := 0, slots := 0, locals := 0 } : Room) [.int x0, .int x1] D y S o :=
  z_entryI (own := RX2) (cc := cX2_shortMark) (maxL := 2) (by decide) rfl rfl (Nat.le_of_ble_eq_true rfl) (fun p e s m args below meth c A0 Q H locs ls X hret hM hl => w_X2_shortMark_0 X hret hf hM (lv_sub hl [0, 1] rfl))
theorem hd_X2_shortMark : yX2_shortMark.cls ≠ "java/lang/invoke/MethodHandle" ∧ yX2_shortMark.cls ≠ "java/lang/invoke/VarHandle" ∧ (parseMethodDescriptor yX2_shortMark.desc).map (fun d => d.parameters.length) = some 2 := by decide +kernel
theorem fl_X4_putMark_4_4 : Cond.fieldLink RX4 24 "MoveTexts$Node" "markCount" "I" ∈ wsX4_putMark := by decide +kernel
theorem fl_X4_putMark_4_5 : Cond.fieldLink RX4 27 "MoveTexts$Node" "marks" "I" ∈ wsX4_putMark := by decide +kernel
theorem hw_X4_putMark_4 : ∀ w ∈ wsX40, w ∈ wsX4_putMark := by decide +kernel
def f_X4_putMark_0 (x0 : Nat) (x1 : Int32) (S : ZS) : Option (Int32 × ZS) :=
  m_chk (x0 ∈ zL S ∧ zK S x0 = 4) (
  m_chk (x0 ∈ zL S ∧ zK S x0 = 4) (
  m_bnd ((8 : Int32) * (zI S 4 x0)) (fun v1 =>
  m_bnd (x1 <<< (v1 &&& 31)) (fun v2 =>
  m_bnd ((zI S 5 x0) ||| v2) (fun v3 =>
  m_chk (x0 ∈ zL S ∧ zK S x0 = 4) (
  m_bnd (zsI S 5 x0 v3) (fun S4 =>
  m_chk (x0 ∈ zL S4 ∧ zK S4 x0 = 4) (
  m_bnd ((zI S4 4 x0) + (1 : Int32)) (fun v5 =>
  m_chk (x0 ∈ zL S4 ∧ zK S4 x0 = 4) (
  m_bnd (zsI S4 4 x0 v5) (fun S6 =>
  some (0, S6))))))))))))

set_option maxRecDepth 100000 in
set_option maxHeartbeats 4000000 in
theorem w_X4_putMark_0 {p : Program} {l : Launch} {e : Env} {s : State} {m : MethodId} {args : Array Value} {below : List Frame} {meth : Method} {c : Code} {Q : State → Prop} {D : va_G} {y : Nat → ClassId} {A0 : Nat → Prop} {o : Int32 × ZS} (X : CallFix p m c cX4_putMark 2 s args wsX4_putMark RX4) (hret : zRv p l e ({ frames := 0, cells := 0, slots := 0, locals := 0 } : Room) s m args below meth c Q cX4_putMark D y A0 o) {x0 : Nat} {x1 : Int32} {S : ZS} {H : Heap} {locs : List Loc} {ls : Array Slot} (hf : f_X4_putMark_0 x0 x1 S = some o) (hM : zH D y A0 s H locs S) (hl : lv_has ls 2 [(0, .ref x0), (1, .int x1)]) : W p l e ({ frames := 0, cells := 0, slots := 0, locals := 0 } : Room) s m args below meth c H locs 0 0 Q (F0 m 0 ls []) := by
  obtain ⟨hx, hb, hml, hown, hts⟩ := id X
  unfold f_X4_putMark_0 at hf
  refine lv_aload_n hx hb dX4_putMark_0 rfl (lv_at hl 0 rfl) ?_
  refine lv_dup hx hb dX4_putMark_1 rfl ?_
  obtain ⟨ca, hf⟩ := m_chkE hf
  refine z_get (k := 4) (j := 5) (C := RX4) (T := TX4) (N := 7) (fl := zf_4) (v := .int (zI S 5 x0)) X hw_X4_putMark_4 hM rfl zc_4 ca (by decide) fl_X4_putMark_4_5 rfl dX4_putMark_2 ?_
  clear ca
  refine lv_iload_n hx hb dX4_putMark_5 rfl (lv_at hl 1 rfl) ?_
  refine lv_bipush (v := (8 : Int32)) hx hb dX4_putMark_6 (by decide) ?_
  refine lv_aload_n hx hb dX4_putMark_8 rfl (lv_at hl 0 rfl) ?_
  obtain ⟨ca, hf⟩ := m_chkE hf
  refine z_get (k := 4) (j := 4) (C := RX4) (T := TX4) (N := 7) (fl := zf_4) (v := .int (zI S 4 x0)) X hw_X4_putMark_4 hM rfl zc_4 ca (by decide) fl_X4_putMark_4_4 rfl dX4_putMark_9 ?_
  clear ca
  refine lv_imul hx hb dX4_putMark_12 ?_
  obtain ⟨v1, ev, hf⟩ := m_bndE hf
  refine m_top ev ?_
  clear ev
  refine lv_ishl hx hb dX4_putMark_13 ?_
  obtain ⟨v2, ev, hf⟩ := m_bndE hf
  refine m_top ev ?_
  clear ev
  refine lv_ior hx hb dX4_putMark_14 ?_
  obtain ⟨v3, ev, hf⟩ := m_bndE hf
  refine m_top ev ?_
  clear ev
  obtain ⟨ca, hf⟩ := m_chkE hf
  refine z_putI (k := 4) (j := 5) (C := RX4) (T := TX4) (N := 7) (fl := zf_4) (ty := .int) X hw_X4_putMark_4 tyX4_ok nmX4 hM rfl zc_4 ca (by decide) fl_X4_putMark_4_5 rfl (tyX4_ok 5 (by decide)) rfl rfl zi_4_5 (Nat.le_of_ble_eq_true rfl) dX4_putMark_15 (fun H locs hM => ?_)
  clear ca
  obtain ⟨S4, ev, hf⟩ := m_bndE hf
  replace hM := z_hS hM ev
  clear ev
  refine lv_aload_n hx hb dX4_putMark_18 rfl (lv_at hl 0 rfl) ?_
  refine lv_dup hx hb dX4_putMark_19 rfl ?_
  obtain ⟨ca, hf⟩ := m_chkE hf
  refine z_get (k := 4) (j := 4) (C := RX4) (T := TX4) (N := 7) (fl := zf_4) (v := .int (zI S4 4 x0)) X hw_X4_putMark_4 hM rfl zc_4 ca (by decide) fl_X4_putMark_4_4 rfl dX4_putMark_20 ?_
  clear ca
  refine lv_iconst (v := (1 : Int32)) hx hb dX4_putMark_23 (by decide) ?_
  refine lv_iadd hx hb dX4_putMark_24 ?_
  obtain ⟨v5, ev, hf⟩ := m_bndE hf
  refine m_top ev ?_
  clear ev
  obtain ⟨ca, hf⟩ := m_chkE hf
  refine z_putI (k := 4) (j := 4) (C := RX4) (T := TX4) (N := 7) (fl := zf_4) (ty := .int) X hw_X4_putMark_4 tyX4_ok nmX4 hM rfl zc_4 ca (by decide) fl_X4_putMark_4_4 rfl (tyX4_ok 4 (by decide)) rfl rfl zi_4_4 (Nat.le_of_ble_eq_true rfl) dX4_putMark_25 (fun H locs hM => ?_)
  clear ca
  obtain ⟨S6, ev, hf⟩ := m_bndE hf
  replace hM := z_hS hM ev
  clear ev
  cases hf
  exact hret H locs _ ls hM dX4_putMark_28
def f_X4_putMark (x0 : Nat) (x1 : Int32) (S : ZS) : Option (Int32 × ZS) := f_X4_putMark_0 x0 x1 S
theorem c_X4_putMark {l : Launch} {D : va_G} {y : Nat → ClassId} {x0 : Nat} {x1 : Int32} {S : ZS} {o : Int32 × ZS} (hf : f_X4_putMark x0 x1 S = some o) : zMv l yX4_putMark wsX4_putMark ({ frames := 0, cells := 0, slots := 0, locals := 0 } : Room) [.ref x0, .int x1] D y S o :=
  z_entryV (own := RX4) (cc := cX4_putMark) (maxL := 2) (by decide) rfl rfl (Nat.le_of_ble_eq_true rfl) (fun p e s m args below meth c A0 Q H locs ls X hret hM hl => w_X4_putMark_0 X hret hf hM (lv_sub hl [0, 1] rfl))
theorem hd_X4_putMark : yX4_putMark.cls = RX4 ∧ yX4_putMark.cls ≠ "java/lang/invoke/MethodHandle" ∧ yX4_putMark.cls ≠ "java/lang/invoke/VarHandle" ∧ (parseMethodDescriptor yX4_putMark.desc).map (fun d => d.parameters.length) = some 1 := by decide +kernel
theorem fl_X2_readMark_2_2 : Cond.fieldLink RX2 28 "MoveTexts$GameReader" "text" "LMoveTexts$Row;" ∈ wsX2_readMark := by decide +kernel
theorem fl_X2_readMark_2_4 : Cond.fieldLink RX2 39 "MoveTexts$GameReader" "at" "I" ∈ wsX2_readMark := by decide +kernel
theorem fl_X2_readMark_4_4 : Cond.fieldLink RX2 221 "MoveTexts$Node" "markCount" "I" ∈ wsX2_readMark := by decide +kernel
theorem hw_X2_readMark_2 : ∀ w ∈ wsX20, w ∈ wsX2_readMark := by decide +kernel
theorem hw_X2_readMark_4 : ∀ w ∈ wsX40, w ∈ wsX2_readMark := by decide +kernel
theorem nn_X2_readMark_136 : ((RX2, 136, yX11_isDigit, "MoveTexts") ∈ zNW ∧ Cond.initialized yX11_isDigit.cls ∈ wsX2_readMark) ∧ Cond.static yX11_isDigit ∈ wsX2_readMark := by decide +kernel
def f_X2_readMark_56 (x0 : Nat) (x2 : Int32) (S : ZS) : Option (Int32 × ZS) :=
  m_chk (x0 ∈ zL S ∧ zK S x0 = 2) (
  m_cal (f_X2_refuse x0 (8 : Int32) x2 S) (fun o1 =>
  m_chk (vp_nar .boolean o1.1 = o1.1) (some (o1.1, o1.2))))

set_option maxRecDepth 100000 in
set_option maxHeartbeats 4000000 in
theorem w_X2_readMark_56 {p : Program} {l : Launch} {e : Env} {s : State} {m : MethodId} {args : Array Value} {below : List Frame} {meth : Method} {c : Code} {Q : State → Prop} {D : va_G} {y : Nat → ClassId} {A0 : Nat → Prop} {o : Int32 × ZS} (X : CallFix p m c cX2_readMark 4 s args wsX2_readMark RX2) (hret : zRi p l e ({ frames := 2, cells := 0, slots := 0, locals := 44 } : Room) s m args below meth c Q cX2_readMark D y A0 .boolean o) {x0 : Nat} {x2 : Int32} {S : ZS} {H : Heap} {locs : List Loc} {ls : Array Slot} (hf : f_X2_readMark_56 x0 x2 S = some o) (hM : zH D y A0 s H locs S) (hl : lv_has ls 4 [(0, .ref x0), (2, .int x2)]) : W p l e ({ frames := 2, cells := 0, slots := 0, locals := 44 } : Room) s m args below meth c H locs 0 0 Q (F0 m 56 ls []) := by
  obtain ⟨hx, hb, hml, hown, hts⟩ := id X
  unfold f_X2_readMark_56 at hf
  refine lv_aload_n hx hb dX2_readMark_56 rfl (lv_at hl 0 rfl) ?_
  refine lv_bipush (v := (8 : Int32)) hx hb dX2_readMark_57 (by decide) ?_
  refine lv_iload_n hx hb dX2_readMark_59 rfl (lv_at hl 1 rfl) ?_
  obtain ⟨ca, hf⟩ := m_chkE hf
  obtain ⟨o1, ho, hf⟩ := m_calE hf
  refine z_callVi (k := 2) (C := RX2) (T := TX2) (N := 12) (fl := zf_2) X hM rfl zc_2 ca (c_X2_refuse ho) gX2_readMark_X2_refuse rfl ⟨rfl, rfl⟩ hd_X2_refuse ⟨Nat.le_of_ble_eq_true rfl, Nat.le_of_ble_eq_true rfl⟩ rfl hl.1 rfl (Nat.le_of_ble_eq_true rfl) dX2_readMark_60 (fun H locs hM => ?_)
  clear ho
  obtain ⟨cd, hf⟩ := m_chkE hf
  cases hf
  exact hret H locs _ ls hM (m_nb cd) dX2_readMark_63
def f_X2_readMark_0 (x0 : Nat) (x1 : Nat) (S : ZS) : Option (Int32 × ZS) :=
  m_chk (x0 ∈ zL S ∧ zK S x0 = 2) (
  m_chk (x0 ∈ zL S ∧ zK S x0 = 2) (
  m_bnd ((zI S 4 x0) + (1 : Int32)) (fun v1 =>
  m_chk (x0 ∈ zL S ∧ zK S x0 = 2) (
  m_bnd (zsI S 4 x0 v1) (fun S2 =>
  m_chk (x0 ∈ zL S2 ∧ zK S2 x0 = 2) (
  m_cal (f_X2_readDigits x0 (3 : Int32) S2) (fun o3 =>
  m_chk (x0 ∈ zL o3.2 ∧ zK o3.2 x0 = 2) (
  m_bnd ((zI S 4 x0) + (1 : Int32)) (fun v4 =>
  m_if ((zI o3.2 4 x0) = v4) (
  m_chk (x0 ∈ zL o3.2 ∧ zK o3.2 x0 = 2) (
  m_chk (x0 ∈ zL o3.2 ∧ zK o3.2 x0 = 2) (
  m_cal (f_X2_refuse x0 (1 : Int32) (zI o3.2 4 x0) o3.2) (fun o10 =>
  m_chk (vp_nar .boolean o10.1 = o10.1) (some (o10.1, o10.2)))))
  ) (
  m_if ((255 : Int32) < o3.1) (
  f_X2_readMark_56 x0 (zI S 4 x0) o3.2
  ) (
  m_chk (x1 ∈ zL o3.2 ∧ zK o3.2 x1 = 4) (
  m_if ((zI o3.2 4 x1) < (4 : Int32)) (
  m_chk (x0 ∈ zL o3.2 ∧ zK o3.2 x0 = 2) (
  m_cal (zP o3.2 2 x0) (fun b5 =>
  m_chk (x0 ∈ zL o3.2 ∧ zK o3.2 x0 = 2) (
  m_chk (b5 ∈ zL o3.2 ∧ zK o3.2 b5 = 6) (
  m_cal (f_X6_at b5 (zI o3.2 4 x0) o3.2) (fun o6 =>
  m_cal (f_X11_isDigit o6.1 o6.2) (fun o7 =>
  m_if (o7.1 = 0) (
  m_chk (x1 ∈ zL o7.2 ∧ zK o7.2 x1 = 4) (
  m_cal (f_X4_putMark x1 o3.1 o7.2) (fun o8 =>
  m_chk (vp_nar .boolean (1 : Int32) = (1 : Int32)) (some ((1 : Int32), o8.2))))
  ) (
  m_chk (x0 ∈ zL o7.2 ∧ zK o7.2 x0 = 2) (
  m_chk (x0 ∈ zL o7.2 ∧ zK o7.2 x0 = 2) (
  m_cal (f_X2_refuse x0 (1 : Int32) (zI o7.2 4 x0) o7.2) (fun o9 =>
  m_chk (vp_nar .boolean o9.1 = o9.1) (some (o9.1, o9.2)))))
  )))))))
  ) (
  f_X2_readMark_56 x0 (zI S 4 x0) o3.2
  ))
  )
  ))))))))))

set_option maxRecDepth 100000 in
set_option maxHeartbeats 4000000 in
theorem w_X2_readMark_0 {p : Program} {l : Launch} {e : Env} {s : State} {m : MethodId} {args : Array Value} {below : List Frame} {meth : Method} {c : Code} {Q : State → Prop} {D : va_G} {y : Nat → ClassId} {A0 : Nat → Prop} {o : Int32 × ZS} (X : CallFix p m c cX2_readMark 4 s args wsX2_readMark RX2) (hret : zRi p l e ({ frames := 2, cells := 0, slots := 0, locals := 44 } : Room) s m args below meth c Q cX2_readMark D y A0 .boolean o) {x0 : Nat} {x1 : Nat} {S : ZS} {H : Heap} {locs : List Loc} {ls : Array Slot} (hf : f_X2_readMark_0 x0 x1 S = some o) (hM : zH D y A0 s H locs S) (hl : lv_has ls 4 [(0, .ref x0), (1, .ref x1)]) : W p l e ({ frames := 2, cells := 0, slots := 0, locals := 44 } : Room) s m args below meth c H locs 0 0 Q (F0 m 0 ls []) := by
  obtain ⟨hx, hb, hml, hown, hts⟩ := id X
  unfold f_X2_readMark_0 at hf
  refine lv_aload_n hx hb dX2_readMark_0 rfl (lv_at hl 0 rfl) ?_
  obtain ⟨ca, hf⟩ := m_chkE hf
  refine z_get (k := 2) (j := 4) (C := RX2) (T := TX2) (N := 12) (fl := zf_2) (v := .int (zI S 4 x0)) X hw_X2_readMark_2 hM rfl zc_2 ca (by decide) fl_X2_readMark_2_4 rfl dX2_readMark_1 ?_
  clear ca
  refine lv_istore_n (lv' := [(2, .int (zI S 4 x0)), (0, .ref x0), (1, .ref x1)]) hx hb dX2_readMark_4 rfl hl (by decide) rfl (fun ls hl => ?_)
  refine lv_aload_n hx hb dX2_readMark_5 rfl (lv_at hl 1 rfl) ?_
  refine lv_dup hx hb dX2_readMark_6 rfl ?_
  obtain ⟨ca, hf⟩ := m_chkE hf
  refine z_get (k := 2) (j := 4) (C := RX2) (T := TX2) (N := 12) (fl := zf_2) (v := .int (zI S 4 x0)) X hw_X2_readMark_2 hM rfl zc_2 ca (by decide) fl_X2_readMark_2_4 rfl dX2_readMark_7 ?_
  clear ca
  refine lv_iconst (v := (1 : Int32)) hx hb dX2_readMark_10 (by decide) ?_
  refine lv_iadd hx hb dX2_readMark_11 ?_
  obtain ⟨v1, ev, hf⟩ := m_bndE hf
  refine m_top ev ?_
  clear ev
  obtain ⟨ca, hf⟩ := m_chkE hf
  refine z_putI (k := 2) (j := 4) (C := RX2) (T := TX2) (N := 12) (fl := zf_2) (ty := .int) X hw_X2_readMark_2 tyX2_ok nmX2 hM rfl zc_2 ca (by decide) fl_X2_readMark_2_4 rfl (tyX2_ok 4 (by decide)) rfl rfl zi_2_4 (Nat.le_of_ble_eq_true rfl) dX2_readMark_12 (fun H locs hM => ?_)
  clear ca
  obtain ⟨S2, ev, hf⟩ := m_bndE hf
  replace hM := z_hS hM ev
  clear ev
  refine lv_aload_n hx hb dX2_readMark_15 rfl (lv_at hl 1 rfl) ?_
  refine lv_iconst (v := (3 : Int32)) hx hb dX2_readMark_16 (by decide) ?_
  obtain ⟨ca, hf⟩ := m_chkE hf
  obtain ⟨o3, ho, hf⟩ := m_calE hf
  refine z_callVi (k := 2) (C := RX2) (T := TX2) (N := 12) (fl := zf_2) X hM rfl zc_2 ca (c_X2_readDigits ho) gX2_readMark_X2_readDigits rfl ⟨rfl, rfl⟩ hd_X2_readDigits ⟨Nat.le_of_ble_eq_true rfl, Nat.le_of_ble_eq_true rfl⟩ rfl hl.1 rfl (Nat.le_of_ble_eq_true rfl) dX2_readMark_17 (fun H locs hM => ?_)
  clear ho
  refine lv_istore_n (lv' := [(3, .int o3.1), (2, .int (zI S 4 x0)), (0, .ref x0), (1, .ref x1)]) hx hb dX2_readMark_20 rfl hl (by decide) rfl (fun ls hl => ?_)
  refine lv_aload_n hx hb dX2_readMark_21 rfl (lv_at hl 2 rfl) ?_
  obtain ⟨ca, hf⟩ := m_chkE hf
  refine z_get (k := 2) (j := 4) (C := RX2) (T := TX2) (N := 12) (fl := zf_2) (v := .int (zI o3.2 4 x0)) X hw_X2_readMark_2 hM rfl zc_2 ca (by decide) fl_X2_readMark_2_4 rfl dX2_readMark_22 ?_
  clear ca
  refine lv_iload_n hx hb dX2_readMark_25 rfl (lv_at hl 1 rfl) ?_
  refine lv_iconst (v := (1 : Int32)) hx hb dX2_readMark_26 (by decide) ?_
  refine lv_iadd hx hb dX2_readMark_27 ?_
  obtain ⟨v4, ev, hf⟩ := m_bndE hf
  refine m_top ev ?_
  clear ev
  refine lv_icmp_ne (tgt := 41) hx hb dX2_readMark_28 (by decide) (fun cc1 => ?_) (fun cc1 => ?_)
  · replace hf := m_ifF hf cc1
    refine lv_iload_n hx hb dX2_readMark_41 rfl (lv_at hl 0 rfl) ?_
    refine lv_sipush (v := (255 : Int32)) hx hb dX2_readMark_42 (by decide) ?_
    refine lv_icmp_gt (tgt := 56) hx hb dX2_readMark_45 (by decide) (fun cc1 => ?_) (fun cc1 => ?_)
    · replace hf := m_ifT hf cc1
      exact w_X2_readMark_56 (x0 := x0) (x2 := (zI S 4 x0)) X hret hf hM (lv_sub hl [2, 1] rfl)
    · replace hf := m_ifF hf cc1
      refine lv_aload_n hx hb dX2_readMark_48 rfl (lv_at hl 3 rfl) ?_
      obtain ⟨ca, hf⟩ := m_chkE hf
      refine z_get (k := 4) (j := 4) (C := RX4) (T := TX4) (N := 7) (fl := zf_4) (v := .int (zI o3.2 4 x1)) X hw_X2_readMark_4 hM rfl zc_4 ca (by decide) fl_X2_readMark_4_4 rfl dX2_readMark_49 ?_
      clear ca
      refine lv_iconst (v := (4 : Int32)) hx hb dX2_readMark_52 (by decide) ?_
      refine lv_icmp_lt (tgt := 64) hx hb dX2_readMark_53 (by decide) (fun cc1 => ?_) (fun cc1 => ?_)
      · replace hf := m_ifT hf cc1
        refine lv_aload_n hx hb dX2_readMark_64 rfl (lv_at hl 2 rfl) ?_
        obtain ⟨ca, hf⟩ := m_chkE hf
        refine z_get (k := 2) (j := 2) (C := RX2) (T := TX2) (N := 12) (fl := zf_2) (v := va_rf (zP o3.2 2 x0)) X hw_X2_readMark_2 hM rfl zc_2 ca (by decide) fl_X2_readMark_2_2 rfl dX2_readMark_65 ?_
        clear ca
        obtain ⟨b5, hb9, hf⟩ := m_calE hf
        refine z_topr hb9 ?_
        clear hb9
        refine lv_aload_n hx hb dX2_readMark_68 rfl (lv_at hl 2 rfl) ?_
        obtain ⟨ca, hf⟩ := m_chkE hf
        refine z_get (k := 2) (j := 4) (C := RX2) (T := TX2) (N := 12) (fl := zf_2) (v := .int (zI o3.2 4 x0)) X hw_X2_readMark_2 hM rfl zc_2 ca (by decide) fl_X2_readMark_2_4 rfl dX2_readMark_69 ?_
        clear ca
        obtain ⟨ca, hf⟩ := m_chkE hf
        obtain ⟨o6, ho, hf⟩ := m_calE hf
        refine z_callVi (k := 6) (C := RX6) (T := TX6) (N := 2) (fl := zf_6) X hM rfl zc_6 ca (c_X6_at ho) gX2_readMark_X6_at rfl ⟨rfl, rfl⟩ hd_X6_at ⟨Nat.le_of_ble_eq_true rfl, Nat.le_of_ble_eq_true rfl⟩ rfl hl.1 rfl (Nat.le_of_ble_eq_true rfl) dX2_readMark_72 (fun H locs hM => ?_)
        clear ho
        obtain ⟨o7, ho, hf⟩ := m_calE hf
        refine z_callSNi X hM (c_X11_isDigit ho) gX2_readMark_X11_isDigit_n136 nn_X2_readMark_136.1.1 nn_X2_readMark_136.1.2 nn_X2_readMark_136.2 rfl ⟨rfl, rfl⟩ hd_X11_isDigit ⟨Nat.le_of_ble_eq_true rfl, Nat.le_of_ble_eq_true rfl⟩ rfl hl.1 rfl (Nat.le_of_ble_eq_true rfl) dX2_readMark_75 (fun H locs hM => ?_)
        clear ho
        refine lv_if_eq (tgt := 91) hx hb dX2_readMark_78 (by decide) (fun cc1 => ?_) (fun cc1 => ?_)
        · replace hf := m_ifT hf cc1
          refine lv_aload_n hx hb dX2_readMark_91 rfl (lv_at hl 3 rfl) ?_
          refine lv_iload_n hx hb dX2_readMark_92 rfl (lv_at hl 0 rfl) ?_
          obtain ⟨ca, hf⟩ := m_chkE hf
          obtain ⟨o8, ho, hf⟩ := m_calE hf
          refine z_callVv (k := 4) (C := RX4) (T := TX4) (N := 7) (fl := zf_4) X hM rfl zc_4 ca (c_X4_putMark ho) gX2_readMark_X4_putMark rfl ⟨rfl, rfl⟩ hd_X4_putMark ⟨Nat.le_of_ble_eq_true rfl, Nat.le_of_ble_eq_true rfl⟩ rfl hl.1 rfl (Nat.le_of_ble_eq_true rfl) dX2_readMark_93 (fun H locs hM => ?_)
          clear ho
          refine lv_iconst (v := (1 : Int32)) hx hb dX2_readMark_96 (by decide) ?_
          obtain ⟨cd, hf⟩ := m_chkE hf
          cases hf
          exact hret H locs _ ls hM (m_nb cd) dX2_readMark_97
        · replace hf := m_ifF hf cc1
          refine lv_aload_n hx hb dX2_readMark_81 rfl (lv_at hl 2 rfl) ?_
          refine lv_iconst (v := (1 : Int32)) hx hb dX2_readMark_82 (by decide) ?_
          refine lv_aload_n hx hb dX2_readMark_83 rfl (lv_at hl 2 rfl) ?_
          obtain ⟨ca, hf⟩ := m_chkE hf
          refine z_get (k := 2) (j := 4) (C := RX2) (T := TX2) (N := 12) (fl := zf_2) (v := .int (zI o7.2 4 x0)) X hw_X2_readMark_2 hM rfl zc_2 ca (by decide) fl_X2_readMark_2_4 rfl dX2_readMark_84 ?_
          clear ca
          obtain ⟨ca, hf⟩ := m_chkE hf
          obtain ⟨o9, ho, hf⟩ := m_calE hf
          refine z_callVi (k := 2) (C := RX2) (T := TX2) (N := 12) (fl := zf_2) X hM rfl zc_2 ca (c_X2_refuse ho) gX2_readMark_X2_refuse rfl ⟨rfl, rfl⟩ hd_X2_refuse ⟨Nat.le_of_ble_eq_true rfl, Nat.le_of_ble_eq_true rfl⟩ rfl hl.1 rfl (Nat.le_of_ble_eq_true rfl) dX2_readMark_87 (fun H locs hM => ?_)
          clear ho
          obtain ⟨cd, hf⟩ := m_chkE hf
          cases hf
          exact hret H locs _ ls hM (m_nb cd) dX2_readMark_90
      · replace hf := m_ifF hf cc1
        exact w_X2_readMark_56 (x0 := x0) (x2 := (zI S 4 x0)) X hret hf hM (lv_sub hl [2, 1] rfl)
  · replace hf := m_ifT hf cc1
    refine lv_aload_n hx hb dX2_readMark_31 rfl (lv_at hl 2 rfl) ?_
    refine lv_iconst (v := (1 : Int32)) hx hb dX2_readMark_32 (by decide) ?_
    refine lv_aload_n hx hb dX2_readMark_33 rfl (lv_at hl 2 rfl) ?_
    obtain ⟨ca, hf⟩ := m_chkE hf
    refine z_get (k := 2) (j := 4) (C := RX2) (T := TX2) (N := 12) (fl := zf_2) (v := .int (zI o3.2 4 x0)) X hw_X2_readMark_2 hM rfl zc_2 ca (by decide) fl_X2_readMark_2_4 rfl dX2_readMark_34 ?_
    clear ca
    obtain ⟨ca, hf⟩ := m_chkE hf
    obtain ⟨o10, ho, hf⟩ := m_calE hf
    refine z_callVi (k := 2) (C := RX2) (T := TX2) (N := 12) (fl := zf_2) X hM rfl zc_2 ca (c_X2_refuse ho) gX2_readMark_X2_refuse rfl ⟨rfl, rfl⟩ hd_X2_refuse ⟨Nat.le_of_ble_eq_true rfl, Nat.le_of_ble_eq_true rfl⟩ rfl hl.1 rfl (Nat.le_of_ble_eq_true rfl) dX2_readMark_37 (fun H locs hM => ?_)
    clear ho
    obtain ⟨cd, hf⟩ := m_chkE hf
    cases hf
    exact hret H locs _ ls hM (m_nb cd) dX2_readMark_40
def f_X2_readMark (x0 : Nat) (x1 : Nat) (S : ZS) : Option (Int32 × ZS) := f_X2_readMark_0 x0 x1 S
theorem c_X2_readMark {l : Launch} {D : va_G} {y : Nat → ClassId} {x0 : Nat} {x1 : Nat} {S : ZS} {o : Int32 × ZS} (hf : f_X2_readMark x0 x1 S = some o) : zMi l yX2_readMark wsX2_readMark ({ frames := 2, cells := 0, slots := 0, locals := 44 } : Room) [.ref x0, .ref x1] D y S o :=
  z_entryI (own := RX2) (cc := cX2_readMark) (maxL := 4) (by decide) rfl rfl (Nat.le_of_ble_eq_true rfl) (fun p e s m args below meth c A0 Q H locs ls X hret hM hl => w_X2_readMark_0 X hret hf hM (lv_sub hl [0, 1] rfl))
theorem hd_X2_readMark : yX2_readMark.cls = RX2 ∧ yX2_readMark.cls ≠ "java/lang/invoke/MethodHandle" ∧ yX2_readMark.cls ≠ "java/lang/invoke/VarHandle" ∧ (parseMethodDescriptor yX2_readMark.desc).map (fun d => d.parameters.length) = some 1 := by decide +kernel
theorem fl_X2_readMarks_2_2 : Cond.fieldLink RX2 28 "MoveTexts$GameReader" "text" "LMoveTexts$Row;" ∈ wsX2_readMarks := by decide +kernel
theorem fl_X2_readMarks_2_4 : Cond.fieldLink RX2 39 "MoveTexts$GameReader" "at" "I" ∈ wsX2_readMarks := by decide +kernel
theorem hw_X2_readMarks_2 : ∀ w ∈ wsX20, w ∈ wsX2_readMarks := by decide +kernel
def f_X2_readMarks_113 (x3 : Int32) (S : ZS) : Option (Int32 × ZS) :=
  m_chk (vp_nar .boolean x3 = x3) (some (x3, S))

set_option maxRecDepth 100000 in
set_option maxHeartbeats 4000000 in
theorem w_X2_readMarks_113 {p : Program} {l : Launch} {e : Env} {s : State} {m : MethodId} {args : Array Value} {below : List Frame} {meth : Method} {c : Code} {Q : State → Prop} {D : va_G} {y : Nat → ClassId} {A0 : Nat → Prop} {o : Int32 × ZS} (X : CallFix p m c cX2_readMarks 5 s args wsX2_readMarks RX2) (hret : zRi p l e ({ frames := 3, cells := 0, slots := 0, locals := 67 } : Room) s m args below meth c Q cX2_readMarks D y A0 .boolean o) {x3 : Int32} {S : ZS} {H : Heap} {locs : List Loc} {ls : Array Slot} (hf : f_X2_readMarks_113 x3 S = some o) (hM : zH D y A0 s H locs S) (hl : lv_has ls 5 [(3, .int x3)]) : W p l e ({ frames := 3, cells := 0, slots := 0, locals := 67 } : Room) s m args below meth c H locs 0 0 Q (F0 m 113 ls []) := by
  obtain ⟨hx, hb, hml, hown, hts⟩ := id X
  unfold f_X2_readMarks_113 at hf
  refine lv_iload_n hx hb dX2_readMarks_113 rfl (lv_at hl 0 rfl) ?_
  obtain ⟨cd, hf⟩ := m_chkE hf
  cases hf
  exact hret H locs _ ls hM (m_nb cd) dX2_readMarks_114
def f_X2_readMarks_69s (self69 : Nat → Nat → Int32 → Int32 → ZS → Option (Int32 × ZS)) (x0 : Nat) (x1 : Nat) (x3 : Int32) (x4 : Int32) (S : ZS) : Option (Int32 × ZS) :=
  m_if ((2000 : Int32) ≤ x4) (
  f_X2_readMarks_113 x3 S
  ) (
  m_if (x3 = 0) (
  f_X2_readMarks_113 x3 S
  ) (
  m_chk (x0 ∈ zL S ∧ zK S x0 = 2) (
  m_cal (zP S 2 x0) (fun b1 =>
  m_chk (x0 ∈ zL S ∧ zK S x0 = 2) (
  m_chk (b1 ∈ zL S ∧ zK S b1 = 6) (
  m_cal (f_X6_at b1 (zI S 4 x0) S) (fun o2 =>
  m_if (o2.1 = (36 : Int32)) (
  m_chk (x0 ∈ zL o2.2 ∧ zK o2.2 x0 = 2) (
  m_cal (f_X2_readMark x0 x1 o2.2) (fun o3 =>
  m_chk (x0 ∈ zL o3.2 ∧ zK o3.2 x0 = 2) (
  m_cal (f_X2_skipBlanks x0 o3.2) (fun o4 =>
  m_bnd (x4 + (1 : Int32)) (fun v5 =>
  self69 x0 x1 o3.1 v5 o4.2)))))
  ) (
  f_X2_readMarks_113 x3 o2.2
  ))))))
  )
  )

set_option maxRecDepth 100000 in
set_option maxHeartbeats 4000000 in
theorem ws_X2_readMarks_69 {p : Program} {l : Launch} {e : Env} {s : State} {m : MethodId} {args : Array Value} {below : List Frame} {meth : Method} {c : Code} {Q : State → Prop} {D : va_G} {y : Nat → ClassId} {A0 : Nat → Prop} {o : Int32 × ZS} (X : CallFix p m c cX2_readMarks 5 s args wsX2_readMarks RX2) (hret : zRi p l e ({ frames := 3, cells := 0, slots := 0, locals := 67 } : Room) s m args below meth c Q cX2_readMarks D y A0 .boolean o) {self69 : Nat → Nat → Int32 → Int32 → ZS → Option (Int32 × ZS)} (hself69 : ∀ (x0 : Nat) (x1 : Nat) (x3 : Int32) (x4 : Int32) (S : ZS) (H : Heap) (locs : List Loc) (ls : Array Slot), self69 x0 x1 x3 x4 S = some o → zH D y A0 s H locs S → lv_has ls 5 [(0, .ref x0), (1, .ref x1), (3, .int x3), (4, .int x4)] → W p l e ({ frames := 3, cells := 0, slots := 0, locals := 67 } : Room) s m args below meth c H locs 0 0 Q (F0 m 69 ls [])) {x0 : Nat} {x1 : Nat} {x3 : Int32} {x4 : Int32} {S : ZS} {H : Heap} {locs : List Loc} {ls : Array Slot} (hf : f_X2_readMarks_69s self69 x0 x1 x3 x4 S = some o) (hM : zH D y A0 s H locs S) (hl : lv_has ls 5 [(0, .ref x0), (1, .ref x1), (3, .int x3), (4, .int x4)]) : W p l e ({ frames := 3, cells := 0, slots := 0, locals := 67 } : Room) s m args below meth c H locs 0 0 Q (F0 m 69 ls []) := by
  obtain ⟨hx, hb, hml, hown, hts⟩ := id X
  unfold f_X2_readMarks_69s at hf
  refine lv_iload hx hb dX2_readMarks_69 (lv_at hl 3 rfl) ?_
  refine lv_sipush (v := (2000 : Int32)) hx hb dX2_readMarks_71 (by decide) ?_
  refine lv_icmp_ge (tgt := 113) hx hb dX2_readMarks_74 (by decide) (fun cc1 => ?_) (fun cc1 => ?_)
  · replace hf := m_ifT hf cc1
    exact w_X2_readMarks_113 (x3 := x3) X hret hf hM (lv_sub hl [2] rfl)
  · replace hf := m_ifF hf cc1
    refine lv_iload_n hx hb dX2_readMarks_77 rfl (lv_at hl 2 rfl) ?_
    refine lv_if_eq (tgt := 113) hx hb dX2_readMarks_78 (by decide) (fun cc1 => ?_) (fun cc1 => ?_)
    · replace hf := m_ifT hf cc1
      exact w_X2_readMarks_113 (x3 := x3) X hret hf hM (lv_sub hl [2] rfl)
    · replace hf := m_ifF hf cc1
      refine lv_aload_n hx hb dX2_readMarks_81 rfl (lv_at hl 0 rfl) ?_
      obtain ⟨ca, hf⟩ := m_chkE hf
      refine z_get (k := 2) (j := 2) (C := RX2) (T := TX2) (N := 12) (fl := zf_2) (v := va_rf (zP S 2 x0)) X hw_X2_readMarks_2 hM rfl zc_2 ca (by decide) fl_X2_readMarks_2_2 rfl dX2_readMarks_82 ?_
      clear ca
      obtain ⟨b1, hb9, hf⟩ := m_calE hf
      refine z_topr hb9 ?_
      clear hb9
      refine lv_aload_n hx hb dX2_readMarks_85 rfl (lv_at hl 0 rfl) ?_
      obtain ⟨ca, hf⟩ := m_chkE hf
      refine z_get (k := 2) (j := 4) (C := RX2) (T := TX2) (N := 12) (fl := zf_2) (v := .int (zI S 4 x0)) X hw_X2_readMarks_2 hM rfl zc_2 ca (by decide) fl_X2_readMarks_2_4 rfl dX2_readMarks_86 ?_
      clear ca
      obtain ⟨ca, hf⟩ := m_chkE hf
      obtain ⟨o2, ho, hf⟩ := m_calE hf
      refine z_callVi (k := 6) (C := RX6) (T := TX6) (N := 2) (fl := zf_6) X hM rfl zc_6 ca (c_X6_at ho) gX2_readMarks_X6_at rfl ⟨rfl, rfl⟩ hd_X6_at ⟨Nat.le_of_ble_eq_true rfl, Nat.le_of_ble_eq_true rfl⟩ rfl hl.1 rfl (Nat.le_of_ble_eq_true rfl) dX2_readMarks_89 (fun H locs hM => ?_)
      clear ho
      refine lv_bipush (v := (36 : Int32)) hx hb dX2_readMarks_92 (by decide) ?_
      refine lv_icmp_ne (tgt := 113) hx hb dX2_readMarks_94 (by decide) (fun cc1 => ?_) (fun cc1 => ?_)
      · replace hf := m_ifF hf cc1
        exact w_X2_readMarks_113 (x3 := x3) X hret hf hM (lv_sub hl [2] rfl)
      · replace hf := m_ifT hf cc1
        refine lv_aload_n hx hb dX2_readMarks_97 rfl (lv_at hl 0 rfl) ?_
        refine lv_aload_n hx hb dX2_readMarks_98 rfl (lv_at hl 1 rfl) ?_
        obtain ⟨ca, hf⟩ := m_chkE hf
        obtain ⟨o3, ho, hf⟩ := m_calE hf
        refine z_callVi (k := 2) (C := RX2) (T := TX2) (N := 12) (fl := zf_2) X hM rfl zc_2 ca (c_X2_readMark ho) gX2_readMarks_X2_readMark rfl ⟨rfl, rfl⟩ hd_X2_readMark ⟨Nat.le_of_ble_eq_true rfl, Nat.le_of_ble_eq_true rfl⟩ rfl hl.1 rfl (Nat.le_of_ble_eq_true rfl) dX2_readMarks_99 (fun H locs hM => ?_)
        clear ho
        refine lv_istore_n (lv' := [(3, .int o3.1), (0, .ref x0), (1, .ref x1), (4, .int x4)]) hx hb dX2_readMarks_102 rfl hl (by decide) rfl (fun ls hl => ?_)
        refine lv_aload_n hx hb dX2_readMarks_103 rfl (lv_at hl 1 rfl) ?_
        obtain ⟨ca, hf⟩ := m_chkE hf
        obtain ⟨o4, ho, hf⟩ := m_calE hf
        refine z_callVv (k := 2) (C := RX2) (T := TX2) (N := 12) (fl := zf_2) X hM rfl zc_2 ca (c_X2_skipBlanks ho) gX2_readMarks_X2_skipBlanks rfl ⟨rfl, rfl⟩ hd_X2_skipBlanks ⟨Nat.le_of_ble_eq_true rfl, Nat.le_of_ble_eq_true rfl⟩ rfl hl.1 rfl (Nat.le_of_ble_eq_true rfl) dX2_readMarks_104 (fun H locs hM => ?_)
        clear ho
        obtain ⟨v5, ev, hf⟩ := m_bndE hf
        refine lv_iinc (v := v5) (lv' := [(4, .int v5), (3, .int o3.1), (0, .ref x0), (1, .ref x1)]) hx hb dX2_readMarks_107 hl (k := 3) rfl (by rw [ev]; rfl) (by decide) rfl (fun ls hl => ?_)
        clear ev
        refine lv_goto (tgt := 69) hx hb dX2_readMarks_110 (by decide) ?_
        exact hself69 x0 x1 o3.1 v5 _ _ _ _ hf hM (lv_sub hl [2, 3, 1, 0] rfl)
def f_X2_readMarks_69 : Nat → Nat → Nat → Int32 → Int32 → ZS → Option (Int32 × ZS)
  | 0 => fun _ _ _ _ _ => none
  | n + 1 => f_X2_readMarks_69s (f_X2_readMarks_69 n)
theorem w_X2_readMarks_69 {p : Program} {l : Launch} {e : Env} {s : State} {m : MethodId} {args : Array Value} {below : List Frame} {meth : Method} {c : Code} {Q : State → Prop} {D : va_G} {y : Nat → ClassId} {A0 : Nat → Prop} {o : Int32 × ZS} (X : CallFix p m c cX2_readMarks 5 s args wsX2_readMarks RX2) (hret : zRi p l e ({ frames := 3, cells := 0, slots := 0, locals := 67 } : Room) s m args below meth c Q cX2_readMarks D y A0 .boolean o) (n : Nat) : ∀ (x0 : Nat) (x1 : Nat) (x3 : Int32) (x4 : Int32) (S : ZS) (H : Heap) (locs : List Loc) (ls : Array Slot), f_X2_readMarks_69 n x0 x1 x3 x4 S = some o → zH D y A0 s H locs S → lv_has ls 5 [(0, .ref x0), (1, .ref x1), (3, .int x3), (4, .int x4)] → W p l e ({ frames := 3, cells := 0, slots := 0, locals := 67 } : Room) s m args below meth c H locs 0 0 Q (F0 m 69 ls []) := by
  induction n with
  | zero => intro x0 x1 x3 x4 S H locs ls hf; cases hf
  | succ n ih => intro x0 x1 x3 x4 S H locs ls hf hM hl; exact ws_X2_readMarks_69 X hret (self69 := f_X2_readMarks_69 n) ih hf hM hl
def f_X2_readMarks_64 (x0 : Nat) (x1 : Nat) (S : ZS) : Option (Int32 × ZS) :=
  f_X2_readMarks_69 mFuel x0 x1 (1 : Int32) (0 : Int32) S

set_option maxRecDepth 100000 in
set_option maxHeartbeats 4000000 in
theorem w_X2_readMarks_64 {p : Program} {l : Launch} {e : Env} {s : State} {m : MethodId} {args : Array Value} {below : List Frame} {meth : Method} {c : Code} {Q : State → Prop} {D : va_G} {y : Nat → ClassId} {A0 : Nat → Prop} {o : Int32 × ZS} (X : CallFix p m c cX2_readMarks 5 s args wsX2_readMarks RX2) (hret : zRi p l e ({ frames := 3, cells := 0, slots := 0, locals := 67 } : Room) s m args below meth c Q cX2_readMarks D y A0 .boolean o) {x0 : Nat} {x1 : Nat} {S : ZS} {H : Heap} {locs : List Loc} {ls : Array Slot} (hf : f_X2_readMarks_64 x0 x1 S = some o) (hM : zH D y A0 s H locs S) (hl : lv_has ls 5 [(0, .ref x0), (1, .ref x1)]) : W p l e ({ frames := 3, cells := 0, slots := 0, locals := 67 } : Room) s m args below meth c H locs 0 0 Q (F0 m 64 ls []) := by
  obtain ⟨hx, hb, hml, hown, hts⟩ := id X
  unfold f_X2_readMarks_64 at hf
  refine lv_iconst (v := (1 : Int32)) hx hb dX2_readMarks_64 (by decide) ?_
  refine lv_istore_n (lv' := [(3, .int (1 : Int32)), (0, .ref x0), (1, .ref x1)]) hx hb dX2_readMarks_65 rfl hl (by decide) rfl (fun ls hl => ?_)
  refine lv_iconst (v := (0 : Int32)) hx hb dX2_readMarks_66 (by decide) ?_
  refine lv_istore (lv' := [(4, .int (0 : Int32)), (3, .int (1 : Int32)), (0, .ref x0), (1, .ref x1)]) hx hb dX2_readMarks_67 hl (by decide) rfl (fun ls hl => ?_)
  exact w_X2_readMarks_69 X hret _ x0 x1 (1 : Int32) (0 : Int32) _ _ _ _ hf hM (lv_sub hl [2, 3, 1, 0] rfl)
def f_X2_readMarks_56 (x0 : Nat) (x1 : Nat) (t0 : Int32) (t1 : Int32) (t2 : Nat) (S : ZS) : Option (Int32 × ZS) :=
  m_bnd (t1 + t0) (fun v1 =>
  m_chk (t2 ∈ zL S ∧ zK S t2 = 2) (
  m_bnd (zsI S 4 t2 v1) (fun S2 =>
  m_chk (x0 ∈ zL S2 ∧ zK S2 x0 = 2) (
  m_cal (f_X2_skipBlanks x0 S2) (fun o3 =>
  f_X2_readMarks_64 x0 x1 o3.2)))))

set_option maxRecDepth 100000 in
set_option maxHeartbeats 4000000 in
theorem w_X2_readMarks_56 {p : Program} {l : Launch} {e : Env} {s : State} {m : MethodId} {args : Array Value} {below : List Frame} {meth : Method} {c : Code} {Q : State → Prop} {D : va_G} {y : Nat → ClassId} {A0 : Nat → Prop} {o : Int32 × ZS} (X : CallFix p m c cX2_readMarks 5 s args wsX2_readMarks RX2) (hret : zRi p l e ({ frames := 3, cells := 0, slots := 0, locals := 67 } : Room) s m args below meth c Q cX2_readMarks D y A0 .boolean o) {x0 : Nat} {x1 : Nat} {t0 : Int32} {t1 : Int32} {t2 : Nat} {S : ZS} {H : Heap} {locs : List Loc} {ls : Array Slot} (hf : f_X2_readMarks_56 x0 x1 t0 t1 t2 S = some o) (hM : zH D y A0 s H locs S) (hl : lv_has ls 5 [(0, .ref x0), (1, .ref x1)]) : W p l e ({ frames := 3, cells := 0, slots := 0, locals := 67 } : Room) s m args below meth c H locs 0 0 Q (F0 m 56 ls [.int t0, .int t1, .ref t2]) := by
  obtain ⟨hx, hb, hml, hown, hts⟩ := id X
  unfold f_X2_readMarks_56 at hf
  refine lv_iadd hx hb dX2_readMarks_56 ?_
  obtain ⟨v1, ev, hf⟩ := m_bndE hf
  refine m_top ev ?_
  clear ev
  obtain ⟨ca, hf⟩ := m_chkE hf
  refine z_putI (k := 2) (j := 4) (C := RX2) (T := TX2) (N := 12) (fl := zf_2) (ty := .int) X hw_X2_readMarks_2 tyX2_ok nmX2 hM rfl zc_2 ca (by decide) fl_X2_readMarks_2_4 rfl (tyX2_ok 4 (by decide)) rfl rfl zi_2_4 (Nat.le_of_ble_eq_true rfl) dX2_readMarks_57 (fun H locs hM => ?_)
  clear ca
  obtain ⟨S2, ev, hf⟩ := m_bndE hf
  replace hM := z_hS hM ev
  clear ev
  refine lv_aload_n hx hb dX2_readMarks_60 rfl (lv_at hl 0 rfl) ?_
  obtain ⟨ca, hf⟩ := m_chkE hf
  obtain ⟨o3, ho, hf⟩ := m_calE hf
  refine z_callVv (k := 2) (C := RX2) (T := TX2) (N := 12) (fl := zf_2) X hM rfl zc_2 ca (c_X2_skipBlanks ho) gX2_readMarks_X2_skipBlanks rfl ⟨rfl, rfl⟩ hd_X2_skipBlanks ⟨Nat.le_of_ble_eq_true rfl, Nat.le_of_ble_eq_true rfl⟩ rfl hl.1 rfl (Nat.le_of_ble_eq_true rfl) dX2_readMarks_61 (fun H locs hM => ?_)
  clear ho
  exact w_X2_readMarks_64 (x0 := x0) (x1 := x1) X hret hf hM (lv_sub hl [0, 1] rfl)
def f_X2_readMarks_0 (x0 : Nat) (x1 : Nat) (S : ZS) : Option (Int32 × ZS) :=
  m_chk (x0 ∈ zL S ∧ zK S x0 = 2) (
  m_cal (f_X2_skipBlanks x0 S) (fun o1 =>
  m_chk (x0 ∈ zL o1.2 ∧ zK o1.2 x0 = 2) (
  m_cal (zP o1.2 2 x0) (fun b2 =>
  m_chk (x0 ∈ zL o1.2 ∧ zK o1.2 x0 = 2) (
  m_chk (b2 ∈ zL o1.2 ∧ zK o1.2 b2 = 6) (
  m_cal (f_X6_at b2 (zI o1.2 4 x0) o1.2) (fun o3 =>
  m_chk (x0 ∈ zL o3.2 ∧ zK o3.2 x0 = 2) (
  m_cal (zP o3.2 2 x0) (fun b4 =>
  m_chk (x0 ∈ zL o3.2 ∧ zK o3.2 x0 = 2) (
  m_bnd ((zI o3.2 4 x0) + (1 : Int32)) (fun v5 =>
  m_chk (b4 ∈ zL o3.2 ∧ zK o3.2 b4 = 6) (
  m_cal (f_X6_at b4 v5 o3.2) (fun o6 =>
  m_cal (f_X2_shortMark o3.1 o6.1 o6.2) (fun o7 =>
  m_if (o7.1 ≤ 0) (
  f_X2_readMarks_64 x0 x1 o7.2
  ) (
  m_chk (x1 ∈ zL o7.2 ∧ zK o7.2 x1 = 4) (
  m_cal (f_X4_putMark x1 o7.1 o7.2) (fun o8 =>
  m_chk (x0 ∈ zL o8.2 ∧ zK o8.2 x0 = 2) (
  m_if (o7.1 ≤ (2 : Int32)) (
  f_X2_readMarks_56 x0 x1 (1 : Int32) (zI o8.2 4 x0) x0 o8.2
  ) (
  f_X2_readMarks_56 x0 x1 (2 : Int32) (zI o8.2 4 x0) x0 o8.2
  ))))
  )))))))))))))))

set_option maxRecDepth 100000 in
set_option maxHeartbeats 4000000 in
theorem w_X2_readMarks_0 {p : Program} {l : Launch} {e : Env} {s : State} {m : MethodId} {args : Array Value} {below : List Frame} {meth : Method} {c : Code} {Q : State → Prop} {D : va_G} {y : Nat → ClassId} {A0 : Nat → Prop} {o : Int32 × ZS} (X : CallFix p m c cX2_readMarks 5 s args wsX2_readMarks RX2) (hret : zRi p l e ({ frames := 3, cells := 0, slots := 0, locals := 67 } : Room) s m args below meth c Q cX2_readMarks D y A0 .boolean o) {x0 : Nat} {x1 : Nat} {S : ZS} {H : Heap} {locs : List Loc} {ls : Array Slot} (hf : f_X2_readMarks_0 x0 x1 S = some o) (hM : zH D y A0 s H locs S) (hl : lv_has ls 5 [(0, .ref x0), (1, .ref x1)]) : W p l e ({ frames := 3, cells := 0, slots := 0, locals := 67 } : Room) s m args below meth c H locs 0 0 Q (F0 m 0 ls []) := by
  obtain ⟨hx, hb, hml, hown, hts⟩ := id X
  unfold f_X2_readMarks_0 at hf
  refine lv_aload_n hx hb dX2_readMarks_0 rfl (lv_at hl 0 rfl) ?_
  obtain ⟨ca, hf⟩ := m_chkE hf
  obtain ⟨o1, ho, hf⟩ := m_calE hf
  refine z_callVv (k := 2) (C := RX2) (T := TX2) (N := 12) (fl := zf_2) X hM rfl zc_2 ca (c_X2_skipBlanks ho) gX2_readMarks_X2_skipBlanks rfl ⟨rfl, rfl⟩ hd_X2_skipBlanks ⟨Nat.le_of_ble_eq_true rfl, Nat.le_of_ble_eq_true rfl⟩ rfl hl.1 rfl (Nat.le_of_ble_eq_true rfl) dX2_readMarks_1 (fun H locs hM => ?_)
  clear ho
  refine lv_aload_n hx hb dX2_readMarks_4 rfl (lv_at hl 0 rfl) ?_
  obtain ⟨ca, hf⟩ := m_chkE hf
  refine z_get (k := 2) (j := 2) (C := RX2) (T := TX2) (N := 12) (fl := zf_2) (v := va_rf (zP o1.2 2 x0)) X hw_X2_readMarks_2 hM rfl zc_2 ca (by decide) fl_X2_readMarks_2_2 rfl dX2_readMarks_5 ?_
  clear ca
  obtain ⟨b2, hb9, hf⟩ := m_calE hf
  refine z_topr hb9 ?_
  clear hb9
  refine lv_aload_n hx hb dX2_readMarks_8 rfl (lv_at hl 0 rfl) ?_
  obtain ⟨ca, hf⟩ := m_chkE hf
  refine z_get (k := 2) (j := 4) (C := RX2) (T := TX2) (N := 12) (fl := zf_2) (v := .int (zI o1.2 4 x0)) X hw_X2_readMarks_2 hM rfl zc_2 ca (by decide) fl_X2_readMarks_2_4 rfl dX2_readMarks_9 ?_
  clear ca
  obtain ⟨ca, hf⟩ := m_chkE hf
  obtain ⟨o3, ho, hf⟩ := m_calE hf
  refine z_callVi (k := 6) (C := RX6) (T := TX6) (N := 2) (fl := zf_6) X hM rfl zc_6 ca (c_X6_at ho) gX2_readMarks_X6_at rfl ⟨rfl, rfl⟩ hd_X6_at ⟨Nat.le_of_ble_eq_true rfl, Nat.le_of_ble_eq_true rfl⟩ rfl hl.1 rfl (Nat.le_of_ble_eq_true rfl) dX2_readMarks_12 (fun H locs hM => ?_)
  clear ho
  refine lv_aload_n hx hb dX2_readMarks_15 rfl (lv_at hl 0 rfl) ?_
  obtain ⟨ca, hf⟩ := m_chkE hf
  refine z_get (k := 2) (j := 2) (C := RX2) (T := TX2) (N := 12) (fl := zf_2) (v := va_rf (zP o3.2 2 x0)) X hw_X2_readMarks_2 hM rfl zc_2 ca (by decide) fl_X2_readMarks_2_2 rfl dX2_readMarks_16 ?_
  clear ca
  obtain ⟨b4, hb9, hf⟩ := m_calE hf
  refine z_topr hb9 ?_
  clear hb9
  refine lv_aload_n hx hb dX2_readMarks_19 rfl (lv_at hl 0 rfl) ?_
  obtain ⟨ca, hf⟩ := m_chkE hf
  refine z_get (k := 2) (j := 4) (C := RX2) (T := TX2) (N := 12) (fl := zf_2) (v := .int (zI o3.2 4 x0)) X hw_X2_readMarks_2 hM rfl zc_2 ca (by decide) fl_X2_readMarks_2_4 rfl dX2_readMarks_20 ?_
  clear ca
  refine lv_iconst (v := (1 : Int32)) hx hb dX2_readMarks_23 (by decide) ?_
  refine lv_iadd hx hb dX2_readMarks_24 ?_
  obtain ⟨v5, ev, hf⟩ := m_bndE hf
  refine m_top ev ?_
  clear ev
  obtain ⟨ca, hf⟩ := m_chkE hf
  obtain ⟨o6, ho, hf⟩ := m_calE hf
  refine z_callVi (k := 6) (C := RX6) (T := TX6) (N := 2) (fl := zf_6) X hM rfl zc_6 ca (c_X6_at ho) gX2_readMarks_X6_at rfl ⟨rfl, rfl⟩ hd_X6_at ⟨Nat.le_of_ble_eq_true rfl, Nat.le_of_ble_eq_true rfl⟩ rfl hl.1 rfl (Nat.le_of_ble_eq_true rfl) dX2_readMarks_25 (fun H locs hM => ?_)
  clear ho
  obtain ⟨o7, ho, hf⟩ := m_calE hf
  refine z_callSi X hM (c_X2_shortMark ho) gX2_readMarks_X2_shortMark rfl ⟨rfl, rfl⟩ hd_X2_shortMark ⟨Nat.le_of_ble_eq_true rfl, Nat.le_of_ble_eq_true rfl⟩ rfl hl.1 rfl (Nat.le_of_ble_eq_true rfl) dX2_readMarks_28 (fun H locs hM => ?_)
  clear ho
  refine lv_istore_n (lv' := [(2, .int o7.1), (0, .ref x0), (1, .ref x1)]) hx hb dX2_readMarks_31 rfl hl (by decide) rfl (fun ls hl => ?_)
  refine lv_iload_n hx hb dX2_readMarks_32 rfl (lv_at hl 0 rfl) ?_
  refine lv_if_le (tgt := 64) hx hb dX2_readMarks_33 (by decide) (fun cc1 => ?_) (fun cc1 => ?_)
  · replace hf := m_ifT hf cc1
    exact w_X2_readMarks_64 (x0 := x0) (x1 := x1) X hret hf hM (lv_sub hl [1, 2] rfl)
  · replace hf := m_ifF hf cc1
    refine lv_aload_n hx hb dX2_readMarks_36 rfl (lv_at hl 2 rfl) ?_
    refine lv_iload_n hx hb dX2_readMarks_37 rfl (lv_at hl 0 rfl) ?_
    obtain ⟨ca, hf⟩ := m_chkE hf
    obtain ⟨o8, ho, hf⟩ := m_calE hf
    refine z_callVv (k := 4) (C := RX4) (T := TX4) (N := 7) (fl := zf_4) X hM rfl zc_4 ca (c_X4_putMark ho) gX2_readMarks_X4_putMark rfl ⟨rfl, rfl⟩ hd_X4_putMark ⟨Nat.le_of_ble_eq_true rfl, Nat.le_of_ble_eq_true rfl⟩ rfl hl.1 rfl (Nat.le_of_ble_eq_true rfl) dX2_readMarks_38 (fun H locs hM => ?_)
    clear ho
    refine lv_aload_n hx hb dX2_readMarks_41 rfl (lv_at hl 1 rfl) ?_
    refine lv_dup hx hb dX2_readMarks_42 rfl ?_
    obtain ⟨ca, hf⟩ := m_chkE hf
    refine z_get (k := 2) (j := 4) (C := RX2) (T := TX2) (N := 12) (fl := zf_2) (v := .int (zI o8.2 4 x0)) X hw_X2_readMarks_2 hM rfl zc_2 ca (by decide) fl_X2_readMarks_2_4 rfl dX2_readMarks_43 ?_
    clear ca
    refine lv_iload_n hx hb dX2_readMarks_46 rfl (lv_at hl 0 rfl) ?_
    refine lv_iconst (v := (2 : Int32)) hx hb dX2_readMarks_47 (by decide) ?_
    refine lv_icmp_le (tgt := 55) hx hb dX2_readMarks_48 (by decide) (fun cc1 => ?_) (fun cc1 => ?_)
    · replace hf := m_ifT hf cc1
      refine lv_iconst (v := (1 : Int32)) hx hb dX2_readMarks_55 (by decide) ?_
      exact w_X2_readMarks_56 (x0 := x0) (x1 := x1) (t0 := (1 : Int32)) (t1 := (zI o8.2 4 x0)) (t2 := x0) X hret hf hM (lv_sub hl [1, 2] rfl)
    · replace hf := m_ifF hf cc1
      refine lv_iconst (v := (2 : Int32)) hx hb dX2_readMarks_51 (by decide) ?_
      refine lv_goto (tgt := 56) hx hb dX2_readMarks_52 (by decide) ?_
      exact w_X2_readMarks_56 (x0 := x0) (x1 := x1) (t0 := (2 : Int32)) (t1 := (zI o8.2 4 x0)) (t2 := x0) X hret hf hM (lv_sub hl [1, 2] rfl)
def f_X2_readMarks (x0 : Nat) (x1 : Nat) (S : ZS) : Option (Int32 × ZS) := f_X2_readMarks_0 x0 x1 S
theorem c_X2_readMarks {l : Launch} {D : va_G} {y : Nat → ClassId} {x0 : Nat} {x1 : Nat} {S : ZS} {o : Int32 × ZS} (hf : f_X2_readMarks x0 x1 S = some o) : zMi l yX2_readMarks wsX2_readMarks ({ frames := 3, cells := 0, slots := 0, locals := 67 } : Room) [.ref x0, .ref x1] D y S o :=
  z_entryI (own := RX2) (cc := cX2_readMarks) (maxL := 5) (by decide) rfl rfl (Nat.le_of_ble_eq_true rfl) (fun p e s m args below meth c A0 Q H locs ls X hret hM hl => w_X2_readMarks_0 X hret hf hM (lv_sub hl [0, 1] rfl))
theorem hd_X2_readMarks : yX2_readMarks.cls = RX2 ∧ yX2_readMarks.cls ≠ "java/lang/invoke/MethodHandle" ∧ yX2_readMarks.cls ≠ "java/lang/invoke/VarHandle" ∧ (parseMethodDescriptor yX2_readMarks.desc).map (fun d => d.parameters.length) = some 1 := by decide +kernel
def g_X3_putQuoted_34 (Pw : Int32 → ZS → Prop) (self2 : Nat → Nat → Int32 → ZS → Nat → Nat → Prop) (x0 : Nat) (x1 : Nat) (x2 : Int32) (x3 : Int32) (S : ZS) (C T : Nat) : Prop :=
  m_chkP (x1 ∈ zL S ∧ zK S x1 = 6) (
  m_gal (C) (T) (fun mc ms Pw => g_X6_put x1 x3 S mc ms Pw) (fun r2 S3 C4 T5 =>
  m_bndP (x2 + (1 : Int32)) (fun v6 =>
  self2 x0 x1 v6 S3 (C4) (T5))))

set_option maxRecDepth 100000 in
set_option maxHeartbeats 4000000 in
theorem w_X3_putQuoted_34 {p : Program} {l : Launch} {e : Env} {s : State} {m : MethodId} {args : Array Value} {below : List Frame} {meth : Method} {c : Code} {Q : State → Prop} {D : va_G} {y : Nat → ClassId} {A0 : Nat → Prop} {kc kt : Nat} {Pw : Int32 → ZS → Prop} (X : CallFix p m c cX3_putQuoted 4 s args wsX3_putQuoted RX3) (hret : zQv p l e ({ frames := 2, cells := kc, slots := kt, locals := 82 } : Room) s m args below meth c Q cX3_putQuoted D y A0 Pw) {self2 : Nat → Nat → Int32 → ZS → Nat → Nat → Prop} (hself2 : ∀ (x0 : Nat) (x1 : Nat) (x2 : Int32) (S : ZS) (C T : Nat) (H : Heap) (locs : List Loc) (ls : Array Slot), self2 x0 x1 x2 S C T → C ≤ kc ∧ T ≤ kt → zH D y A0 s H locs S → lv_has ls 4 [(0, .ref x0), (1, .ref x1), (2, .int x2)] → W p l e ({ frames := 2, cells := kc, slots := kt, locals := 82 } : Room) s m args below meth c H locs (kc - C) (kt - T) Q (F0 m 2 ls [])) {x0 : Nat} {x1 : Nat} {x2 : Int32} {x3 : Int32} {S : ZS} {C T : Nat} {H : Heap} {locs : List Loc} {ls : Array Slot} (hf : g_X3_putQuoted_34 Pw self2 x0 x1 x2 x3 S C T) (hCT : C ≤ kc ∧ T ≤ kt) (hM : zH D y A0 s H locs S) (hl : lv_has ls 4 [(0, .ref x0), (1, .ref x1), (2, .int x2), (3, .int x3)]) : W p l e ({ frames := 2, cells := kc, slots := kt, locals := 82 } : Room) s m args below meth c H locs (kc - C) (kt - T) Q (F0 m 34 ls []) := by
  obtain ⟨hx, hb, hml, hown, hts⟩ := id X
  unfold g_X3_putQuoted_34 at hf
  refine lv_aload_n hx hb dX3_putQuoted_34 rfl (lv_at hl 1 rfl) ?_
  refine lv_iload_n hx hb dX3_putQuoted_35 rfl (lv_at hl 3 rfl) ?_
  obtain ⟨ca, hf⟩ := m_chkPE hf
  obtain ⟨mc, ms, hcm, ho⟩ := m_galE hf
  refine z_wcallVv (k := 6) (C := RX6) (T := TX6) (N := 2) (fl := zf_6) X hM rfl zc_6 ca (c_X6_put ho) gX3_putQuoted_X6_put rfl ⟨rfl, rfl⟩ ⟨by show kc - (C) + mc ≤ kc; omega, by show kt - (T) + ms ≤ kt; omega⟩ hd_X6_put ⟨Nat.le_of_ble_eq_true rfl, Nat.le_of_ble_eq_true rfl⟩ rfl hl.1 rfl (Nat.le_of_ble_eq_true rfl) dX3_putQuoted_36 (fun S3 H locs hf hM => ?_)
  refine z_eqCS (c2 := kc - (C - mc)) (t2 := kt - (T - ms)) (by omega) (by omega) ?_
  replace hCT : C - mc ≤ kc ∧ T - ms ≤ kt := by omega
  generalize C - mc = C4 at hf hCT ⊢
  generalize T - ms = T5 at hf hCT ⊢
  clear ho hcm
  obtain ⟨v6, ev, hf⟩ := m_bndPE hf
  refine lv_iinc (v := v6) (lv' := [(2, .int v6), (0, .ref x0), (1, .ref x1), (3, .int x3)]) hx hb dX3_putQuoted_39 hl (k := 2) rfl (by rw [ev]; rfl) (by decide) rfl (fun ls hl => ?_)
  clear ev
  refine lv_goto (tgt := 2) hx hb dX3_putQuoted_42 (by decide) ?_
  exact hself2 x0 x1 v6 _ _ _ _ _ _ hf hCT hM (lv_sub hl [1, 2, 0] rfl)
def g_X3_putQuoted_28 (Pw : Int32 → ZS → Prop) (self2 : Nat → Nat → Int32 → ZS → Nat → Nat → Prop) (x0 : Nat) (x1 : Nat) (x2 : Int32) (x3 : Int32) (S : ZS) (C T : Nat) : Prop :=
  m_chkP (x1 ∈ zL S ∧ zK S x1 = 6) (
  m_gal (C) (T) (fun mc ms Pw => g_X6_put x1 (92 : Int32) S mc ms Pw) (fun r2 S3 C4 T5 =>
  g_X3_putQuoted_34 Pw self2 x0 x1 x2 x3 S3 (C4) (T5)))

set_option maxRecDepth 100000 in
set_option maxHeartbeats 4000000 in
theorem w_X3_putQuoted_28 {p : Program} {l : Launch} {e : Env} {s : State} {m : MethodId} {args : Array Value} {below : List Frame} {meth : Method} {c : Code} {Q : State → Prop} {D : va_G} {y : Nat → ClassId} {A0 : Nat → Prop} {kc kt : Nat} {Pw : Int32 → ZS → Prop} (X : CallFix p m c cX3_putQuoted 4 s args wsX3_putQuoted RX3) (hret : zQv p l e ({ frames := 2, cells := kc, slots := kt, locals := 82 } : Room) s m args below meth c Q cX3_putQuoted D y A0 Pw) {self2 : Nat → Nat → Int32 → ZS → Nat → Nat → Prop} (hself2 : ∀ (x0 : Nat) (x1 : Nat) (x2 : Int32) (S : ZS) (C T : Nat) (H : Heap) (locs : List Loc) (ls : Array Slot), self2 x0 x1 x2 S C T → C ≤ kc ∧ T ≤ kt → zH D y A0 s H locs S → lv_has ls 4 [(0, .ref x0), (1, .ref x1), (2, .int x2)] → W p l e ({ frames := 2, cells := kc, slots := kt, locals := 82 } : Room) s m args below meth c H locs (kc - C) (kt - T) Q (F0 m 2 ls [])) {x0 : Nat} {x1 : Nat} {x2 : Int32} {x3 : Int32} {S : ZS} {C T : Nat} {H : Heap} {locs : List Loc} {ls : Array Slot} (hf : g_X3_putQuoted_28 Pw self2 x0 x1 x2 x3 S C T) (hCT : C ≤ kc ∧ T ≤ kt) (hM : zH D y A0 s H locs S) (hl : lv_has ls 4 [(0, .ref x0), (1, .ref x1), (2, .int x2), (3, .int x3)]) : W p l e ({ frames := 2, cells := kc, slots := kt, locals := 82 } : Room) s m args below meth c H locs (kc - C) (kt - T) Q (F0 m 28 ls []) := by
  obtain ⟨hx, hb, hml, hown, hts⟩ := id X
  unfold g_X3_putQuoted_28 at hf
  refine lv_aload_n hx hb dX3_putQuoted_28 rfl (lv_at hl 1 rfl) ?_
  refine lv_bipush (v := (92 : Int32)) hx hb dX3_putQuoted_29 (by decide) ?_
  obtain ⟨ca, hf⟩ := m_chkPE hf
  obtain ⟨mc, ms, hcm, ho⟩ := m_galE hf
  refine z_wcallVv (k := 6) (C := RX6) (T := TX6) (N := 2) (fl := zf_6) X hM rfl zc_6 ca (c_X6_put ho) gX3_putQuoted_X6_put rfl ⟨rfl, rfl⟩ ⟨by show kc - (C) + mc ≤ kc; omega, by show kt - (T) + ms ≤ kt; omega⟩ hd_X6_put ⟨Nat.le_of_ble_eq_true rfl, Nat.le_of_ble_eq_true rfl⟩ rfl hl.1 rfl (Nat.le_of_ble_eq_true rfl) dX3_putQuoted_31 (fun S3 H locs hf hM => ?_)
  refine z_eqCS (c2 := kc - (C - mc)) (t2 := kt - (T - ms)) (by omega) (by omega) ?_
  replace hCT : C - mc ≤ kc ∧ T - ms ≤ kt := by omega
  generalize C - mc = C4 at hf hCT ⊢
  generalize T - ms = T5 at hf hCT ⊢
  clear ho hcm
  exact w_X3_putQuoted_34 (x0 := x0) (x1 := x1) (x2 := x2) (x3 := x3) X hret hself2 hf hCT hM (lv_sub hl [0, 1, 2, 3] rfl)
def g_X3_putQuoted_2s (Pw : Int32 → ZS → Prop) (self2 : Nat → Nat → Int32 → ZS → Nat → Nat → Prop) (x0 : Nat) (x1 : Nat) (x2 : Int32) (S : ZS) (C T : Nat) : Prop :=
  m_chkP (x0 ∈ zL S ∧ zK S x0 = 6) (
  m_calP (f_X6_size x0 S) (fun o1 =>
  m_ifP (o1.1 ≤ x2) (
  Pw 0 o1.2
  ) (
  m_chkP (x0 ∈ zL o1.2 ∧ zK o1.2 x0 = 6) (
  m_calP (f_X6_at x0 x2 o1.2) (fun o2 =>
  m_ifP (o2.1 = (34 : Int32)) (
  g_X3_putQuoted_28 Pw self2 x0 x1 x2 o2.1 o2.2 (C) (T)
  ) (
  m_ifP (o2.1 = (92 : Int32)) (
  g_X3_putQuoted_28 Pw self2 x0 x1 x2 o2.1 o2.2 (C) (T)
  ) (
  g_X3_putQuoted_34 Pw self2 x0 x1 x2 o2.1 o2.2 (C) (T)
  )
  )))
  )))

set_option maxRecDepth 100000 in
set_option maxHeartbeats 4000000 in
theorem ws_X3_putQuoted_2 {p : Program} {l : Launch} {e : Env} {s : State} {m : MethodId} {args : Array Value} {below : List Frame} {meth : Method} {c : Code} {Q : State → Prop} {D : va_G} {y : Nat → ClassId} {A0 : Nat → Prop} {kc kt : Nat} {Pw : Int32 → ZS → Prop} (X : CallFix p m c cX3_putQuoted 4 s args wsX3_putQuoted RX3) (hret : zQv p l e ({ frames := 2, cells := kc, slots := kt, locals := 82 } : Room) s m args below meth c Q cX3_putQuoted D y A0 Pw) {self2 : Nat → Nat → Int32 → ZS → Nat → Nat → Prop} (hself2 : ∀ (x0 : Nat) (x1 : Nat) (x2 : Int32) (S : ZS) (C T : Nat) (H : Heap) (locs : List Loc) (ls : Array Slot), self2 x0 x1 x2 S C T → C ≤ kc ∧ T ≤ kt → zH D y A0 s H locs S → lv_has ls 4 [(0, .ref x0), (1, .ref x1), (2, .int x2)] → W p l e ({ frames := 2, cells := kc, slots := kt, locals := 82 } : Room) s m args below meth c H locs (kc - C) (kt - T) Q (F0 m 2 ls [])) {x0 : Nat} {x1 : Nat} {x2 : Int32} {S : ZS} {C T : Nat} {H : Heap} {locs : List Loc} {ls : Array Slot} (hf : g_X3_putQuoted_2s Pw self2 x0 x1 x2 S C T) (hCT : C ≤ kc ∧ T ≤ kt) (hM : zH D y A0 s H locs S) (hl : lv_has ls 4 [(0, .ref x0), (1, .ref x1), (2, .int x2)]) : W p l e ({ frames := 2, cells := kc, slots := kt, locals := 82 } : Room) s m args below meth c H locs (kc - C) (kt - T) Q (F0 m 2 ls []) := by
  obtain ⟨hx, hb, hml, hown, hts⟩ := id X
  unfold g_X3_putQuoted_2s at hf
  refine lv_iload_n hx hb dX3_putQuoted_2 rfl (lv_at hl 2 rfl) ?_
  refine lv_aload_n hx hb dX3_putQuoted_3 rfl (lv_at hl 0 rfl) ?_
  obtain ⟨ca, hf⟩ := m_chkPE hf
  obtain ⟨o1, ho, hf⟩ := m_calPE hf
  refine z_gcallVi (k := 6) (C := RX6) (T := TX6) (N := 2) (fl := zf_6) X hM rfl zc_6 ca (c_X6_size ho) gX3_putQuoted_X6_size rfl ⟨rfl, rfl⟩ hd_X6_size ⟨Nat.le_of_ble_eq_true rfl, Nat.le_of_ble_eq_true rfl⟩ rfl hl.1 rfl ⟨Nat.sub_le _ _, Nat.sub_le _ _⟩ (Nat.le_of_ble_eq_true rfl) dX3_putQuoted_4 (fun H locs hM => ?_)
  clear ho
  refine lv_icmp_ge (tgt := 45) hx hb dX3_putQuoted_7 (by decide) (fun cc1 => ?_) (fun cc1 => ?_)
  · replace hf := m_ifPT hf cc1
    exact hret _ _ _ H locs _ ls hf hM dX3_putQuoted_45
  · replace hf := m_ifPF hf cc1
    refine lv_aload_n hx hb dX3_putQuoted_10 rfl (lv_at hl 0 rfl) ?_
    refine lv_iload_n hx hb dX3_putQuoted_11 rfl (lv_at hl 2 rfl) ?_
    obtain ⟨ca, hf⟩ := m_chkPE hf
    obtain ⟨o2, ho, hf⟩ := m_calPE hf
    refine z_gcallVi (k := 6) (C := RX6) (T := TX6) (N := 2) (fl := zf_6) X hM rfl zc_6 ca (c_X6_at ho) gX3_putQuoted_X6_at rfl ⟨rfl, rfl⟩ hd_X6_at ⟨Nat.le_of_ble_eq_true rfl, Nat.le_of_ble_eq_true rfl⟩ rfl hl.1 rfl ⟨Nat.sub_le _ _, Nat.sub_le _ _⟩ (Nat.le_of_ble_eq_true rfl) dX3_putQuoted_12 (fun H locs hM => ?_)
    clear ho
    refine lv_istore_n (lv' := [(3, .int o2.1), (0, .ref x0), (1, .ref x1), (2, .int x2)]) hx hb dX3_putQuoted_15 rfl hl (by decide) rfl (fun ls hl => ?_)
    refine lv_iload_n hx hb dX3_putQuoted_16 rfl (lv_at hl 0 rfl) ?_
    refine lv_bipush (v := (34 : Int32)) hx hb dX3_putQuoted_17 (by decide) ?_
    refine lv_icmp_eq (tgt := 28) hx hb dX3_putQuoted_19 (by decide) (fun cc1 => ?_) (fun cc1 => ?_)
    · replace hf := m_ifPT hf cc1
      exact w_X3_putQuoted_28 (x0 := x0) (x1 := x1) (x2 := x2) (x3 := o2.1) X hret hself2 hf hCT hM (lv_sub hl [1, 2, 3, 0] rfl)
    · replace hf := m_ifPF hf cc1
      refine lv_iload_n hx hb dX3_putQuoted_22 rfl (lv_at hl 0 rfl) ?_
      refine lv_bipush (v := (92 : Int32)) hx hb dX3_putQuoted_23 (by decide) ?_
      refine lv_icmp_ne (tgt := 34) hx hb dX3_putQuoted_25 (by decide) (fun cc1 => ?_) (fun cc1 => ?_)
      · replace hf := m_ifPF hf cc1
        exact w_X3_putQuoted_34 (x0 := x0) (x1 := x1) (x2 := x2) (x3 := o2.1) X hret hself2 hf hCT hM (lv_sub hl [1, 2, 3, 0] rfl)
      · replace hf := m_ifPT hf cc1
        exact w_X3_putQuoted_28 (x0 := x0) (x1 := x1) (x2 := x2) (x3 := o2.1) X hret hself2 hf hCT hM (lv_sub hl [1, 2, 3, 0] rfl)
def g_X3_putQuoted_2 (Pw : Int32 → ZS → Prop) : Nat → Nat → Nat → Int32 → ZS → Nat → Nat → Prop
  | 0 => fun _ _ _ _ _ _ => False
  | n + 1 => g_X3_putQuoted_2s Pw (g_X3_putQuoted_2 Pw n)
theorem w_X3_putQuoted_2 {p : Program} {l : Launch} {e : Env} {s : State} {m : MethodId} {args : Array Value} {below : List Frame} {meth : Method} {c : Code} {Q : State → Prop} {D : va_G} {y : Nat → ClassId} {A0 : Nat → Prop} {kc kt : Nat} {Pw : Int32 → ZS → Prop} (X : CallFix p m c cX3_putQuoted 4 s args wsX3_putQuoted RX3) (hret : zQv p l e ({ frames := 2, cells := kc, slots := kt, locals := 82 } : Room) s m args below meth c Q cX3_putQuoted D y A0 Pw) (n : Nat) : ∀ (x0 : Nat) (x1 : Nat) (x2 : Int32) (S : ZS) (C T : Nat) (H : Heap) (locs : List Loc) (ls : Array Slot), g_X3_putQuoted_2 Pw n x0 x1 x2 S C T → C ≤ kc ∧ T ≤ kt → zH D y A0 s H locs S → lv_has ls 4 [(0, .ref x0), (1, .ref x1), (2, .int x2)] → W p l e ({ frames := 2, cells := kc, slots := kt, locals := 82 } : Room) s m args below meth c H locs (kc - C) (kt - T) Q (F0 m 2 ls []) := by
  induction n with
  | zero => intro x0 x1 x2 S C T H locs ls hf; exact absurd hf id
  | succ n ih => intro x0 x1 x2 S C T H locs ls hf hCT hM hl; exact ws_X3_putQuoted_2 X hret (self2 := g_X3_putQuoted_2 Pw n) ih hf hCT hM hl
def g_X3_putQuoted_0 (Pw : Int32 → ZS → Prop) (x0 : Nat) (x1 : Nat) (S : ZS) (C T : Nat) : Prop :=
  g_X3_putQuoted_2 Pw mFuel x0 x1 (0 : Int32) S (C) (T)

set_option maxRecDepth 100000 in
set_option maxHeartbeats 4000000 in
theorem w_X3_putQuoted_0 {p : Program} {l : Launch} {e : Env} {s : State} {m : MethodId} {args : Array Value} {below : List Frame} {meth : Method} {c : Code} {Q : State → Prop} {D : va_G} {y : Nat → ClassId} {A0 : Nat → Prop} {kc kt : Nat} {Pw : Int32 → ZS → Prop} (X : CallFix p m c cX3_putQuoted 4 s args wsX3_putQuoted RX3) (hret : zQv p l e ({ frames := 2, cells := kc, slots := kt, locals := 82 } : Room) s m args below meth c Q cX3_putQuoted D y A0 Pw) {x0 : Nat} {x1 : Nat} {S : ZS} {C T : Nat} {H : Heap} {locs : List Loc} {ls : Array Slot} (hf : g_X3_putQuoted_0 Pw x0 x1 S C T) (hCT : C ≤ kc ∧ T ≤ kt) (hM : zH D y A0 s H locs S) (hl : lv_has ls 4 [(0, .ref x0), (1, .ref x1)]) : W p l e ({ frames := 2, cells := kc, slots := kt, locals := 82 } : Room) s m args below meth c H locs (kc - C) (kt - T) Q (F0 m 0 ls []) := by
  obtain ⟨hx, hb, hml, hown, hts⟩ := id X
  unfold g_X3_putQuoted_0 at hf
  refine lv_iconst (v := (0 : Int32)) hx hb dX3_putQuoted_0 (by decide) ?_
  refine lv_istore_n (lv' := [(2, .int (0 : Int32)), (0, .ref x0), (1, .ref x1)]) hx hb dX3_putQuoted_1 rfl hl (by decide) rfl (fun ls hl => ?_)
  exact w_X3_putQuoted_2 X hret _ x0 x1 (0 : Int32) _ _ _ _ _ _ hf hCT hM (lv_sub hl [1, 2, 0] rfl)
def g_X3_putQuoted (x0 : Nat) (x1 : Nat) (S : ZS) (mc ms : Nat) (Pw : Int32 → ZS → Prop) : Prop := g_X3_putQuoted_0 Pw x0 x1 S mc ms
theorem c_X3_putQuoted {l : Launch} {D : va_G} {y : Nat → ClassId} {x0 : Nat} {x1 : Nat} {S : ZS} {kc kt : Nat} {Pw : Int32 → ZS → Prop} (hf : g_X3_putQuoted x0 x1 S kc kt Pw) : zWv l yX3_putQuoted wsX3_putQuoted ({ frames := 2, cells := kc, slots := kt, locals := 82 } : Room) [.ref x0, .ref x1] D y S kc kt Pw :=
  z_wentV (own := RX3) (cc := cX3_putQuoted) (maxL := 4) (by decide) rfl rfl (Nat.le_of_ble_eq_true rfl) ⟨rfl, rfl⟩ (fun p e s m args below meth c A0 Q H locs ls X hret hM hl => w_X3_putQuoted_0 X hret hf ⟨Nat.le_refl _, Nat.le_refl _⟩ hM (lv_sub hl [0, 1] rfl))
theorem hd_X3_putQuoted : yX3_putQuoted.cls ≠ "java/lang/invoke/MethodHandle" ∧ yX3_putQuoted.cls ≠ "java/lang/invoke/VarHandle" ∧ (parseMethodDescriptor yX3_putQuoted.desc).map (fun d => d.parameters.length) = some 2 := by decide +kernel
def g_X3_putGap_33 (Pw : Int32 → ZS → Prop) (S : ZS) (C T : Nat) : Prop :=
  Pw 0 S

set_option maxRecDepth 100000 in
set_option maxHeartbeats 4000000 in
theorem w_X3_putGap_33 {p : Program} {l : Launch} {e : Env} {s : State} {m : MethodId} {args : Array Value} {below : List Frame} {meth : Method} {c : Code} {Q : State → Prop} {D : va_G} {y : Nat → ClassId} {A0 : Nat → Prop} {kc kt : Nat} {Pw : Int32 → ZS → Prop} (X : CallFix p m c cX3_putGap 2 s args wsX3_putGap RX3) (hret : zQv p l e ({ frames := 2, cells := kc, slots := kt, locals := 82 } : Room) s m args below meth c Q cX3_putGap D y A0 Pw) {S : ZS} {C T : Nat} {H : Heap} {locs : List Loc} {ls : Array Slot} (hf : g_X3_putGap_33 Pw  S C T) (hCT : C ≤ kc ∧ T ≤ kt) (hM : zH D y A0 s H locs S) (hl : lv_has ls 2 []) : W p l e ({ frames := 2, cells := kc, slots := kt, locals := 82 } : Room) s m args below meth c H locs (kc - C) (kt - T) Q (F0 m 33 ls []) := by
  obtain ⟨hx, hb, hml, hown, hts⟩ := id X
  unfold g_X3_putGap_33 at hf
  exact hret _ _ _ H locs _ ls hf hM dX3_putGap_33
def g_X3_putGap_0 (Pw : Int32 → ZS → Prop) (x0 : Nat) (S : ZS) (C T : Nat) : Prop :=
  m_chkP (x0 ∈ zL S ∧ zK S x0 = 6) (
  m_calP (f_X6_size x0 S) (fun o1 =>
  m_bndP (o1.1 - (1 : Int32)) (fun v2 =>
  m_chkP (x0 ∈ zL o1.2 ∧ zK o1.2 x0 = 6) (
  m_calP (f_X6_at x0 v2 o1.2) (fun o3 =>
  m_ifP (o3.1 = 0) (
  g_X3_putGap_33 Pw  o3.2 (C) (T)
  ) (
  m_ifP (o3.1 = (10 : Int32)) (
  g_X3_putGap_33 Pw  o3.2 (C) (T)
  ) (
  m_ifP (o3.1 = (40 : Int32)) (
  g_X3_putGap_33 Pw  o3.2 (C) (T)
  ) (
  m_chkP (x0 ∈ zL o3.2 ∧ zK o3.2 x0 = 6) (
  m_gal (C) (T) (fun mc ms Pw => g_X6_put x0 (32 : Int32) o3.2 mc ms Pw) (fun r5 S6 C7 T8 =>
  g_X3_putGap_33 Pw  S6 (C7) (T8)))
  )
  )
  ))))))

set_option maxRecDepth 100000 in
set_option maxHeartbeats 4000000 in
theorem w_X3_putGap_0 {p : Program} {l : Launch} {e : Env} {s : State} {m : MethodId} {args : Array Value} {below : List Frame} {meth : Method} {c : Code} {Q : State → Prop} {D : va_G} {y : Nat → ClassId} {A0 : Nat → Prop} {kc kt : Nat} {Pw : Int32 → ZS → Prop} (X : CallFix p m c cX3_putGap 2 s args wsX3_putGap RX3) (hret : zQv p l e ({ frames := 2, cells := kc, slots := kt, locals := 82 } : Room) s m args below meth c Q cX3_putGap D y A0 Pw) {x0 : Nat} {S : ZS} {C T : Nat} {H : Heap} {locs : List Loc} {ls : Array Slot} (hf : g_X3_putGap_0 Pw x0 S C T) (hCT : C ≤ kc ∧ T ≤ kt) (hM : zH D y A0 s H locs S) (hl : lv_has ls 2 [(0, .ref x0)]) : W p l e ({ frames := 2, cells := kc, slots := kt, locals := 82 } : Room) s m args below meth c H locs (kc - C) (kt - T) Q (F0 m 0 ls []) := by
  obtain ⟨hx, hb, hml, hown, hts⟩ := id X
  unfold g_X3_putGap_0 at hf
  refine lv_aload_n hx hb dX3_putGap_0 rfl (lv_at hl 0 rfl) ?_
  refine lv_aload_n hx hb dX3_putGap_1 rfl (lv_at hl 0 rfl) ?_
  obtain ⟨ca, hf⟩ := m_chkPE hf
  obtain ⟨o1, ho, hf⟩ := m_calPE hf
  refine z_gcallVi (k := 6) (C := RX6) (T := TX6) (N := 2) (fl := zf_6) X hM rfl zc_6 ca (c_X6_size ho) gX3_putGap_X6_size rfl ⟨rfl, rfl⟩ hd_X6_size ⟨Nat.le_of_ble_eq_true rfl, Nat.le_of_ble_eq_true rfl⟩ rfl hl.1 rfl ⟨Nat.sub_le _ _, Nat.sub_le _ _⟩ (Nat.le_of_ble_eq_true rfl) dX3_putGap_2 (fun H locs hM => ?_)
  clear ho
  refine lv_iconst (v := (1 : Int32)) hx hb dX3_putGap_5 (by decide) ?_
  refine lv_isub hx hb dX3_putGap_6 ?_
  obtain ⟨v2, ev, hf⟩ := m_bndPE hf
  refine m_top ev ?_
  clear ev
  obtain ⟨ca, hf⟩ := m_chkPE hf
  obtain ⟨o3, ho, hf⟩ := m_calPE hf
  refine z_gcallVi (k := 6) (C := RX6) (T := TX6) (N := 2) (fl := zf_6) X hM rfl zc_6 ca (c_X6_at ho) gX3_putGap_X6_at rfl ⟨rfl, rfl⟩ hd_X6_at ⟨Nat.le_of_ble_eq_true rfl, Nat.le_of_ble_eq_true rfl⟩ rfl hl.1 rfl ⟨Nat.sub_le _ _, Nat.sub_le _ _⟩ (Nat.le_of_ble_eq_true rfl) dX3_putGap_7 (fun H locs hM => ?_)
  clear ho
  refine lv_istore_n (lv' := [(1, .int o3.1), (0, .ref x0)]) hx hb dX3_putGap_10 rfl hl (by decide) rfl (fun ls hl => ?_)
  refine lv_iload_n hx hb dX3_putGap_11 rfl (lv_at hl 0 rfl) ?_
  refine lv_if_eq (tgt := 33) hx hb dX3_putGap_12 (by decide) (fun cc1 => ?_) (fun cc1 => ?_)
  · replace hf := m_ifPT hf cc1
    exact w_X3_putGap_33 X hret hf hCT hM (lv_sub hl [] rfl)
  · replace hf := m_ifPF hf cc1
    refine lv_iload_n hx hb dX3_putGap_15 rfl (lv_at hl 0 rfl) ?_
    refine lv_bipush (v := (10 : Int32)) hx hb dX3_putGap_16 (by decide) ?_
    refine lv_icmp_eq (tgt := 33) hx hb dX3_putGap_18 (by decide) (fun cc1 => ?_) (fun cc1 => ?_)
    · replace hf := m_ifPT hf cc1
      exact w_X3_putGap_33 X hret hf hCT hM (lv_sub hl [] rfl)
    · replace hf := m_ifPF hf cc1
      refine lv_iload_n hx hb dX3_putGap_21 rfl (lv_at hl 0 rfl) ?_
      refine lv_bipush (v := (40 : Int32)) hx hb dX3_putGap_22 (by decide) ?_
      refine lv_icmp_eq (tgt := 33) hx hb dX3_putGap_24 (by decide) (fun cc1 => ?_) (fun cc1 => ?_)
      · replace hf := m_ifPT hf cc1
        exact w_X3_putGap_33 X hret hf hCT hM (lv_sub hl [] rfl)
      · replace hf := m_ifPF hf cc1
        refine lv_aload_n hx hb dX3_putGap_27 rfl (lv_at hl 1 rfl) ?_
        refine lv_bipush (v := (32 : Int32)) hx hb dX3_putGap_28 (by decide) ?_
        obtain ⟨ca, hf⟩ := m_chkPE hf
        obtain ⟨mc, ms, hcm, ho⟩ := m_galE hf
        refine z_wcallVv (k := 6) (C := RX6) (T := TX6) (N := 2) (fl := zf_6) X hM rfl zc_6 ca (c_X6_put ho) gX3_putGap_X6_put rfl ⟨rfl, rfl⟩ ⟨by show kc - (C) + mc ≤ kc; omega, by show kt - (T) + ms ≤ kt; omega⟩ hd_X6_put ⟨Nat.le_of_ble_eq_true rfl, Nat.le_of_ble_eq_true rfl⟩ rfl hl.1 rfl (Nat.le_of_ble_eq_true rfl) dX3_putGap_30 (fun S6 H locs hf hM => ?_)
        refine z_eqCS (c2 := kc - (C - mc)) (t2 := kt - (T - ms)) (by omega) (by omega) ?_
        replace hCT : C - mc ≤ kc ∧ T - ms ≤ kt := by omega
        generalize C - mc = C7 at hf hCT ⊢
        generalize T - ms = T8 at hf hCT ⊢
        clear ho hcm
        exact w_X3_putGap_33 X hret hf hCT hM (lv_sub hl [] rfl)
def g_X3_putGap (x0 : Nat) (S : ZS) (mc ms : Nat) (Pw : Int32 → ZS → Prop) : Prop := g_X3_putGap_0 Pw x0 S mc ms
theorem c_X3_putGap {l : Launch} {D : va_G} {y : Nat → ClassId} {x0 : Nat} {S : ZS} {kc kt : Nat} {Pw : Int32 → ZS → Prop} (hf : g_X3_putGap x0 S kc kt Pw) : zWv l yX3_putGap wsX3_putGap ({ frames := 2, cells := kc, slots := kt, locals := 82 } : Room) [.ref x0] D y S kc kt Pw :=
  z_wentV (own := RX3) (cc := cX3_putGap) (maxL := 2) (by decide) rfl rfl (Nat.le_of_ble_eq_true rfl) ⟨rfl, rfl⟩ (fun p e s m args below meth c A0 Q H locs ls X hret hM hl => w_X3_putGap_0 X hret hf ⟨Nat.le_refl _, Nat.le_refl _⟩ hM (lv_sub hl [0] rfl))
theorem hd_X3_putGap : yX3_putGap.cls ≠ "java/lang/invoke/MethodHandle" ∧ yX3_putGap.cls ≠ "java/lang/invoke/VarHandle" ∧ (parseMethodDescriptor yX3_putGap.desc).map (fun d => d.parameters.length) = some 1 := by decide +kernel
theorem fl_X6_putAll_6_1 : Cond.fieldLink RX6 16 "MoveTexts$Row" "length" "I" ∈ wsX6_putAll := by decide +kernel
theorem hw_X6_putAll_6 : ∀ w ∈ wsX60, w ∈ wsX6_putAll := by decide +kernel
def g_X6_putAll_2s (Pw : Int32 → ZS → Prop) (self2 : Nat → Nat → Int32 → ZS → Nat → Nat → Prop) (x0 : Nat) (x1 : Nat) (x2 : Int32) (S : ZS) (C T : Nat) : Prop :=
  m_chkP (x1 ∈ zL S ∧ zK S x1 = 6) (
  m_ifP ((zI S 1 x1) ≤ x2) (
  Pw 0 S
  ) (
  m_chkP (x1 ∈ zL S ∧ zK S x1 = 6) (
  m_calP (f_X6_at x1 x2 S) (fun o1 =>
  m_chkP (x0 ∈ zL o1.2 ∧ zK o1.2 x0 = 6) (
  m_gal (C) (T) (fun mc ms Pw => g_X6_put x0 o1.1 o1.2 mc ms Pw) (fun r3 S4 C5 T6 =>
  m_bndP (x2 + (1 : Int32)) (fun v7 =>
  self2 x0 x1 v7 S4 (C5) (T6))))))
  ))

set_option maxRecDepth 100000 in
set_option maxHeartbeats 4000000 in
theorem ws_X6_putAll_2 {p : Program} {l : Launch} {e : Env} {s : State} {m : MethodId} {args : Array Value} {below : List Frame} {meth : Method} {c : Code} {Q : State → Prop} {D : va_G} {y : Nat → ClassId} {A0 : Nat → Prop} {kc kt : Nat} {Pw : Int32 → ZS → Prop} (X : CallFix p m c cX6_putAll 3 s args wsX6_putAll RX6) (hret : zQv p l e ({ frames := 2, cells := kc, slots := kt, locals := 82 } : Room) s m args below meth c Q cX6_putAll D y A0 Pw) {self2 : Nat → Nat → Int32 → ZS → Nat → Nat → Prop} (hself2 : ∀ (x0 : Nat) (x1 : Nat) (x2 : Int32) (S : ZS) (C T : Nat) (H : Heap) (locs : List Loc) (ls : Array Slot), self2 x0 x1 x2 S C T → C ≤ kc ∧ T ≤ kt → zH D y A0 s H locs S → lv_has ls 3 [(0, .ref x0), (1, .ref x1), (2, .int x2)] → W p l e ({ frames := 2, cells := kc, slots := kt, locals := 82 } : Room) s m args below meth c H locs (kc - C) (kt - T) Q (F0 m 2 ls [])) {x0 : Nat} {x1 : Nat} {x2 : Int32} {S : ZS} {C T : Nat} {H : Heap} {locs : List Loc} {ls : Array Slot} (hf : g_X6_putAll_2s Pw self2 x0 x1 x2 S C T) (hCT : C ≤ kc ∧ T ≤ kt) (hM : zH D y A0 s H locs S) (hl : lv_has ls 3 [(0, .ref x0), (1, .ref x1), (2, .int x2)]) : W p l e ({ frames := 2, cells := kc, slots := kt, locals := 82 } : Room) s m args below meth c H locs (kc - C) (kt - T) Q (F0 m 2 ls []) := by
  obtain ⟨hx, hb, hml, hown, hts⟩ := id X
  unfold g_X6_putAll_2s at hf
  refine lv_iload_n hx hb dX6_putAll_2 rfl (lv_at hl 2 rfl) ?_
  refine lv_aload_n hx hb dX6_putAll_3 rfl (lv_at hl 1 rfl) ?_
  obtain ⟨ca, hf⟩ := m_chkPE hf
  refine z_get (k := 6) (j := 1) (C := RX6) (T := TX6) (N := 2) (fl := zf_6) (v := .int (zI S 1 x1)) X hw_X6_putAll_6 hM rfl zc_6 ca (by decide) fl_X6_putAll_6_1 rfl dX6_putAll_4 ?_
  clear ca
  refine lv_icmp_ge (tgt := 25) hx hb dX6_putAll_7 (by decide) (fun cc1 => ?_) (fun cc1 => ?_)
  · replace hf := m_ifPT hf cc1
    exact hret _ _ _ H locs _ ls hf hM dX6_putAll_25
  · replace hf := m_ifPF hf cc1
    refine lv_aload_n hx hb dX6_putAll_10 rfl (lv_at hl 0 rfl) ?_
    refine lv_aload_n hx hb dX6_putAll_11 rfl (lv_at hl 1 rfl) ?_
    refine lv_iload_n hx hb dX6_putAll_12 rfl (lv_at hl 2 rfl) ?_
    obtain ⟨ca, hf⟩ := m_chkPE hf
    obtain ⟨o1, ho, hf⟩ := m_calPE hf
    refine z_gcallVi (k := 6) (C := RX6) (T := TX6) (N := 2) (fl := zf_6) X hM rfl zc_6 ca (c_X6_at ho) gX6_putAll_X6_at rfl ⟨rfl, rfl⟩ hd_X6_at ⟨Nat.le_of_ble_eq_true rfl, Nat.le_of_ble_eq_true rfl⟩ rfl hl.1 rfl ⟨Nat.sub_le _ _, Nat.sub_le _ _⟩ (Nat.le_of_ble_eq_true rfl) dX6_putAll_13 (fun H locs hM => ?_)
    clear ho
    obtain ⟨ca, hf⟩ := m_chkPE hf
    obtain ⟨mc, ms, hcm, ho⟩ := m_galE hf
    refine z_wcallVv (k := 6) (C := RX6) (T := TX6) (N := 2) (fl := zf_6) X hM rfl zc_6 ca (c_X6_put ho) gX6_putAll_X6_put rfl ⟨rfl, rfl⟩ ⟨by show kc - (C) + mc ≤ kc; omega, by show kt - (T) + ms ≤ kt; omega⟩ hd_X6_put ⟨Nat.le_of_ble_eq_true rfl, Nat.le_of_ble_eq_true rfl⟩ rfl hl.1 rfl (Nat.le_of_ble_eq_true rfl) dX6_putAll_16 (fun S4 H locs hf hM => ?_)
    refine z_eqCS (c2 := kc - (C - mc)) (t2 := kt - (T - ms)) (by omega) (by omega) ?_
    replace hCT : C - mc ≤ kc ∧ T - ms ≤ kt := by omega
    generalize C - mc = C5 at hf hCT ⊢
    generalize T - ms = T6 at hf hCT ⊢
    clear ho hcm
    obtain ⟨v7, ev, hf⟩ := m_bndPE hf
    refine lv_iinc (v := v7) (lv' := [(2, .int v7), (0, .ref x0), (1, .ref x1)]) hx hb dX6_putAll_19 hl (k := 2) rfl (by rw [ev]; rfl) (by decide) rfl (fun ls hl => ?_)
    clear ev
    refine lv_goto (tgt := 2) hx hb dX6_putAll_22 (by decide) ?_
    exact hself2 x0 x1 v7 _ _ _ _ _ _ hf hCT hM (lv_sub hl [1, 2, 0] rfl)
def g_X6_putAll_2 (Pw : Int32 → ZS → Prop) : Nat → Nat → Nat → Int32 → ZS → Nat → Nat → Prop
  | 0 => fun _ _ _ _ _ _ => False
  | n + 1 => g_X6_putAll_2s Pw (g_X6_putAll_2 Pw n)
theorem w_X6_putAll_2 {p : Program} {l : Launch} {e : Env} {s : State} {m : MethodId} {args : Array Value} {below : List Frame} {meth : Method} {c : Code} {Q : State → Prop} {D : va_G} {y : Nat → ClassId} {A0 : Nat → Prop} {kc kt : Nat} {Pw : Int32 → ZS → Prop} (X : CallFix p m c cX6_putAll 3 s args wsX6_putAll RX6) (hret : zQv p l e ({ frames := 2, cells := kc, slots := kt, locals := 82 } : Room) s m args below meth c Q cX6_putAll D y A0 Pw) (n : Nat) : ∀ (x0 : Nat) (x1 : Nat) (x2 : Int32) (S : ZS) (C T : Nat) (H : Heap) (locs : List Loc) (ls : Array Slot), g_X6_putAll_2 Pw n x0 x1 x2 S C T → C ≤ kc ∧ T ≤ kt → zH D y A0 s H locs S → lv_has ls 3 [(0, .ref x0), (1, .ref x1), (2, .int x2)] → W p l e ({ frames := 2, cells := kc, slots := kt, locals := 82 } : Room) s m args below meth c H locs (kc - C) (kt - T) Q (F0 m 2 ls []) := by
  induction n with
  | zero => intro x0 x1 x2 S C T H locs ls hf; exact absurd hf id
  | succ n ih => intro x0 x1 x2 S C T H locs ls hf hCT hM hl; exact ws_X6_putAll_2 X hret (self2 := g_X6_putAll_2 Pw n) ih hf hCT hM hl
def g_X6_putAll_0 (Pw : Int32 → ZS → Prop) (x0 : Nat) (x1 : Nat) (S : ZS) (C T : Nat) : Prop :=
  g_X6_putAll_2 Pw mFuel x0 x1 (0 : Int32) S (C) (T)

set_option maxRecDepth 100000 in
set_option maxHeartbeats 4000000 in
theorem w_X6_putAll_0 {p : Program} {l : Launch} {e : Env} {s : State} {m : MethodId} {args : Array Value} {below : List Frame} {meth : Method} {c : Code} {Q : State → Prop} {D : va_G} {y : Nat → ClassId} {A0 : Nat → Prop} {kc kt : Nat} {Pw : Int32 → ZS → Prop} (X : CallFix p m c cX6_putAll 3 s args wsX6_putAll RX6) (hret : zQv p l e ({ frames := 2, cells := kc, slots := kt, locals := 82 } : Room) s m args below meth c Q cX6_putAll D y A0 Pw) {x0 : Nat} {x1 : Nat} {S : ZS} {C T : Nat} {H : Heap} {locs : List Loc} {ls : Array Slot} (hf : g_X6_putAll_0 Pw x0 x1 S C T) (hCT : C ≤ kc ∧ T ≤ kt) (hM : zH D y A0 s H locs S) (hl : lv_has ls 3 [(0, .ref x0), (1, .ref x1)]) : W p l e ({ frames := 2, cells := kc, slots := kt, locals := 82 } : Room) s m args below meth c H locs (kc - C) (kt - T) Q (F0 m 0 ls []) := by
  obtain ⟨hx, hb, hml, hown, hts⟩ := id X
  unfold g_X6_putAll_0 at hf
  refine lv_iconst (v := (0 : Int32)) hx hb dX6_putAll_0 (by decide) ?_
  refine lv_istore_n (lv' := [(2, .int (0 : Int32)), (0, .ref x0), (1, .ref x1)]) hx hb dX6_putAll_1 rfl hl (by decide) rfl (fun ls hl => ?_)
  exact w_X6_putAll_2 X hret _ x0 x1 (0 : Int32) _ _ _ _ _ _ hf hCT hM (lv_sub hl [1, 2, 0] rfl)
def g_X6_putAll (x0 : Nat) (x1 : Nat) (S : ZS) (mc ms : Nat) (Pw : Int32 → ZS → Prop) : Prop := g_X6_putAll_0 Pw x0 x1 S mc ms
theorem c_X6_putAll {l : Launch} {D : va_G} {y : Nat → ClassId} {x0 : Nat} {x1 : Nat} {S : ZS} {kc kt : Nat} {Pw : Int32 → ZS → Prop} (hf : g_X6_putAll x0 x1 S kc kt Pw) : zWv l yX6_putAll wsX6_putAll ({ frames := 2, cells := kc, slots := kt, locals := 82 } : Room) [.ref x0, .ref x1] D y S kc kt Pw :=
  z_wentV (own := RX6) (cc := cX6_putAll) (maxL := 3) (by decide) rfl rfl (Nat.le_of_ble_eq_true rfl) ⟨rfl, rfl⟩ (fun p e s m args below meth c A0 Q H locs ls X hret hM hl => w_X6_putAll_0 X hret hf ⟨Nat.le_refl _, Nat.le_refl _⟩ hM (lv_sub hl [0, 1] rfl))
theorem hd_X6_putAll : yX6_putAll.cls = RX6 ∧ yX6_putAll.cls ≠ "java/lang/invoke/MethodHandle" ∧ yX6_putAll.cls ≠ "java/lang/invoke/VarHandle" ∧ (parseMethodDescriptor yX6_putAll.desc).map (fun d => d.parameters.length) = some 1 := by decide +kernel
theorem fl_X3_putRemark_4_6 : Cond.fieldLink RX3 99 "MoveTexts$Node" "remark" "LMoveTexts$Row;" ∈ wsX3_putRemark := by decide +kernel
theorem hw_X3_putRemark_4 : ∀ w ∈ wsX40, w ∈ wsX3_putRemark := by decide +kernel
def g_X3_putRemark_0 (Pw : Int32 → ZS → Prop) (x0 : Nat) (x1 : Nat) (S : ZS) (C T : Nat) : Prop :=
  m_chkP (x0 ∈ zL S ∧ zK S x0 = 4) (
  m_calP (zP S 6 x0) (fun b1 =>
  m_chkP (b1 ∈ zL S ∧ zK S b1 = 6) (
  m_calP (f_X6_size b1 S) (fun o2 =>
  m_ifP (o2.1 = 0) (
  Pw 0 o2.2
  ) (
  m_gal (C) (T) (fun mc ms Pw => g_X3_putGap x1 o2.2 mc ms Pw) (fun r4 S5 C6 T7 =>
  m_chkP (x1 ∈ zL S5 ∧ zK S5 x1 = 6) (
  m_gal (C6) (T7) (fun mc ms Pw => g_X6_put x1 (123 : Int32) S5 mc ms Pw) (fun r9 S10 C11 T12 =>
  m_chkP (x0 ∈ zL S10 ∧ zK S10 x0 = 4) (
  m_calP (zP S10 6 x0) (fun b13 =>
  m_chkP (x1 ∈ zL S10 ∧ zK S10 x1 = 6) (
  m_gal (C11) (T12) (fun mc ms Pw => g_X6_putAll x1 b13 S10 mc ms Pw) (fun r15 S16 C17 T18 =>
  m_chkP (x1 ∈ zL S16 ∧ zK S16 x1 = 6) (
  m_gal (C17) (T18) (fun mc ms Pw => g_X6_put x1 (125 : Int32) S16 mc ms Pw) (fun r20 S21 C22 T23 =>
  Pw 0 S21)))))))))
  )))))

set_option maxRecDepth 100000 in
set_option maxHeartbeats 4000000 in
theorem w_X3_putRemark_0 {p : Program} {l : Launch} {e : Env} {s : State} {m : MethodId} {args : Array Value} {below : List Frame} {meth : Method} {c : Code} {Q : State → Prop} {D : va_G} {y : Nat → ClassId} {A0 : Nat → Prop} {kc kt : Nat} {Pw : Int32 → ZS → Prop} (X : CallFix p m c cX3_putRemark 2 s args wsX3_putRemark RX3) (hret : zQv p l e ({ frames := 3, cells := kc, slots := kt, locals := 104 } : Room) s m args below meth c Q cX3_putRemark D y A0 Pw) {x0 : Nat} {x1 : Nat} {S : ZS} {C T : Nat} {H : Heap} {locs : List Loc} {ls : Array Slot} (hf : g_X3_putRemark_0 Pw x0 x1 S C T) (hCT : C ≤ kc ∧ T ≤ kt) (hM : zH D y A0 s H locs S) (hl : lv_has ls 2 [(0, .ref x0), (1, .ref x1)]) : W p l e ({ frames := 3, cells := kc, slots := kt, locals := 104 } : Room) s m args below meth c H locs (kc - C) (kt - T) Q (F0 m 0 ls []) := by
  obtain ⟨hx, hb, hml, hown, hts⟩ := id X
  unfold g_X3_putRemark_0 at hf
  refine lv_aload_n hx hb dX3_putRemark_0 rfl (lv_at hl 0 rfl) ?_
  obtain ⟨ca, hf⟩ := m_chkPE hf
  refine z_get (k := 4) (j := 6) (C := RX4) (T := TX4) (N := 7) (fl := zf_4) (v := va_rf (zP S 6 x0)) X hw_X3_putRemark_4 hM rfl zc_4 ca (by decide) fl_X3_putRemark_4_6 rfl dX3_putRemark_1 ?_
  clear ca
  obtain ⟨b1, hb9, hf⟩ := m_calPE hf
  refine z_topr hb9 ?_
  clear hb9
  obtain ⟨ca, hf⟩ := m_chkPE hf
  obtain ⟨o2, ho, hf⟩ := m_calPE hf
  refine z_gcallVi (k := 6) (C := RX6) (T := TX6) (N := 2) (fl := zf_6) X hM rfl zc_6 ca (c_X6_size ho) gX3_putRemark_X6_size rfl ⟨rfl, rfl⟩ hd_X6_size ⟨Nat.le_of_ble_eq_true rfl, Nat.le_of_ble_eq_true rfl⟩ rfl hl.1 rfl ⟨Nat.sub_le _ _, Nat.sub_le _ _⟩ (Nat.le_of_ble_eq_true rfl) dX3_putRemark_4 (fun H locs hM => ?_)
  clear ho
  refine lv_if_ne (tgt := 11) hx hb dX3_putRemark_7 (by decide) (fun cc1 => ?_) (fun cc1 => ?_)
  · replace hf := m_ifPF hf cc1
    refine lv_aload_n hx hb dX3_putRemark_11 rfl (lv_at hl 1 rfl) ?_
    obtain ⟨mc, ms, hcm, ho⟩ := m_galE hf
    refine z_wcallSv X hM (c_X3_putGap ho) gX3_putRemark_X3_putGap rfl ⟨rfl, rfl⟩ ⟨by show kc - (C) + mc ≤ kc; omega, by show kt - (T) + ms ≤ kt; omega⟩ hd_X3_putGap ⟨Nat.le_of_ble_eq_true rfl, Nat.le_of_ble_eq_true rfl⟩ rfl hl.1 rfl (Nat.le_of_ble_eq_true rfl) dX3_putRemark_12 (fun S5 H locs hf hM => ?_)
    refine z_eqCS (c2 := kc - (C - mc)) (t2 := kt - (T - ms)) (by omega) (by omega) ?_
    replace hCT : C - mc ≤ kc ∧ T - ms ≤ kt := by omega
    generalize C - mc = C6 at hf hCT ⊢
    generalize T - ms = T7 at hf hCT ⊢
    clear ho hcm
    refine lv_aload_n hx hb dX3_putRemark_15 rfl (lv_at hl 1 rfl) ?_
    refine lv_bipush (v := (123 : Int32)) hx hb dX3_putRemark_16 (by decide) ?_
    obtain ⟨ca, hf⟩ := m_chkPE hf
    obtain ⟨mc, ms, hcm, ho⟩ := m_galE hf
    refine z_wcallVv (k := 6) (C := RX6) (T := TX6) (N := 2) (fl := zf_6) X hM rfl zc_6 ca (c_X6_put ho) gX3_putRemark_X6_put rfl ⟨rfl, rfl⟩ ⟨by show kc - (C6) + mc ≤ kc; omega, by show kt - (T7) + ms ≤ kt; omega⟩ hd_X6_put ⟨Nat.le_of_ble_eq_true rfl, Nat.le_of_ble_eq_true rfl⟩ rfl hl.1 rfl (Nat.le_of_ble_eq_true rfl) dX3_putRemark_18 (fun S10 H locs hf hM => ?_)
    refine z_eqCS (c2 := kc - (C6 - mc)) (t2 := kt - (T7 - ms)) (by omega) (by omega) ?_
    replace hCT : C6 - mc ≤ kc ∧ T7 - ms ≤ kt := by omega
    generalize C6 - mc = C11 at hf hCT ⊢
    generalize T7 - ms = T12 at hf hCT ⊢
    clear ho hcm
    refine lv_aload_n hx hb dX3_putRemark_21 rfl (lv_at hl 1 rfl) ?_
    refine lv_aload_n hx hb dX3_putRemark_22 rfl (lv_at hl 0 rfl) ?_
    obtain ⟨ca, hf⟩ := m_chkPE hf
    refine z_get (k := 4) (j := 6) (C := RX4) (T := TX4) (N := 7) (fl := zf_4) (v := va_rf (zP S10 6 x0)) X hw_X3_putRemark_4 hM rfl zc_4 ca (by decide) fl_X3_putRemark_4_6 rfl dX3_putRemark_23 ?_
    clear ca
    obtain ⟨b13, hb9, hf⟩ := m_calPE hf
    refine z_topr hb9 ?_
    clear hb9
    obtain ⟨ca, hf⟩ := m_chkPE hf
    obtain ⟨mc, ms, hcm, ho⟩ := m_galE hf
    refine z_wcallVv (k := 6) (C := RX6) (T := TX6) (N := 2) (fl := zf_6) X hM rfl zc_6 ca (c_X6_putAll ho) gX3_putRemark_X6_putAll rfl ⟨rfl, rfl⟩ ⟨by show kc - (C11) + mc ≤ kc; omega, by show kt - (T12) + ms ≤ kt; omega⟩ hd_X6_putAll ⟨Nat.le_of_ble_eq_true rfl, Nat.le_of_ble_eq_true rfl⟩ rfl hl.1 rfl (Nat.le_of_ble_eq_true rfl) dX3_putRemark_26 (fun S16 H locs hf hM => ?_)
    refine z_eqCS (c2 := kc - (C11 - mc)) (t2 := kt - (T12 - ms)) (by omega) (by omega) ?_
    replace hCT : C11 - mc ≤ kc ∧ T12 - ms ≤ kt := by omega
    generalize C11 - mc = C17 at hf hCT ⊢
    generalize T12 - ms = T18 at hf hCT ⊢
    clear ho hcm
    refine lv_aload_n hx hb dX3_putRemark_29 rfl (lv_at hl 1 rfl) ?_
    refine lv_bipush (v := (125 : Int32)) hx hb dX3_putRemark_30 (by decide) ?_
    obtain ⟨ca, hf⟩ := m_chkPE hf
    obtain ⟨mc, ms, hcm, ho⟩ := m_galE hf
    refine z_wcallVv (k := 6) (C := RX6) (T := TX6) (N := 2) (fl := zf_6) X hM rfl zc_6 ca (c_X6_put ho) gX3_putRemark_X6_put rfl ⟨rfl, rfl⟩ ⟨by show kc - (C17) + mc ≤ kc; omega, by show kt - (T18) + ms ≤ kt; omega⟩ hd_X6_put ⟨Nat.le_of_ble_eq_true rfl, Nat.le_of_ble_eq_true rfl⟩ rfl hl.1 rfl (Nat.le_of_ble_eq_true rfl) dX3_putRemark_32 (fun S21 H locs hf hM => ?_)
    refine z_eqCS (c2 := kc - (C17 - mc)) (t2 := kt - (T18 - ms)) (by omega) (by omega) ?_
    replace hCT : C17 - mc ≤ kc ∧ T18 - ms ≤ kt := by omega
    generalize C17 - mc = C22 at hf hCT ⊢
    generalize T18 - ms = T23 at hf hCT ⊢
    clear ho hcm
    exact hret _ _ _ H locs _ ls hf hM dX3_putRemark_35
  · replace hf := m_ifPT hf cc1
    exact hret _ _ _ H locs _ ls hf hM dX3_putRemark_10
def g_X3_putRemark (x0 : Nat) (x1 : Nat) (S : ZS) (mc ms : Nat) (Pw : Int32 → ZS → Prop) : Prop := g_X3_putRemark_0 Pw x0 x1 S mc ms
theorem c_X3_putRemark {l : Launch} {D : va_G} {y : Nat → ClassId} {x0 : Nat} {x1 : Nat} {S : ZS} {kc kt : Nat} {Pw : Int32 → ZS → Prop} (hf : g_X3_putRemark x0 x1 S kc kt Pw) : zWv l yX3_putRemark wsX3_putRemark ({ frames := 3, cells := kc, slots := kt, locals := 104 } : Room) [.ref x0, .ref x1] D y S kc kt Pw :=
  z_wentV (own := RX3) (cc := cX3_putRemark) (maxL := 2) (by decide) rfl rfl (Nat.le_of_ble_eq_true rfl) ⟨rfl, rfl⟩ (fun p e s m args below meth c A0 Q H locs ls X hret hM hl => w_X3_putRemark_0 X hret hf ⟨Nat.le_refl _, Nat.le_refl _⟩ hM (lv_sub hl [0, 1] rfl))
theorem hd_X3_putRemark : yX3_putRemark.cls ≠ "java/lang/invoke/MethodHandle" ∧ yX3_putRemark.cls ≠ "java/lang/invoke/VarHandle" ∧ (parseMethodDescriptor yX3_putRemark.desc).map (fun d => d.parameters.length) = some 2 := by decide +kernel
def g_X6_putNumber_29s (Pw : Int32 → ZS → Prop) (self29 : Nat → Int32 → Int32 → ZS → Nat → Nat → Prop) (x0 : Nat) (x1 : Int32) (x2 : Int32) (S : ZS) (C T : Nat) : Prop :=
  m_ifP (x2 ≤ 0) (
  Pw 0 S
  ) (
  m_chkP (¬ x2 = 0) (
  m_bndP (x1 / x2) (fun v1 =>
  m_bndP (v1 - v1 / (10 : Int32) * (10 : Int32)) (fun v2 =>
  m_bndP ((48 : Int32) + v2) (fun v3 =>
  m_bndP ((v3.toUInt32 % 65536).toInt32) (fun v4 =>
  m_chkP (x0 ∈ zL S ∧ zK S x0 = 6) (
  m_gal (C) (T) (fun mc ms Pw => g_X6_put x0 v4 S mc ms Pw) (fun r6 S7 C8 T9 =>
  m_bndP (x2 / (10 : Int32)) (fun v10 =>
  self29 x0 x1 v10 S7 (C8) (T9)))))))))
  )

set_option maxRecDepth 100000 in
set_option maxHeartbeats 4000000 in
theorem ws_X6_putNumber_29 {p : Program} {l : Launch} {e : Env} {s : State} {m : MethodId} {args : Array Value} {below : List Frame} {meth : Method} {c : Code} {Q : State → Prop} {D : va_G} {y : Nat → ClassId} {A0 : Nat → Prop} {kc kt : Nat} {Pw : Int32 → ZS → Prop} (X : CallFix p m c cX6_putNumber 4 s args wsX6_putNumber RX6) (hret : zQv p l e ({ frames := 2, cells := kc, slots := kt, locals := 82 } : Room) s m args below meth c Q cX6_putNumber D y A0 Pw) {self29 : Nat → Int32 → Int32 → ZS → Nat → Nat → Prop} (hself29 : ∀ (x0 : Nat) (x1 : Int32) (x2 : Int32) (S : ZS) (C T : Nat) (H : Heap) (locs : List Loc) (ls : Array Slot), self29 x0 x1 x2 S C T → C ≤ kc ∧ T ≤ kt → zH D y A0 s H locs S → lv_has ls 4 [(0, .ref x0), (1, .int x1), (2, .int x2)] → W p l e ({ frames := 2, cells := kc, slots := kt, locals := 82 } : Room) s m args below meth c H locs (kc - C) (kt - T) Q (F0 m 29 ls [])) {x0 : Nat} {x1 : Int32} {x2 : Int32} {S : ZS} {C T : Nat} {H : Heap} {locs : List Loc} {ls : Array Slot} (hf : g_X6_putNumber_29s Pw self29 x0 x1 x2 S C T) (hCT : C ≤ kc ∧ T ≤ kt) (hM : zH D y A0 s H locs S) (hl : lv_has ls 4 [(0, .ref x0), (1, .int x1), (2, .int x2)]) : W p l e ({ frames := 2, cells := kc, slots := kt, locals := 82 } : Room) s m args below meth c H locs (kc - C) (kt - T) Q (F0 m 29 ls []) := by
  obtain ⟨hx, hb, hml, hown, hts⟩ := id X
  unfold g_X6_putNumber_29s at hf
  refine lv_iload_n hx hb dX6_putNumber_29 rfl (lv_at hl 2 rfl) ?_
  refine lv_if_le (tgt := 55) hx hb dX6_putNumber_30 (by decide) (fun cc1 => ?_) (fun cc1 => ?_)
  · replace hf := m_ifPT hf cc1
    exact hret _ _ _ H locs _ ls hf hM dX6_putNumber_55
  · replace hf := m_ifPF hf cc1
    refine lv_aload_n hx hb dX6_putNumber_33 rfl (lv_at hl 0 rfl) ?_
    refine lv_bipush (v := (48 : Int32)) hx hb dX6_putNumber_34 (by decide) ?_
    refine lv_iload_n hx hb dX6_putNumber_36 rfl (lv_at hl 1 rfl) ?_
    refine lv_iload_n hx hb dX6_putNumber_37 rfl (lv_at hl 2 rfl) ?_
    obtain ⟨cd, hf⟩ := m_chkPE hf
    refine lv_idiv hx hb dX6_putNumber_38 cd ?_
    obtain ⟨v1, ev, hf⟩ := m_bndPE hf
    refine m_top ev ?_
    clear ev
    refine lv_bipush (v := (10 : Int32)) hx hb dX6_putNumber_39 (by decide) ?_
    refine lv_irem hx hb dX6_putNumber_41 (by decide) ?_
    obtain ⟨v2, ev, hf⟩ := m_bndPE hf
    refine m_top ev ?_
    clear ev
    refine lv_iadd hx hb dX6_putNumber_42 ?_
    obtain ⟨v3, ev, hf⟩ := m_bndPE hf
    refine m_top ev ?_
    clear ev
    refine lv_i2c (v := (v3.toUInt32 % 65536).toInt32) hx hb dX6_putNumber_43 rfl ?_
    obtain ⟨v4, ev, hf⟩ := m_bndPE hf
    refine m_top ev ?_
    clear ev
    obtain ⟨ca, hf⟩ := m_chkPE hf
    obtain ⟨mc, ms, hcm, ho⟩ := m_galE hf
    refine z_wcallVv (k := 6) (C := RX6) (T := TX6) (N := 2) (fl := zf_6) X hM rfl zc_6 ca (c_X6_put ho) gX6_putNumber_X6_put rfl ⟨rfl, rfl⟩ ⟨by show kc - (C) + mc ≤ kc; omega, by show kt - (T) + ms ≤ kt; omega⟩ hd_X6_put ⟨Nat.le_of_ble_eq_true rfl, Nat.le_of_ble_eq_true rfl⟩ rfl hl.1 rfl (Nat.le_of_ble_eq_true rfl) dX6_putNumber_44 (fun S7 H locs hf hM => ?_)
    refine z_eqCS (c2 := kc - (C - mc)) (t2 := kt - (T - ms)) (by omega) (by omega) ?_
    replace hCT : C - mc ≤ kc ∧ T - ms ≤ kt := by omega
    generalize C - mc = C8 at hf hCT ⊢
    generalize T - ms = T9 at hf hCT ⊢
    clear ho hcm
    refine lv_iload_n hx hb dX6_putNumber_47 rfl (lv_at hl 2 rfl) ?_
    refine lv_bipush (v := (10 : Int32)) hx hb dX6_putNumber_48 (by decide) ?_
    refine lv_idiv hx hb dX6_putNumber_50 (by decide) ?_
    obtain ⟨v10, ev, hf⟩ := m_bndPE hf
    refine m_top ev ?_
    clear ev
    refine lv_istore_n (lv' := [(2, .int v10), (0, .ref x0), (1, .int x1)]) hx hb dX6_putNumber_51 rfl hl (by decide) rfl (fun ls hl => ?_)
    refine lv_goto (tgt := 29) hx hb dX6_putNumber_52 (by decide) ?_
    exact hself29 x0 x1 v10 _ _ _ _ _ _ hf hCT hM (lv_sub hl [1, 2, 0] rfl)
def g_X6_putNumber_29 (Pw : Int32 → ZS → Prop) : Nat → Nat → Int32 → Int32 → ZS → Nat → Nat → Prop
  | 0 => fun _ _ _ _ _ _ => False
  | n + 1 => g_X6_putNumber_29s Pw (g_X6_putNumber_29 Pw n)
theorem w_X6_putNumber_29 {p : Program} {l : Launch} {e : Env} {s : State} {m : MethodId} {args : Array Value} {below : List Frame} {meth : Method} {c : Code} {Q : State → Prop} {D : va_G} {y : Nat → ClassId} {A0 : Nat → Prop} {kc kt : Nat} {Pw : Int32 → ZS → Prop} (X : CallFix p m c cX6_putNumber 4 s args wsX6_putNumber RX6) (hret : zQv p l e ({ frames := 2, cells := kc, slots := kt, locals := 82 } : Room) s m args below meth c Q cX6_putNumber D y A0 Pw) (n : Nat) : ∀ (x0 : Nat) (x1 : Int32) (x2 : Int32) (S : ZS) (C T : Nat) (H : Heap) (locs : List Loc) (ls : Array Slot), g_X6_putNumber_29 Pw n x0 x1 x2 S C T → C ≤ kc ∧ T ≤ kt → zH D y A0 s H locs S → lv_has ls 4 [(0, .ref x0), (1, .int x1), (2, .int x2)] → W p l e ({ frames := 2, cells := kc, slots := kt, locals := 82 } : Room) s m args below meth c H locs (kc - C) (kt - T) Q (F0 m 29 ls []) := by
  induction n with
  | zero => intro x0 x1 x2 S C T H locs ls hf; exact absurd hf id
  | succ n ih => intro x0 x1 x2 S C T H locs ls hf hCT hM hl; exact ws_X6_putNumber_29 X hret (self29 := g_X6_putNumber_29 Pw n) ih hf hCT hM hl
def g_X6_putNumber_4s (Pw : Int32 → ZS → Prop) (self4 : Nat → Int32 → Int32 → Int32 → ZS → Nat → Nat → Prop) (x0 : Nat) (x1 : Int32) (x2 : Int32) (x3 : Int32) (S : ZS) (C T : Nat) : Prop :=
  m_ifP ((9 : Int32) ≤ x3) (
  g_X6_putNumber_29 Pw mFuel x0 x1 x2 S (C) (T)
  ) (
  m_chkP (¬ x2 = 0) (
  m_bndP (x1 / x2) (fun v1 =>
  m_ifP (v1 < (10 : Int32)) (
  g_X6_putNumber_29 Pw mFuel x0 x1 x2 S (C) (T)
  ) (
  m_bndP (x2 * (10 : Int32)) (fun v2 =>
  m_bndP (x3 + (1 : Int32)) (fun v3 =>
  self4 x0 x1 v2 v3 S (C) (T)))
  )))
  )

set_option maxRecDepth 100000 in
set_option maxHeartbeats 4000000 in
theorem ws_X6_putNumber_4 {p : Program} {l : Launch} {e : Env} {s : State} {m : MethodId} {args : Array Value} {below : List Frame} {meth : Method} {c : Code} {Q : State → Prop} {D : va_G} {y : Nat → ClassId} {A0 : Nat → Prop} {kc kt : Nat} {Pw : Int32 → ZS → Prop} (X : CallFix p m c cX6_putNumber 4 s args wsX6_putNumber RX6) (hret : zQv p l e ({ frames := 2, cells := kc, slots := kt, locals := 82 } : Room) s m args below meth c Q cX6_putNumber D y A0 Pw) {self4 : Nat → Int32 → Int32 → Int32 → ZS → Nat → Nat → Prop} (hself4 : ∀ (x0 : Nat) (x1 : Int32) (x2 : Int32) (x3 : Int32) (S : ZS) (C T : Nat) (H : Heap) (locs : List Loc) (ls : Array Slot), self4 x0 x1 x2 x3 S C T → C ≤ kc ∧ T ≤ kt → zH D y A0 s H locs S → lv_has ls 4 [(0, .ref x0), (1, .int x1), (2, .int x2), (3, .int x3)] → W p l e ({ frames := 2, cells := kc, slots := kt, locals := 82 } : Room) s m args below meth c H locs (kc - C) (kt - T) Q (F0 m 4 ls [])) {x0 : Nat} {x1 : Int32} {x2 : Int32} {x3 : Int32} {S : ZS} {C T : Nat} {H : Heap} {locs : List Loc} {ls : Array Slot} (hf : g_X6_putNumber_4s Pw self4 x0 x1 x2 x3 S C T) (hCT : C ≤ kc ∧ T ≤ kt) (hM : zH D y A0 s H locs S) (hl : lv_has ls 4 [(0, .ref x0), (1, .int x1), (2, .int x2), (3, .int x3)]) : W p l e ({ frames := 2, cells := kc, slots := kt, locals := 82 } : Room) s m args below meth c H locs (kc - C) (kt - T) Q (F0 m 4 ls []) := by
  obtain ⟨hx, hb, hml, hown, hts⟩ := id X
  unfold g_X6_putNumber_4s at hf
  refine lv_iload_n hx hb dX6_putNumber_4 rfl (lv_at hl 3 rfl) ?_
  refine lv_bipush (v := (9 : Int32)) hx hb dX6_putNumber_5 (by decide) ?_
  refine lv_icmp_ge (tgt := 29) hx hb dX6_putNumber_7 (by decide) (fun cc1 => ?_) (fun cc1 => ?_)
  · replace hf := m_ifPT hf cc1
    exact w_X6_putNumber_29 X hret _ x0 x1 x2 _ _ _ _ _ _ hf hCT hM (lv_sub hl [0, 1, 2] rfl)
  · replace hf := m_ifPF hf cc1
    refine lv_iload_n hx hb dX6_putNumber_10 rfl (lv_at hl 1 rfl) ?_
    refine lv_iload_n hx hb dX6_putNumber_11 rfl (lv_at hl 2 rfl) ?_
    obtain ⟨cd, hf⟩ := m_chkPE hf
    refine lv_idiv hx hb dX6_putNumber_12 cd ?_
    obtain ⟨v1, ev, hf⟩ := m_bndPE hf
    refine m_top ev ?_
    clear ev
    refine lv_bipush (v := (10 : Int32)) hx hb dX6_putNumber_13 (by decide) ?_
    refine lv_icmp_lt (tgt := 29) hx hb dX6_putNumber_15 (by decide) (fun cc1 => ?_) (fun cc1 => ?_)
    · replace hf := m_ifPT hf cc1
      exact w_X6_putNumber_29 X hret _ x0 x1 x2 _ _ _ _ _ _ hf hCT hM (lv_sub hl [0, 1, 2] rfl)
    · replace hf := m_ifPF hf cc1
      refine lv_iload_n hx hb dX6_putNumber_18 rfl (lv_at hl 2 rfl) ?_
      refine lv_bipush (v := (10 : Int32)) hx hb dX6_putNumber_19 (by decide) ?_
      refine lv_imul hx hb dX6_putNumber_21 ?_
      obtain ⟨v2, ev, hf⟩ := m_bndPE hf
      refine m_top ev ?_
      clear ev
      refine lv_istore_n (lv' := [(2, .int v2), (0, .ref x0), (1, .int x1), (3, .int x3)]) hx hb dX6_putNumber_22 rfl hl (by decide) rfl (fun ls hl => ?_)
      obtain ⟨v3, ev, hf⟩ := m_bndPE hf
      refine lv_iinc (v := v3) (lv' := [(3, .int v3), (2, .int v2), (0, .ref x0), (1, .int x1)]) hx hb dX6_putNumber_23 hl (k := 3) rfl (by rw [ev]; rfl) (by decide) rfl (fun ls hl => ?_)
      clear ev
      refine lv_goto (tgt := 4) hx hb dX6_putNumber_26 (by decide) ?_
      exact hself4 x0 x1 v2 v3 _ _ _ _ _ _ hf hCT hM (lv_sub hl [2, 3, 1, 0] rfl)
def g_X6_putNumber_4 (Pw : Int32 → ZS → Prop) : Nat → Nat → Int32 → Int32 → Int32 → ZS → Nat → Nat → Prop
  | 0 => fun _ _ _ _ _ _ _ => False
  | n + 1 => g_X6_putNumber_4s Pw (g_X6_putNumber_4 Pw n)
theorem w_X6_putNumber_4 {p : Program} {l : Launch} {e : Env} {s : State} {m : MethodId} {args : Array Value} {below : List Frame} {meth : Method} {c : Code} {Q : State → Prop} {D : va_G} {y : Nat → ClassId} {A0 : Nat → Prop} {kc kt : Nat} {Pw : Int32 → ZS → Prop} (X : CallFix p m c cX6_putNumber 4 s args wsX6_putNumber RX6) (hret : zQv p l e ({ frames := 2, cells := kc, slots := kt, locals := 82 } : Room) s m args below meth c Q cX6_putNumber D y A0 Pw) (n : Nat) : ∀ (x0 : Nat) (x1 : Int32) (x2 : Int32) (x3 : Int32) (S : ZS) (C T : Nat) (H : Heap) (locs : List Loc) (ls : Array Slot), g_X6_putNumber_4 Pw n x0 x1 x2 x3 S C T → C ≤ kc ∧ T ≤ kt → zH D y A0 s H locs S → lv_has ls 4 [(0, .ref x0), (1, .int x1), (2, .int x2), (3, .int x3)] → W p l e ({ frames := 2, cells := kc, slots := kt, locals := 82 } : Room) s m args below meth c H locs (kc - C) (kt - T) Q (F0 m 4 ls []) := by
  induction n with
  | zero => intro x0 x1 x2 x3 S C T H locs ls hf; exact absurd hf id
  | succ n ih => intro x0 x1 x2 x3 S C T H locs ls hf hCT hM hl; exact ws_X6_putNumber_4 X hret (self4 := g_X6_putNumber_4 Pw n) ih hf hCT hM hl
def g_X6_putNumber_0 (Pw : Int32 → ZS → Prop) (x0 : Nat) (x1 : Int32) (S : ZS) (C T : Nat) : Prop :=
  g_X6_putNumber_4 Pw mFuel x0 x1 (1 : Int32) (0 : Int32) S (C) (T)

set_option maxRecDepth 100000 in
set_option maxHeartbeats 4000000 in
theorem w_X6_putNumber_0 {p : Program} {l : Launch} {e : Env} {s : State} {m : MethodId} {args : Array Value} {below : List Frame} {meth : Method} {c : Code} {Q : State → Prop} {D : va_G} {y : Nat → ClassId} {A0 : Nat → Prop} {kc kt : Nat} {Pw : Int32 → ZS → Prop} (X : CallFix p m c cX6_putNumber 4 s args wsX6_putNumber RX6) (hret : zQv p l e ({ frames := 2, cells := kc, slots := kt, locals := 82 } : Room) s m args below meth c Q cX6_putNumber D y A0 Pw) {x0 : Nat} {x1 : Int32} {S : ZS} {C T : Nat} {H : Heap} {locs : List Loc} {ls : Array Slot} (hf : g_X6_putNumber_0 Pw x0 x1 S C T) (hCT : C ≤ kc ∧ T ≤ kt) (hM : zH D y A0 s H locs S) (hl : lv_has ls 4 [(0, .ref x0), (1, .int x1)]) : W p l e ({ frames := 2, cells := kc, slots := kt, locals := 82 } : Room) s m args below meth c H locs (kc - C) (kt - T) Q (F0 m 0 ls []) := by
  obtain ⟨hx, hb, hml, hown, hts⟩ := id X
  unfold g_X6_putNumber_0 at hf
  refine lv_iconst (v := (1 : Int32)) hx hb dX6_putNumber_0 (by decide) ?_
  refine lv_istore_n (lv' := [(2, .int (1 : Int32)), (0, .ref x0), (1, .int x1)]) hx hb dX6_putNumber_1 rfl hl (by decide) rfl (fun ls hl => ?_)
  refine lv_iconst (v := (0 : Int32)) hx hb dX6_putNumber_2 (by decide) ?_
  refine lv_istore_n (lv' := [(3, .int (0 : Int32)), (2, .int (1 : Int32)), (0, .ref x0), (1, .int x1)]) hx hb dX6_putNumber_3 rfl hl (by decide) rfl (fun ls hl => ?_)
  exact w_X6_putNumber_4 X hret _ x0 x1 (1 : Int32) (0 : Int32) _ _ _ _ _ _ hf hCT hM (lv_sub hl [2, 3, 1, 0] rfl)
def g_X6_putNumber (x0 : Nat) (x1 : Int32) (S : ZS) (mc ms : Nat) (Pw : Int32 → ZS → Prop) : Prop := g_X6_putNumber_0 Pw x0 x1 S mc ms
theorem c_X6_putNumber {l : Launch} {D : va_G} {y : Nat → ClassId} {x0 : Nat} {x1 : Int32} {S : ZS} {kc kt : Nat} {Pw : Int32 → ZS → Prop} (hf : g_X6_putNumber x0 x1 S kc kt Pw) : zWv l yX6_putNumber wsX6_putNumber ({ frames := 2, cells := kc, slots := kt, locals := 82 } : Room) [.ref x0, .int x1] D y S kc kt Pw :=
  z_wentV (own := RX6) (cc := cX6_putNumber) (maxL := 4) (by decide) rfl rfl (Nat.le_of_ble_eq_true rfl) ⟨rfl, rfl⟩ (fun p e s m args below meth c A0 Q H locs ls X hret hM hl => w_X6_putNumber_0 X hret hf ⟨Nat.le_refl _, Nat.le_refl _⟩ hM (lv_sub hl [0, 1] rfl))
theorem hd_X6_putNumber : yX6_putNumber.cls = RX6 ∧ yX6_putNumber.cls ≠ "java/lang/invoke/MethodHandle" ∧ yX6_putNumber.cls ≠ "java/lang/invoke/VarHandle" ∧ (parseMethodDescriptor yX6_putNumber.desc).map (fun d => d.parameters.length) = some 1 := by decide +kernel
theorem fl_X4_become_4_0 : Cond.fieldLink RX4 9 "MoveTexts$Node" "parent" "I" ∈ wsX4_become := by decide +kernel
theorem fl_X4_become_4_1 : Cond.fieldLink RX4 15 "MoveTexts$Node" "move" "I" ∈ wsX4_become := by decide +kernel
theorem fl_X4_become_4_2 : Cond.fieldLink RX4 18 "MoveTexts$Node" "first" "I" ∈ wsX4_become := by decide +kernel
theorem fl_X4_become_4_3 : Cond.fieldLink RX4 21 "MoveTexts$Node" "next" "I" ∈ wsX4_become := by decide +kernel
theorem fl_X4_become_4_4 : Cond.fieldLink RX4 24 "MoveTexts$Node" "markCount" "I" ∈ wsX4_become := by decide +kernel
theorem fl_X4_become_4_5 : Cond.fieldLink RX4 27 "MoveTexts$Node" "marks" "I" ∈ wsX4_become := by decide +kernel
theorem fl_X4_become_4_6 : Cond.fieldLink RX4 33 "MoveTexts$Node" "remark" "LMoveTexts$Row;" ∈ wsX4_become := by decide +kernel
theorem hw_X4_become_4 : ∀ w ∈ wsX40, w ∈ wsX4_become := by decide +kernel
def f_X4_become_0 (x0 : Nat) (x1 : Int32) (x2 : Int32) (S : ZS) : Option (Int32 × ZS) :=
  m_chk (x0 ∈ zL S ∧ zK S x0 = 4) (
  m_bnd (zsI S 0 x0 x1) (fun S1 =>
  m_chk (x0 ∈ zL S1 ∧ zK S1 x0 = 4) (
  m_bnd (zsI S1 1 x0 x2) (fun S2 =>
  m_chk (x0 ∈ zL S2 ∧ zK S2 x0 = 4) (
  m_bnd (zsI S2 2 x0 (-1 : Int32)) (fun S3 =>
  m_chk (x0 ∈ zL S3 ∧ zK S3 x0 = 4) (
  m_bnd (zsI S3 3 x0 (-1 : Int32)) (fun S4 =>
  m_chk (x0 ∈ zL S4 ∧ zK S4 x0 = 4) (
  m_bnd (zsI S4 4 x0 (0 : Int32)) (fun S5 =>
  m_chk (x0 ∈ zL S5 ∧ zK S5 x0 = 4) (
  m_bnd (zsI S5 5 x0 (0 : Int32)) (fun S6 =>
  m_chk (x0 ∈ zL S6 ∧ zK S6 x0 = 4) (
  m_cal (zP S6 6 x0) (fun b7 =>
  m_chk (b7 ∈ zL S6 ∧ zK S6 b7 = 6) (
  m_cal (f_X6_keep b7 (0 : Int32) S6) (fun o8 =>
  some (0, o8.2)))))))))))))))))

set_option maxRecDepth 100000 in
set_option maxHeartbeats 4000000 in
theorem w_X4_become_0 {p : Program} {l : Launch} {e : Env} {s : State} {m : MethodId} {args : Array Value} {below : List Frame} {meth : Method} {c : Code} {Q : State → Prop} {D : va_G} {y : Nat → ClassId} {A0 : Nat → Prop} {o : Int32 × ZS} (X : CallFix p m c cX4_become 3 s args wsX4_become RX4) (hret : zRv p l e ({ frames := 1, cells := 0, slots := 0, locals := 21 } : Room) s m args below meth c Q cX4_become D y A0 o) {x0 : Nat} {x1 : Int32} {x2 : Int32} {S : ZS} {H : Heap} {locs : List Loc} {ls : Array Slot} (hf : f_X4_become_0 x0 x1 x2 S = some o) (hM : zH D y A0 s H locs S) (hl : lv_has ls 3 [(0, .ref x0), (1, .int x1), (2, .int x2)]) : W p l e ({ frames := 1, cells := 0, slots := 0, locals := 21 } : Room) s m args below meth c H locs 0 0 Q (F0 m 0 ls []) := by
  obtain ⟨hx, hb, hml, hown, hts⟩ := id X
  unfold f_X4_become_0 at hf
  refine lv_aload_n hx hb dX4_become_0 rfl (lv_at hl 0 rfl) ?_
  refine lv_iload_n hx hb dX4_become_1 rfl (lv_at hl 1 rfl) ?_
  obtain ⟨ca, hf⟩ := m_chkE hf
  refine z_putI (k := 4) (j := 0) (C := RX4) (T := TX4) (N := 7) (fl := zf_4) (ty := .int) X hw_X4_become_4 tyX4_ok nmX4 hM rfl zc_4 ca (by decide) fl_X4_become_4_0 rfl (tyX4_ok 0 (by decide)) rfl rfl zi_4_0 (Nat.le_of_ble_eq_true rfl) dX4_become_2 (fun H locs hM => ?_)
  clear ca
  obtain ⟨S1, ev, hf⟩ := m_bndE hf
  replace hM := z_hS hM ev
  clear ev
  refine lv_aload_n hx hb dX4_become_5 rfl (lv_at hl 0 rfl) ?_
  refine lv_iload_n hx hb dX4_become_6 rfl (lv_at hl 2 rfl) ?_
  obtain ⟨ca, hf⟩ := m_chkE hf
  refine z_putI (k := 4) (j := 1) (C := RX4) (T := TX4) (N := 7) (fl := zf_4) (ty := .int) X hw_X4_become_4 tyX4_ok nmX4 hM rfl zc_4 ca (by decide) fl_X4_become_4_1 rfl (tyX4_ok 1 (by decide)) rfl rfl zi_4_1 (Nat.le_of_ble_eq_true rfl) dX4_become_7 (fun H locs hM => ?_)
  clear ca
  obtain ⟨S2, ev, hf⟩ := m_bndE hf
  replace hM := z_hS hM ev
  clear ev
  refine lv_aload_n hx hb dX4_become_10 rfl (lv_at hl 0 rfl) ?_
  refine lv_iconst (v := (-1 : Int32)) hx hb dX4_become_11 (by decide) ?_
  obtain ⟨ca, hf⟩ := m_chkE hf
  refine z_putI (k := 4) (j := 2) (C := RX4) (T := TX4) (N := 7) (fl := zf_4) (ty := .int) X hw_X4_become_4 tyX4_ok nmX4 hM rfl zc_4 ca (by decide) fl_X4_become_4_2 rfl (tyX4_ok 2 (by decide)) rfl rfl zi_4_2 (Nat.le_of_ble_eq_true rfl) dX4_become_12 (fun H locs hM => ?_)
  clear ca
  obtain ⟨S3, ev, hf⟩ := m_bndE hf
  replace hM := z_hS hM ev
  clear ev
  refine lv_aload_n hx hb dX4_become_15 rfl (lv_at hl 0 rfl) ?_
  refine lv_iconst (v := (-1 : Int32)) hx hb dX4_become_16 (by decide) ?_
  obtain ⟨ca, hf⟩ := m_chkE hf
  refine z_putI (k := 4) (j := 3) (C := RX4) (T := TX4) (N := 7) (fl := zf_4) (ty := .int) X hw_X4_become_4 tyX4_ok nmX4 hM rfl zc_4 ca (by decide) fl_X4_become_4_3 rfl (tyX4_ok 3 (by decide)) rfl rfl zi_4_3 (Nat.le_of_ble_eq_true rfl) dX4_become_17 (fun H locs hM => ?_)
  clear ca
  obtain ⟨S4, ev, hf⟩ := m_bndE hf
  replace hM := z_hS hM ev
  clear ev
  refine lv_aload_n hx hb dX4_become_20 rfl (lv_at hl 0 rfl) ?_
  refine lv_iconst (v := (0 : Int32)) hx hb dX4_become_21 (by decide) ?_
  obtain ⟨ca, hf⟩ := m_chkE hf
  refine z_putI (k := 4) (j := 4) (C := RX4) (T := TX4) (N := 7) (fl := zf_4) (ty := .int) X hw_X4_become_4 tyX4_ok nmX4 hM rfl zc_4 ca (by decide) fl_X4_become_4_4 rfl (tyX4_ok 4 (by decide)) rfl rfl zi_4_4 (Nat.le_of_ble_eq_true rfl) dX4_become_22 (fun H locs hM => ?_)
  clear ca
  obtain ⟨S5, ev, hf⟩ := m_bndE hf
  replace hM := z_hS hM ev
  clear ev
  refine lv_aload_n hx hb dX4_become_25 rfl (lv_at hl 0 rfl) ?_
  refine lv_iconst (v := (0 : Int32)) hx hb dX4_become_26 (by decide) ?_
  obtain ⟨ca, hf⟩ := m_chkE hf
  refine z_putI (k := 4) (j := 5) (C := RX4) (T := TX4) (N := 7) (fl := zf_4) (ty := .int) X hw_X4_become_4 tyX4_ok nmX4 hM rfl zc_4 ca (by decide) fl_X4_become_4_5 rfl (tyX4_ok 5 (by decide)) rfl rfl zi_4_5 (Nat.le_of_ble_eq_true rfl) dX4_become_27 (fun H locs hM => ?_)
  clear ca
  obtain ⟨S6, ev, hf⟩ := m_bndE hf
  replace hM := z_hS hM ev
  clear ev
  refine lv_aload_n hx hb dX4_become_30 rfl (lv_at hl 0 rfl) ?_
  obtain ⟨ca, hf⟩ := m_chkE hf
  refine z_get (k := 4) (j := 6) (C := RX4) (T := TX4) (N := 7) (fl := zf_4) (v := va_rf (zP S6 6 x0)) X hw_X4_become_4 hM rfl zc_4 ca (by decide) fl_X4_become_4_6 rfl dX4_become_31 ?_
  clear ca
  obtain ⟨b7, hb9, hf⟩ := m_calE hf
  refine z_topr hb9 ?_
  clear hb9
  refine lv_iconst (v := (0 : Int32)) hx hb dX4_become_34 (by decide) ?_
  obtain ⟨ca, hf⟩ := m_chkE hf
  obtain ⟨o8, ho, hf⟩ := m_calE hf
  refine z_callVv (k := 6) (C := RX6) (T := TX6) (N := 2) (fl := zf_6) X hM rfl zc_6 ca (c_X6_keep ho) gX4_become_X6_keep rfl ⟨rfl, rfl⟩ hd_X6_keep ⟨Nat.le_of_ble_eq_true rfl, Nat.le_of_ble_eq_true rfl⟩ rfl hl.1 rfl (Nat.le_of_ble_eq_true rfl) dX4_become_35 (fun H locs hM => ?_)
  clear ho
  cases hf
  exact hret H locs _ ls hM dX4_become_38
def f_X4_become (x0 : Nat) (x1 : Int32) (x2 : Int32) (S : ZS) : Option (Int32 × ZS) := f_X4_become_0 x0 x1 x2 S
theorem c_X4_become {l : Launch} {D : va_G} {y : Nat → ClassId} {x0 : Nat} {x1 : Int32} {x2 : Int32} {S : ZS} {o : Int32 × ZS} (hf : f_X4_become x0 x1 x2 S = some o) : zMv l yX4_become wsX4_become ({ frames := 1, cells := 0, slots := 0, locals := 21 } : Room) [.ref x0, .int x1, .int x2] D y S o :=
  z_entryV (own := RX4) (cc := cX4_become) (maxL := 3) (by decide) rfl rfl (Nat.le_of_ble_eq_true rfl) (fun p e s m args below meth c A0 Q H locs ls X hret hM hl => w_X4_become_0 X hret hf hM (lv_sub hl [0, 1, 2] rfl))
theorem hd_X4_become : yX4_become.cls = RX4 ∧ yX4_become.cls ≠ "java/lang/invoke/MethodHandle" ∧ yX4_become.cls ≠ "java/lang/invoke/VarHandle" ∧ (parseMethodDescriptor yX4_become.desc).map (fun d => d.parameters.length) = some 2 := by decide +kernel
theorem fl_X4_markAt_4_5 : Cond.fieldLink RX4 27 "MoveTexts$Node" "marks" "I" ∈ wsX4_markAt := by decide +kernel
theorem hw_X4_markAt_4 : ∀ w ∈ wsX40, w ∈ wsX4_markAt := by decide +kernel
def f_X4_markAt_0 (x0 : Nat) (x1 : Int32) (S : ZS) : Option (Int32 × ZS) :=
  m_chk (x0 ∈ zL S ∧ zK S x0 = 4) (
  m_bnd ((8 : Int32) * x1) (fun v1 =>
  m_bnd ((((zI S 5 x0)).toUInt32 >>> ((v1).toUInt32 &&& Int32.toUInt32 31)).toInt32) (fun v2 =>
  m_bnd (v2 &&& (255 : Int32)) (fun v3 =>
  some (v3, S)))))

set_option maxRecDepth 100000 in
set_option maxHeartbeats 4000000 in
theorem w_X4_markAt_0 {p : Program} {l : Launch} {e : Env} {s : State} {m : MethodId} {args : Array Value} {below : List Frame} {meth : Method} {c : Code} {Q : State → Prop} {D : va_G} {y : Nat → ClassId} {A0 : Nat → Prop} {o : Int32 × ZS} (X : CallFix p m c cX4_markAt 2 s args wsX4_markAt RX4) (hret : zRi p l e ({ frames := 0, cells := 0, slots := 0, locals := 0 } : Room) s m args below meth c Q cX4_markAt D y A0 .int o) {x0 : Nat} {x1 : Int32} {S : ZS} {H : Heap} {locs : List Loc} {ls : Array Slot} (hf : f_X4_markAt_0 x0 x1 S = some o) (hM : zH D y A0 s H locs S) (hl : lv_has ls 2 [(0, .ref x0), (1, .int x1)]) : W p l e ({ frames := 0, cells := 0, slots := 0, locals := 0 } : Room) s m args below meth c H locs 0 0 Q (F0 m 0 ls []) := by
  obtain ⟨hx, hb, hml, hown, hts⟩ := id X
  unfold f_X4_markAt_0 at hf
  refine lv_aload_n hx hb dX4_markAt_0 rfl (lv_at hl 0 rfl) ?_
  obtain ⟨ca, hf⟩ := m_chkE hf
  refine z_get (k := 4) (j := 5) (C := RX4) (T := TX4) (N := 7) (fl := zf_4) (v := .int (zI S 5 x0)) X hw_X4_markAt_4 hM rfl zc_4 ca (by decide) fl_X4_markAt_4_5 rfl dX4_markAt_1 ?_
  clear ca
  refine lv_bipush (v := (8 : Int32)) hx hb dX4_markAt_4 (by decide) ?_
  refine lv_iload_n hx hb dX4_markAt_6 rfl (lv_at hl 1 rfl) ?_
  refine lv_imul hx hb dX4_markAt_7 ?_
  obtain ⟨v1, ev, hf⟩ := m_bndE hf
  refine m_top ev ?_
  clear ev
  refine lv_iushr (v := (((zI S 5 x0)).toUInt32 >>> ((v1).toUInt32 &&& Int32.toUInt32 31)).toInt32) hx hb dX4_markAt_8 rfl ?_
  obtain ⟨v2, ev, hf⟩ := m_bndE hf
  refine m_top ev ?_
  clear ev
  refine lv_sipush (v := (255 : Int32)) hx hb dX4_markAt_9 (by decide) ?_
  refine lv_iand hx hb dX4_markAt_12 ?_
  obtain ⟨v3, ev, hf⟩ := m_bndE hf
  refine m_top ev ?_
  clear ev
  cases hf
  exact hret H locs _ ls hM rfl dX4_markAt_13
def f_X4_markAt (x0 : Nat) (x1 : Int32) (S : ZS) : Option (Int32 × ZS) := f_X4_markAt_0 x0 x1 S
theorem c_X4_markAt {l : Launch} {D : va_G} {y : Nat → ClassId} {x0 : Nat} {x1 : Int32} {S : ZS} {o : Int32 × ZS} (hf : f_X4_markAt x0 x1 S = some o) : zMi l yX4_markAt wsX4_markAt ({ frames := 0, cells := 0, slots := 0, locals := 0 } : Room) [.ref x0, .int x1] D y S o :=
  z_entryI (own := RX4) (cc := cX4_markAt) (maxL := 2) (by decide) rfl rfl (Nat.le_of_ble_eq_true rfl) (fun p e s m args below meth c A0 Q H locs ls X hret hM hl => w_X4_markAt_0 X hret hf hM (lv_sub hl [0, 1] rfl))
theorem hd_X4_markAt : yX4_markAt.cls = RX4 ∧ yX4_markAt.cls ≠ "java/lang/invoke/MethodHandle" ∧ yX4_markAt.cls ≠ "java/lang/invoke/VarHandle" ∧ (parseMethodDescriptor yX4_markAt.desc).map (fun d => d.parameters.length) = some 1 := by decide +kernel
theorem fl_X5_skip_5_0 : Cond.fieldLink RX5 12 "MoveTexts$PositionReader" "text" "LMoveTexts$Row;" ∈ wsX5_skip := by decide +kernel
theorem fl_X5_skip_5_1 : Cond.fieldLink RX5 18 "MoveTexts$PositionReader" "at" "I" ∈ wsX5_skip := by decide +kernel
theorem hw_X5_skip_5 : ∀ w ∈ wsX50, w ∈ wsX5_skip := by decide +kernel
def f_X5_skip_0 (x0 : Nat) (x1 : Int32) (S : ZS) : Option (Int32 × ZS) :=
  m_chk (x0 ∈ zL S ∧ zK S x0 = 5) (
  m_cal (zP S 0 x0) (fun b1 =>
  m_chk (x0 ∈ zL S ∧ zK S x0 = 5) (
  m_chk (b1 ∈ zL S ∧ zK S b1 = 6) (
  m_cal (f_X6_at b1 (zI S 1 x0) S) (fun o2 =>
  m_if (o2.1 = x1) (
  m_chk (x0 ∈ zL o2.2 ∧ zK o2.2 x0 = 5) (
  m_bnd ((zI o2.2 1 x0) + (1 : Int32)) (fun v3 =>
  m_chk (x0 ∈ zL o2.2 ∧ zK o2.2 x0 = 5) (
  m_bnd (zsI o2.2 1 x0 v3) (fun S4 =>
  m_chk (vp_nar .boolean (1 : Int32) = (1 : Int32)) (some ((1 : Int32), S4))))))
  ) (
  m_chk (vp_nar .boolean (0 : Int32) = (0 : Int32)) (some ((0 : Int32), o2.2))
  ))))))

set_option maxRecDepth 100000 in
set_option maxHeartbeats 4000000 in
theorem w_X5_skip_0 {p : Program} {l : Launch} {e : Env} {s : State} {m : MethodId} {args : Array Value} {below : List Frame} {meth : Method} {c : Code} {Q : State → Prop} {D : va_G} {y : Nat → ClassId} {A0 : Nat → Prop} {o : Int32 × ZS} (X : CallFix p m c cX5_skip 2 s args wsX5_skip RX5) (hret : zRi p l e ({ frames := 1, cells := 0, slots := 0, locals := 21 } : Room) s m args below meth c Q cX5_skip D y A0 .boolean o) {x0 : Nat} {x1 : Int32} {S : ZS} {H : Heap} {locs : List Loc} {ls : Array Slot} (hf : f_X5_skip_0 x0 x1 S = some o) (hM : zH D y A0 s H locs S) (hl : lv_has ls 2 [(0, .ref x0), (1, .int x1)]) : W p l e ({ frames := 1, cells := 0, slots := 0, locals := 21 } : Room) s m args below meth c H locs 0 0 Q (F0 m 0 ls []) := by
  obtain ⟨hx, hb, hml, hown, hts⟩ := id X
  unfold f_X5_skip_0 at hf
  refine lv_aload_n hx hb dX5_skip_0 rfl (lv_at hl 0 rfl) ?_
  obtain ⟨ca, hf⟩ := m_chkE hf
  refine z_get (k := 5) (j := 0) (C := RX5) (T := TX5) (N := 2) (fl := zf_5) (v := va_rf (zP S 0 x0)) X hw_X5_skip_5 hM rfl zc_5 ca (by decide) fl_X5_skip_5_0 rfl dX5_skip_1 ?_
  clear ca
  obtain ⟨b1, hb9, hf⟩ := m_calE hf
  refine z_topr hb9 ?_
  clear hb9
  refine lv_aload_n hx hb dX5_skip_4 rfl (lv_at hl 0 rfl) ?_
  obtain ⟨ca, hf⟩ := m_chkE hf
  refine z_get (k := 5) (j := 1) (C := RX5) (T := TX5) (N := 2) (fl := zf_5) (v := .int (zI S 1 x0)) X hw_X5_skip_5 hM rfl zc_5 ca (by decide) fl_X5_skip_5_1 rfl dX5_skip_5 ?_
  clear ca
  obtain ⟨ca, hf⟩ := m_chkE hf
  obtain ⟨o2, ho, hf⟩ := m_calE hf
  refine z_callVi (k := 6) (C := RX6) (T := TX6) (N := 2) (fl := zf_6) X hM rfl zc_6 ca (c_X6_at ho) gX5_skip_X6_at rfl ⟨rfl, rfl⟩ hd_X6_at ⟨Nat.le_of_ble_eq_true rfl, Nat.le_of_ble_eq_true rfl⟩ rfl hl.1 rfl (Nat.le_of_ble_eq_true rfl) dX5_skip_8 (fun H locs hM => ?_)
  clear ho
  refine lv_iload_n hx hb dX5_skip_11 rfl (lv_at hl 1 rfl) ?_
  refine lv_icmp_eq (tgt := 17) hx hb dX5_skip_12 (by decide) (fun cc1 => ?_) (fun cc1 => ?_)
  · replace hf := m_ifT hf cc1
    refine lv_aload_n hx hb dX5_skip_17 rfl (lv_at hl 0 rfl) ?_
    refine lv_dup hx hb dX5_skip_18 rfl ?_
    obtain ⟨ca, hf⟩ := m_chkE hf
    refine z_get (k := 5) (j := 1) (C := RX5) (T := TX5) (N := 2) (fl := zf_5) (v := .int (zI o2.2 1 x0)) X hw_X5_skip_5 hM rfl zc_5 ca (by decide) fl_X5_skip_5_1 rfl dX5_skip_19 ?_
    clear ca
    refine lv_iconst (v := (1 : Int32)) hx hb dX5_skip_22 (by decide) ?_
    refine lv_iadd hx hb dX5_skip_23 ?_
    obtain ⟨v3, ev, hf⟩ := m_bndE hf
    refine m_top ev ?_
    clear ev
    obtain ⟨ca, hf⟩ := m_chkE hf
    refine z_putI (k := 5) (j := 1) (C := RX5) (T := TX5) (N := 2) (fl := zf_5) (ty := .int) X hw_X5_skip_5 tyX5_ok nmX5 hM rfl zc_5 ca (by decide) fl_X5_skip_5_1 rfl (tyX5_ok 1 (by decide)) rfl rfl zi_5_1 (Nat.le_of_ble_eq_true rfl) dX5_skip_24 (fun H locs hM => ?_)
    clear ca
    obtain ⟨S4, ev, hf⟩ := m_bndE hf
    replace hM := z_hS hM ev
    clear ev
    refine lv_iconst (v := (1 : Int32)) hx hb dX5_skip_27 (by decide) ?_
    obtain ⟨cd, hf⟩ := m_chkE hf
    cases hf
    exact hret H locs _ ls hM (m_nb cd) dX5_skip_28
  · replace hf := m_ifF hf cc1
    refine lv_iconst (v := (0 : Int32)) hx hb dX5_skip_15 (by decide) ?_
    obtain ⟨cd, hf⟩ := m_chkE hf
    cases hf
    exact hret H locs _ ls hM (m_nb cd) dX5_skip_16
def f_X5_skip (x0 : Nat) (x1 : Int32) (S : ZS) : Option (Int32 × ZS) := f_X5_skip_0 x0 x1 S
theorem c_X5_skip {l : Launch} {D : va_G} {y : Nat → ClassId} {x0 : Nat} {x1 : Int32} {S : ZS} {o : Int32 × ZS} (hf : f_X5_skip x0 x1 S = some o) : zMi l yX5_skip wsX5_skip ({ frames := 1, cells := 0, slots := 0, locals := 21 } : Room) [.ref x0, .int x1] D y S o :=
  z_entryI (own := RX5) (cc := cX5_skip) (maxL := 2) (by decide) rfl rfl (Nat.le_of_ble_eq_true rfl) (fun p e s m args below meth c A0 Q H locs ls X hret hM hl => w_X5_skip_0 X hret hf hM (lv_sub hl [0, 1] rfl))
theorem hd_X5_skip : yX5_skip.cls = RX5 ∧ yX5_skip.cls ≠ "java/lang/invoke/MethodHandle" ∧ yX5_skip.cls ≠ "java/lang/invoke/VarHandle" ∧ (parseMethodDescriptor yX5_skip.desc).map (fun d => d.parameters.length) = some 1 := by decide +kernel
