theorem nn_X2_isSign_132 : ((RX2, 132, yX11_isLetter, "MoveTexts") ∈ zNW ∧ Cond.initialized yX11_isLetter.cls ∈ wsX2_isSign) ∧ Cond.static yX11_isLetter ∈ wsX2_isSign := by decide +kernel
theorem nn_X2_isSign_136 : ((RX2, 136, yX11_isDigit, "MoveTexts") ∈ zNW ∧ Cond.initialized yX11_isDigit.cls ∈ wsX2_isSign) ∧ Cond.static yX11_isDigit ∈ wsX2_isSign := by decide +kernel
def f_X2_isSign_43 (t0 : Int32) (S : ZS) : Option (Int32 × ZS) :=
  m_chk (vp_nar .boolean t0 = t0) (some (t0, S))

set_option maxRecDepth 100000 in
set_option maxHeartbeats 4000000 in
theorem w_X2_isSign_43 {p : Program} {l : Launch} {e : Env} {s : State} {m : MethodId} {args : Array Value} {below : List Frame} {meth : Method} {c : Code} {Q : State → Prop} {D : va_G} {y : Nat → ClassId} {A0 : Nat → Prop} {o : Int32 × ZS} (X : CallFix p m c cX2_isSign 1 s args wsX2_isSign RX2) (hret : zRi p l e ({ frames := 1, cells := 0, slots := 0, locals := 20 } : Room) s m args below meth c Q cX2_isSign D y A0 .boolean o) {t0 : Int32} {S : ZS} {H : Heap} {locs : List Loc} {ls : Array Slot} (hf : f_X2_isSign_43 t0 S = some o) (hM : zH D y A0 s H locs S) (hl : lv_has ls 1 []) : W p l e ({ frames := 1, cells := 0, slots := 0, locals := 20 } : Room) s m args below meth c H locs 0 0 Q (F0 m 43 ls [.int t0]) := by
  obtain ⟨hx, hb, hml, hown, hts⟩ := id X
  unfold f_X2_isSign_43 at hf
  obtain ⟨cd, hf⟩ := m_chkE hf
  cases hf
  exact hret H locs _ ls hM (m_nb cd) dX2_isSign_43
def f_X2_isSign_38 (S : ZS) : Option (Int32 × ZS) :=
  f_X2_isSign_43 (1 : Int32) S

set_option maxRecDepth 100000 in
set_option maxHeartbeats 4000000 in
theorem w_X2_isSign_38 {p : Program} {l : Launch} {e : Env} {s : State} {m : MethodId} {args : Array Value} {below : List Frame} {meth : Method} {c : Code} {Q : State → Prop} {D : va_G} {y : Nat → ClassId} {A0 : Nat → Prop} {o : Int32 × ZS} (X : CallFix p m c cX2_isSign 1 s args wsX2_isSign RX2) (hret : zRi p l e ({ frames := 1, cells := 0, slots := 0, locals := 20 } : Room) s m args below meth c Q cX2_isSign D y A0 .boolean o) {S : ZS} {H : Heap} {locs : List Loc} {ls : Array Slot} (hf : f_X2_isSign_38  S = some o) (hM : zH D y A0 s H locs S) (hl : lv_has ls 1 []) : W p l e ({ frames := 1, cells := 0, slots := 0, locals := 20 } : Room) s m args below meth c H locs 0 0 Q (F0 m 38 ls []) := by
  obtain ⟨hx, hb, hml, hown, hts⟩ := id X
  unfold f_X2_isSign_38 at hf
  refine lv_iconst (v := (1 : Int32)) hx hb dX2_isSign_38 (by decide) ?_
  refine lv_goto (tgt := 43) hx hb dX2_isSign_39 (by decide) ?_
  exact w_X2_isSign_43 (t0 := (1 : Int32)) X hret hf hM (lv_sub hl [] rfl)
def f_X2_isSign_0 (x0 : Int32) (S : ZS) : Option (Int32 × ZS) :=
  m_cal (f_X11_isLetter x0 S) (fun o1 =>
  m_if (o1.1 = 0) (
  m_cal (f_X11_isDigit x0 o1.2) (fun o2 =>
  m_if (o2.1 = 0) (
  m_if (x0 = (61 : Int32)) (
  f_X2_isSign_38  o2.2
  ) (
  m_if (x0 = (45 : Int32)) (
  f_X2_isSign_38  o2.2
  ) (
  m_if (x0 = (43 : Int32)) (
  f_X2_isSign_38  o2.2
  ) (
  m_if (x0 = (35 : Int32)) (
  f_X2_isSign_38  o2.2
  ) (
  f_X2_isSign_43 (0 : Int32) o2.2
  )
  )
  )
  )
  ) (
  f_X2_isSign_38  o2.2
  ))
  ) (
  f_X2_isSign_38  o1.2
  ))

set_option maxRecDepth 100000 in
set_option maxHeartbeats 4000000 in
theorem w_X2_isSign_0 {p : Program} {l : Launch} {e : Env} {s : State} {m : MethodId} {args : Array Value} {below : List Frame} {meth : Method} {c : Code} {Q : State → Prop} {D : va_G} {y : Nat → ClassId} {A0 : Nat → Prop} {o : Int32 × ZS} (X : CallFix p m c cX2_isSign 1 s args wsX2_isSign RX2) (hret : zRi p l e ({ frames := 1, cells := 0, slots := 0, locals := 20 } : Room) s m args below meth c Q cX2_isSign D y A0 .boolean o) {x0 : Int32} {S : ZS} {H : Heap} {locs : List Loc} {ls : Array Slot} (hf : f_X2_isSign_0 x0 S = some o) (hM : zH D y A0 s H locs S) (hl : lv_has ls 1 [(0, .int x0)]) : W p l e ({ frames := 1, cells := 0, slots := 0, locals := 20 } : Room) s m args below meth c H locs 0 0 Q (F0 m 0 ls []) := by
  obtain ⟨hx, hb, hml, hown, hts⟩ := id X
  unfold f_X2_isSign_0 at hf
  refine lv_iload_n hx hb dX2_isSign_0 rfl (lv_at hl 0 rfl) ?_
  obtain ⟨o1, ho, hf⟩ := m_calE hf
  refine z_callSNi X hM (c_X11_isLetter ho) gX2_isSign_X11_isLetter_n132 nn_X2_isSign_132.1.1 nn_X2_isSign_132.1.2 nn_X2_isSign_132.2 rfl ⟨rfl, rfl⟩ hd_X11_isLetter ⟨Nat.le_of_ble_eq_true rfl, Nat.le_of_ble_eq_true rfl⟩ rfl hl.1 rfl (Nat.le_of_ble_eq_true rfl) dX2_isSign_1 (fun H locs hM => ?_)
  clear ho
  refine lv_if_ne (tgt := 38) hx hb dX2_isSign_4 (by decide) (fun cc1 => ?_) (fun cc1 => ?_)
  · replace hf := m_ifF hf cc1
    exact w_X2_isSign_38 X hret hf hM (lv_sub hl [] rfl)
  · replace hf := m_ifT hf cc1
    refine lv_iload_n hx hb dX2_isSign_7 rfl (lv_at hl 0 rfl) ?_
    obtain ⟨o2, ho, hf⟩ := m_calE hf
    refine z_callSNi X hM (c_X11_isDigit ho) gX2_isSign_X11_isDigit_n136 nn_X2_isSign_136.1.1 nn_X2_isSign_136.1.2 nn_X2_isSign_136.2 rfl ⟨rfl, rfl⟩ hd_X11_isDigit ⟨Nat.le_of_ble_eq_true rfl, Nat.le_of_ble_eq_true rfl⟩ rfl hl.1 rfl (Nat.le_of_ble_eq_true rfl) dX2_isSign_8 (fun H locs hM => ?_)
    clear ho
    refine lv_if_ne (tgt := 38) hx hb dX2_isSign_11 (by decide) (fun cc1 => ?_) (fun cc1 => ?_)
    · replace hf := m_ifF hf cc1
      exact w_X2_isSign_38 X hret hf hM (lv_sub hl [] rfl)
    · replace hf := m_ifT hf cc1
      refine lv_iload_n hx hb dX2_isSign_14 rfl (lv_at hl 0 rfl) ?_
      refine lv_bipush (v := (61 : Int32)) hx hb dX2_isSign_15 (by decide) ?_
      refine lv_icmp_eq (tgt := 38) hx hb dX2_isSign_17 (by decide) (fun cc1 => ?_) (fun cc1 => ?_)
      · replace hf := m_ifT hf cc1
        exact w_X2_isSign_38 X hret hf hM (lv_sub hl [] rfl)
      · replace hf := m_ifF hf cc1
        refine lv_iload_n hx hb dX2_isSign_20 rfl (lv_at hl 0 rfl) ?_
        refine lv_bipush (v := (45 : Int32)) hx hb dX2_isSign_21 (by decide) ?_
        refine lv_icmp_eq (tgt := 38) hx hb dX2_isSign_23 (by decide) (fun cc1 => ?_) (fun cc1 => ?_)
        · replace hf := m_ifT hf cc1
          exact w_X2_isSign_38 X hret hf hM (lv_sub hl [] rfl)
        · replace hf := m_ifF hf cc1
          refine lv_iload_n hx hb dX2_isSign_26 rfl (lv_at hl 0 rfl) ?_
          refine lv_bipush (v := (43 : Int32)) hx hb dX2_isSign_27 (by decide) ?_
          refine lv_icmp_eq (tgt := 38) hx hb dX2_isSign_29 (by decide) (fun cc1 => ?_) (fun cc1 => ?_)
          · replace hf := m_ifT hf cc1
            exact w_X2_isSign_38 X hret hf hM (lv_sub hl [] rfl)
          · replace hf := m_ifF hf cc1
            refine lv_iload_n hx hb dX2_isSign_32 rfl (lv_at hl 0 rfl) ?_
            refine lv_bipush (v := (35 : Int32)) hx hb dX2_isSign_33 (by decide) ?_
            refine lv_icmp_ne (tgt := 42) hx hb dX2_isSign_35 (by decide) (fun cc1 => ?_) (fun cc1 => ?_)
            · replace hf := m_ifF hf cc1
              refine lv_iconst (v := (0 : Int32)) hx hb dX2_isSign_42 (by decide) ?_
              exact w_X2_isSign_43 (t0 := (0 : Int32)) X hret hf hM (lv_sub hl [] rfl)
            · replace hf := m_ifT hf cc1
              exact w_X2_isSign_38 X hret hf hM (lv_sub hl [] rfl)
def f_X2_isSign (x0 : Int32) (S : ZS) : Option (Int32 × ZS) := f_X2_isSign_0 x0 S
theorem c_X2_isSign {l : Launch} {D : va_G} {y : Nat → ClassId} {x0 : Int32} {S : ZS} {o : Int32 × ZS} (hf : f_X2_isSign x0 S = some o) : zMi l yX2_isSign wsX2_isSign ({ frames := 1, cells := 0, slots := 0, locals := 20 } : Room) [.int x0] D y S o :=
  z_entryI (own := RX2) (cc := cX2_isSign) (maxL := 1) (by decide) rfl rfl (Nat.le_of_ble_eq_true rfl) (fun p e s m args below meth c A0 Q H locs ls X hret hM hl => w_X2_isSign_0 X hret hf hM (lv_sub hl [0] rfl))
theorem hd_X2_isSign : yX2_isSign.cls ≠ "java/lang/invoke/MethodHandle" ∧ yX2_isSign.cls ≠ "java/lang/invoke/VarHandle" ∧ (parseMethodDescriptor yX2_isSign.desc).map (fun d => d.parameters.length) = some 1 := by decide +kernel
theorem fl_X2_skipSigns_2_2 : Cond.fieldLink RX2 28 "MoveTexts$GameReader" "text" "LMoveTexts$Row;" ∈ wsX2_skipSigns := by decide +kernel
theorem fl_X2_skipSigns_2_4 : Cond.fieldLink RX2 39 "MoveTexts$GameReader" "at" "I" ∈ wsX2_skipSigns := by decide +kernel
theorem hw_X2_skipSigns_2 : ∀ w ∈ wsX20, w ∈ wsX2_skipSigns := by decide +kernel
def f_X2_skipSigns_44 (S : ZS) : Option (Int32 × ZS) :=
  some (0, S)

set_option maxRecDepth 100000 in
set_option maxHeartbeats 4000000 in
theorem w_X2_skipSigns_44 {p : Program} {l : Launch} {e : Env} {s : State} {m : MethodId} {args : Array Value} {below : List Frame} {meth : Method} {c : Code} {Q : State → Prop} {D : va_G} {y : Nat → ClassId} {A0 : Nat → Prop} {o : Int32 × ZS} (X : CallFix p m c cX2_skipSigns 1 s args wsX2_skipSigns RX2) (hret : zRv p l e ({ frames := 2, cells := 0, slots := 0, locals := 40 } : Room) s m args below meth c Q cX2_skipSigns D y A0 o) {S : ZS} {H : Heap} {locs : List Loc} {ls : Array Slot} (hf : f_X2_skipSigns_44  S = some o) (hM : zH D y A0 s H locs S) (hl : lv_has ls 1 []) : W p l e ({ frames := 2, cells := 0, slots := 0, locals := 40 } : Room) s m args below meth c H locs 0 0 Q (F0 m 44 ls []) := by
  obtain ⟨hx, hb, hml, hown, hts⟩ := id X
  unfold f_X2_skipSigns_44 at hf
  cases hf
  exact hret H locs _ ls hM dX2_skipSigns_44
def f_X2_skipSigns_0s (self0 : Nat → ZS → Option (Int32 × ZS)) (x0 : Nat) (S : ZS) : Option (Int32 × ZS) :=
  m_chk (x0 ∈ zL S ∧ zK S x0 = 2) (
  m_chk (x0 ∈ zL S ∧ zK S x0 = 2) (
  m_cal (zP S 2 x0) (fun b1 =>
  m_chk (b1 ∈ zL S ∧ zK S b1 = 6) (
  m_cal (f_X6_size b1 S) (fun o2 =>
  m_if (o2.1 ≤ (zI S 4 x0)) (
  f_X2_skipSigns_44  o2.2
  ) (
  m_chk (x0 ∈ zL o2.2 ∧ zK o2.2 x0 = 2) (
  m_cal (zP o2.2 2 x0) (fun b3 =>
  m_chk (x0 ∈ zL o2.2 ∧ zK o2.2 x0 = 2) (
  m_chk (b3 ∈ zL o2.2 ∧ zK o2.2 b3 = 6) (
  m_cal (f_X6_at b3 (zI o2.2 4 x0) o2.2) (fun o4 =>
  m_cal (f_X2_isSign o4.1 o4.2) (fun o5 =>
  m_if (o5.1 = 0) (
  f_X2_skipSigns_44  o5.2
  ) (
  m_chk (x0 ∈ zL o5.2 ∧ zK o5.2 x0 = 2) (
  m_bnd ((zI o5.2 4 x0) + (1 : Int32)) (fun v6 =>
  m_chk (x0 ∈ zL o5.2 ∧ zK o5.2 x0 = 2) (
  m_bnd (zsI o5.2 4 x0 v6) (fun S7 =>
  self0 x0 S7))))
  )))))))
  ))))))

set_option maxRecDepth 100000 in
set_option maxHeartbeats 4000000 in
theorem ws_X2_skipSigns_0 {p : Program} {l : Launch} {e : Env} {s : State} {m : MethodId} {args : Array Value} {below : List Frame} {meth : Method} {c : Code} {Q : State → Prop} {D : va_G} {y : Nat → ClassId} {A0 : Nat → Prop} {o : Int32 × ZS} (X : CallFix p m c cX2_skipSigns 1 s args wsX2_skipSigns RX2) (hret : zRv p l e ({ frames := 2, cells := 0, slots := 0, locals := 40 } : Room) s m args below meth c Q cX2_skipSigns D y A0 o) {self0 : Nat → ZS → Option (Int32 × ZS)} (hself0 : ∀ (x0 : Nat) (S : ZS) (H : Heap) (locs : List Loc) (ls : Array Slot), self0 x0 S = some o → zH D y A0 s H locs S → lv_has ls 1 [(0, .ref x0)] → W p l e ({ frames := 2, cells := 0, slots := 0, locals := 40 } : Room) s m args below meth c H locs 0 0 Q (F0 m 0 ls [])) {x0 : Nat} {S : ZS} {H : Heap} {locs : List Loc} {ls : Array Slot} (hf : f_X2_skipSigns_0s self0 x0 S = some o) (hM : zH D y A0 s H locs S) (hl : lv_has ls 1 [(0, .ref x0)]) : W p l e ({ frames := 2, cells := 0, slots := 0, locals := 40 } : Room) s m args below meth c H locs 0 0 Q (F0 m 0 ls []) := by
  obtain ⟨hx, hb, hml, hown, hts⟩ := id X
  unfold f_X2_skipSigns_0s at hf
  refine lv_aload_n hx hb dX2_skipSigns_0 rfl (lv_at hl 0 rfl) ?_
  obtain ⟨ca, hf⟩ := m_chkE hf
  refine z_get (k := 2) (j := 4) (C := RX2) (T := TX2) (N := 12) (fl := zf_2) (v := .int (zI S 4 x0)) X hw_X2_skipSigns_2 hM rfl zc_2 ca (by decide) fl_X2_skipSigns_2_4 rfl dX2_skipSigns_1 ?_
  clear ca
  refine lv_aload_n hx hb dX2_skipSigns_4 rfl (lv_at hl 0 rfl) ?_
  obtain ⟨ca, hf⟩ := m_chkE hf
  refine z_get (k := 2) (j := 2) (C := RX2) (T := TX2) (N := 12) (fl := zf_2) (v := va_rf (zP S 2 x0)) X hw_X2_skipSigns_2 hM rfl zc_2 ca (by decide) fl_X2_skipSigns_2_2 rfl dX2_skipSigns_5 ?_
  clear ca
  obtain ⟨b1, hb9, hf⟩ := m_calE hf
  refine z_topr hb9 ?_
  clear hb9
  obtain ⟨ca, hf⟩ := m_chkE hf
  obtain ⟨o2, ho, hf⟩ := m_calE hf
  refine z_callVi (k := 6) (C := RX6) (T := TX6) (N := 2) (fl := zf_6) X hM rfl zc_6 ca (c_X6_size ho) gX2_skipSigns_X6_size rfl ⟨rfl, rfl⟩ hd_X6_size ⟨Nat.le_of_ble_eq_true rfl, Nat.le_of_ble_eq_true rfl⟩ rfl hl.1 rfl (Nat.le_of_ble_eq_true rfl) dX2_skipSigns_8 (fun H locs hM => ?_)
  clear ho
  refine lv_icmp_ge (tgt := 44) hx hb dX2_skipSigns_11 (by decide) (fun cc1 => ?_) (fun cc1 => ?_)
  · replace hf := m_ifT hf cc1
    exact w_X2_skipSigns_44 X hret hf hM (lv_sub hl [] rfl)
  · replace hf := m_ifF hf cc1
    refine lv_aload_n hx hb dX2_skipSigns_14 rfl (lv_at hl 0 rfl) ?_
    obtain ⟨ca, hf⟩ := m_chkE hf
    refine z_get (k := 2) (j := 2) (C := RX2) (T := TX2) (N := 12) (fl := zf_2) (v := va_rf (zP o2.2 2 x0)) X hw_X2_skipSigns_2 hM rfl zc_2 ca (by decide) fl_X2_skipSigns_2_2 rfl dX2_skipSigns_15 ?_
    clear ca
    obtain ⟨b3, hb9, hf⟩ := m_calE hf
    refine z_topr hb9 ?_
    clear hb9
    refine lv_aload_n hx hb dX2_skipSigns_18 rfl (lv_at hl 0 rfl) ?_
    obtain ⟨ca, hf⟩ := m_chkE hf
    refine z_get (k := 2) (j := 4) (C := RX2) (T := TX2) (N := 12) (fl := zf_2) (v := .int (zI o2.2 4 x0)) X hw_X2_skipSigns_2 hM rfl zc_2 ca (by decide) fl_X2_skipSigns_2_4 rfl dX2_skipSigns_19 ?_
    clear ca
    obtain ⟨ca, hf⟩ := m_chkE hf
    obtain ⟨o4, ho, hf⟩ := m_calE hf
    refine z_callVi (k := 6) (C := RX6) (T := TX6) (N := 2) (fl := zf_6) X hM rfl zc_6 ca (c_X6_at ho) gX2_skipSigns_X6_at rfl ⟨rfl, rfl⟩ hd_X6_at ⟨Nat.le_of_ble_eq_true rfl, Nat.le_of_ble_eq_true rfl⟩ rfl hl.1 rfl (Nat.le_of_ble_eq_true rfl) dX2_skipSigns_22 (fun H locs hM => ?_)
    clear ho
    obtain ⟨o5, ho, hf⟩ := m_calE hf
    refine z_callSi X hM (c_X2_isSign ho) gX2_skipSigns_X2_isSign rfl ⟨rfl, rfl⟩ hd_X2_isSign ⟨Nat.le_of_ble_eq_true rfl, Nat.le_of_ble_eq_true rfl⟩ rfl hl.1 rfl (Nat.le_of_ble_eq_true rfl) dX2_skipSigns_25 (fun H locs hM => ?_)
    clear ho
    refine lv_if_eq (tgt := 44) hx hb dX2_skipSigns_28 (by decide) (fun cc1 => ?_) (fun cc1 => ?_)
    · replace hf := m_ifT hf cc1
      exact w_X2_skipSigns_44 X hret hf hM (lv_sub hl [] rfl)
    · replace hf := m_ifF hf cc1
      refine lv_aload_n hx hb dX2_skipSigns_31 rfl (lv_at hl 0 rfl) ?_
      refine lv_dup hx hb dX2_skipSigns_32 rfl ?_
      obtain ⟨ca, hf⟩ := m_chkE hf
      refine z_get (k := 2) (j := 4) (C := RX2) (T := TX2) (N := 12) (fl := zf_2) (v := .int (zI o5.2 4 x0)) X hw_X2_skipSigns_2 hM rfl zc_2 ca (by decide) fl_X2_skipSigns_2_4 rfl dX2_skipSigns_33 ?_
      clear ca
      refine lv_iconst (v := (1 : Int32)) hx hb dX2_skipSigns_36 (by decide) ?_
      refine lv_iadd hx hb dX2_skipSigns_37 ?_
      obtain ⟨v6, ev, hf⟩ := m_bndE hf
      refine m_top ev ?_
      clear ev
      obtain ⟨ca, hf⟩ := m_chkE hf
      refine z_putI (k := 2) (j := 4) (C := RX2) (T := TX2) (N := 12) (fl := zf_2) (ty := .int) X hw_X2_skipSigns_2 tyX2_ok nmX2 hM rfl zc_2 ca (by decide) fl_X2_skipSigns_2_4 rfl (tyX2_ok 4 (by decide)) rfl rfl zi_2_4 (Nat.le_of_ble_eq_true rfl) dX2_skipSigns_38 (fun H locs hM => ?_)
      clear ca
      obtain ⟨S7, ev, hf⟩ := m_bndE hf
      replace hM := z_hS hM ev
      clear ev
      refine lv_goto (tgt := 0) hx hb dX2_skipSigns_41 (by decide) ?_
      exact hself0 x0 _ _ _ _ hf hM (lv_sub hl [0] rfl)
def f_X2_skipSigns_0 : Nat → Nat → ZS → Option (Int32 × ZS)
  | 0 => fun _ _ => none
  | n + 1 => f_X2_skipSigns_0s (f_X2_skipSigns_0 n)
theorem w_X2_skipSigns_0 {p : Program} {l : Launch} {e : Env} {s : State} {m : MethodId} {args : Array Value} {below : List Frame} {meth : Method} {c : Code} {Q : State → Prop} {D : va_G} {y : Nat → ClassId} {A0 : Nat → Prop} {o : Int32 × ZS} (X : CallFix p m c cX2_skipSigns 1 s args wsX2_skipSigns RX2) (hret : zRv p l e ({ frames := 2, cells := 0, slots := 0, locals := 40 } : Room) s m args below meth c Q cX2_skipSigns D y A0 o) (n : Nat) : ∀ (x0 : Nat) (S : ZS) (H : Heap) (locs : List Loc) (ls : Array Slot), f_X2_skipSigns_0 n x0 S = some o → zH D y A0 s H locs S → lv_has ls 1 [(0, .ref x0)] → W p l e ({ frames := 2, cells := 0, slots := 0, locals := 40 } : Room) s m args below meth c H locs 0 0 Q (F0 m 0 ls []) := by
  induction n with
  | zero => intro x0 S H locs ls hf; cases hf
  | succ n ih => intro x0 S H locs ls hf hM hl; exact ws_X2_skipSigns_0 X hret (self0 := f_X2_skipSigns_0 n) ih hf hM hl
def f_X2_skipSigns (x0 : Nat) (S : ZS) : Option (Int32 × ZS) := f_X2_skipSigns_0 mFuel x0 S
theorem c_X2_skipSigns {l : Launch} {D : va_G} {y : Nat → ClassId} {x0 : Nat} {S : ZS} {o : Int32 × ZS} (hf : f_X2_skipSigns x0 S = some o) : zMv l yX2_skipSigns wsX2_skipSigns ({ frames := 2, cells := 0, slots := 0, locals := 40 } : Room) [.ref x0] D y S o :=
  z_entryV (own := RX2) (cc := cX2_skipSigns) (maxL := 1) (by decide) rfl rfl (Nat.le_of_ble_eq_true rfl) (fun p e s m args below meth c A0 Q H locs ls X hret hM hl => w_X2_skipSigns_0 X hret mFuel x0 S H locs ls hf hM (lv_sub hl [0] rfl))
theorem hd_X2_skipSigns : yX2_skipSigns.cls = RX2 ∧ yX2_skipSigns.cls ≠ "java/lang/invoke/MethodHandle" ∧ yX2_skipSigns.cls ≠ "java/lang/invoke/VarHandle" ∧ (parseMethodDescriptor yX2_skipSigns.desc).map (fun d => d.parameters.length) = some 0 := by decide +kernel
theorem fl_X8_copyWhole_8_1 : Cond.fieldLink RX8 21 "MoveTexts$SignReader" "row" "LMoveTexts$Row;" ∈ wsX8_copyWhole := by decide +kernel
theorem fl_X8_copyWhole_8_9 : Cond.fieldLink RX8 45 "MoveTexts$SignReader" "check" "C" ∈ wsX8_copyWhole := by decide +kernel
theorem hw_X8_copyWhole_8 : ∀ w ∈ wsX80, w ∈ wsX8_copyWhole := by decide +kernel
def g_X8_copyWhole_113 (Pw : Int32 → ZS → Prop) (S : ZS) (C T : Nat) : Prop :=
  Pw 0 S

set_option maxRecDepth 100000 in
set_option maxHeartbeats 4000000 in
theorem w_X8_copyWhole_113 {p : Program} {l : Launch} {e : Env} {s : State} {m : MethodId} {args : Array Value} {below : List Frame} {meth : Method} {c : Code} {Q : State → Prop} {D : va_G} {y : Nat → ClassId} {A0 : Nat → Prop} {kc kt : Nat} {Pw : Int32 → ZS → Prop} (X : CallFix p m c cX8_copyWhole 5 s args wsX8_copyWhole RX8) (hret : zQv p l e ({ frames := 2, cells := kc, slots := kt, locals := 82 } : Room) s m args below meth c Q cX8_copyWhole D y A0 Pw) {S : ZS} {C T : Nat} {H : Heap} {locs : List Loc} {ls : Array Slot} (hf : g_X8_copyWhole_113 Pw  S C T) (hCT : C ≤ kc ∧ T ≤ kt) (hM : zH D y A0 s H locs S) (hl : lv_has ls 5 []) : W p l e ({ frames := 2, cells := kc, slots := kt, locals := 82 } : Room) s m args below meth c H locs (kc - C) (kt - T) Q (F0 m 113 ls []) := by
  obtain ⟨hx, hb, hml, hown, hts⟩ := id X
  unfold g_X8_copyWhole_113 at hf
  exact hret _ _ _ H locs _ ls hf hM dX8_copyWhole_113
def g_X8_copyWhole_87 (Pw : Int32 → ZS → Prop) (x0 : Nat) (t0 : Int32) (t1 : Nat) (S : ZS) (C T : Nat) : Prop :=
  m_chkP (t1 ∈ zL S ∧ zK S t1 = 8) (
  m_chkP (vp_nar .char t0 = t0 ∧ fits .char (.int t0) = true) (
  m_bndP (zsI S 9 t1 t0) (fun S1 =>
  m_chkP (x0 ∈ zL S1 ∧ zK S1 x0 = 8) (
  m_ifP ((zI S1 9 x0) = 0) (
  g_X8_copyWhole_113 Pw  S1 (C) (T)
  ) (
  m_chkP (x0 ∈ zL S1 ∧ zK S1 x0 = 8) (
  m_calP (zP S1 1 x0) (fun b2 =>
  m_chkP (x0 ∈ zL S1 ∧ zK S1 x0 = 8) (
  m_calP (zP S1 1 x0) (fun b3 =>
  m_chkP (b3 ∈ zL S1 ∧ zK S1 b3 = 6) (
  m_calP (f_X6_size b3 S1) (fun o4 =>
  m_bndP (o4.1 - (1 : Int32)) (fun v5 =>
  m_chkP (b2 ∈ zL o4.2 ∧ zK o4.2 b2 = 6) (
  m_calP (f_X6_keep b2 v5 o4.2) (fun o6 =>
  g_X8_copyWhole_113 Pw  o6.2 (C) (T))))))))))
  )))))

set_option maxRecDepth 100000 in
set_option maxHeartbeats 4000000 in
theorem w_X8_copyWhole_87 {p : Program} {l : Launch} {e : Env} {s : State} {m : MethodId} {args : Array Value} {below : List Frame} {meth : Method} {c : Code} {Q : State → Prop} {D : va_G} {y : Nat → ClassId} {A0 : Nat → Prop} {kc kt : Nat} {Pw : Int32 → ZS → Prop} (X : CallFix p m c cX8_copyWhole 5 s args wsX8_copyWhole RX8) (hret : zQv p l e ({ frames := 2, cells := kc, slots := kt, locals := 82 } : Room) s m args below meth c Q cX8_copyWhole D y A0 Pw) {x0 : Nat} {t0 : Int32} {t1 : Nat} {S : ZS} {C T : Nat} {H : Heap} {locs : List Loc} {ls : Array Slot} (hf : g_X8_copyWhole_87 Pw x0 t0 t1 S C T) (hCT : C ≤ kc ∧ T ≤ kt) (hM : zH D y A0 s H locs S) (hl : lv_has ls 5 [(0, .ref x0)]) : W p l e ({ frames := 2, cells := kc, slots := kt, locals := 82 } : Room) s m args below meth c H locs (kc - C) (kt - T) Q (F0 m 87 ls [.int t0, .ref t1]) := by
  obtain ⟨hx, hb, hml, hown, hts⟩ := id X
  unfold g_X8_copyWhole_87 at hf
  obtain ⟨ca, hf⟩ := m_chkPE hf
  obtain ⟨cg, hf⟩ := m_chkPE hf
  refine z_putI (k := 8) (j := 9) (C := RX8) (T := TX8) (N := 12) (fl := zf_8) (ty := .char) X hw_X8_copyWhole_8 tyX8_ok nmX8 hM rfl zc_8 ca (by decide) fl_X8_copyWhole_8_9 rfl (tyX8_ok 9 (by decide)) (m_nc cg.1) cg.2 zi_8_9 (Nat.le_of_ble_eq_true rfl) dX8_copyWhole_87 (fun H locs hM => ?_)
  clear ca
  obtain ⟨S1, ev, hf⟩ := m_bndPE hf
  replace hM := z_hS hM ev
  clear ev
  refine lv_aload_n hx hb dX8_copyWhole_90 rfl (lv_at hl 0 rfl) ?_
  obtain ⟨ca, hf⟩ := m_chkPE hf
  refine z_get (k := 8) (j := 9) (C := RX8) (T := TX8) (N := 12) (fl := zf_8) (v := .int (zI S1 9 x0)) X hw_X8_copyWhole_8 hM rfl zc_8 ca (by decide) fl_X8_copyWhole_8_9 rfl dX8_copyWhole_91 ?_
  clear ca
  refine lv_if_eq (tgt := 113) hx hb dX8_copyWhole_94 (by decide) (fun cc1 => ?_) (fun cc1 => ?_)
  · replace hf := m_ifPT hf cc1
    exact w_X8_copyWhole_113 X hret hf hCT hM (lv_sub hl [] rfl)
  · replace hf := m_ifPF hf cc1
    refine lv_aload_n hx hb dX8_copyWhole_97 rfl (lv_at hl 0 rfl) ?_
    obtain ⟨ca, hf⟩ := m_chkPE hf
    refine z_get (k := 8) (j := 1) (C := RX8) (T := TX8) (N := 12) (fl := zf_8) (v := va_rf (zP S1 1 x0)) X hw_X8_copyWhole_8 hM rfl zc_8 ca (by decide) fl_X8_copyWhole_8_1 rfl dX8_copyWhole_98 ?_
    clear ca
    obtain ⟨b2, hb9, hf⟩ := m_calPE hf
    refine z_topr hb9 ?_
    clear hb9
    refine lv_aload_n hx hb dX8_copyWhole_101 rfl (lv_at hl 0 rfl) ?_
    obtain ⟨ca, hf⟩ := m_chkPE hf
    refine z_get (k := 8) (j := 1) (C := RX8) (T := TX8) (N := 12) (fl := zf_8) (v := va_rf (zP S1 1 x0)) X hw_X8_copyWhole_8 hM rfl zc_8 ca (by decide) fl_X8_copyWhole_8_1 rfl dX8_copyWhole_102 ?_
    clear ca
    obtain ⟨b3, hb9, hf⟩ := m_calPE hf
    refine z_topr hb9 ?_
    clear hb9
    obtain ⟨ca, hf⟩ := m_chkPE hf
    obtain ⟨o4, ho, hf⟩ := m_calPE hf
    refine z_gcallVi (k := 6) (C := RX6) (T := TX6) (N := 2) (fl := zf_6) X hM rfl zc_6 ca (c_X6_size ho) gX8_copyWhole_X6_size rfl ⟨rfl, rfl⟩ hd_X6_size ⟨Nat.le_of_ble_eq_true rfl, Nat.le_of_ble_eq_true rfl⟩ rfl hl.1 rfl ⟨Nat.sub_le _ _, Nat.sub_le _ _⟩ (Nat.le_of_ble_eq_true rfl) dX8_copyWhole_105 (fun H locs hM => ?_)
    clear ho
    refine lv_iconst (v := (1 : Int32)) hx hb dX8_copyWhole_108 (by decide) ?_
    refine lv_isub hx hb dX8_copyWhole_109 ?_
    obtain ⟨v5, ev, hf⟩ := m_bndPE hf
    refine m_top ev ?_
    clear ev
    obtain ⟨ca, hf⟩ := m_chkPE hf
    obtain ⟨o6, ho, hf⟩ := m_calPE hf
    refine z_gcallVv (k := 6) (C := RX6) (T := TX6) (N := 2) (fl := zf_6) X hM rfl zc_6 ca (c_X6_keep ho) gX8_copyWhole_X6_keep rfl ⟨rfl, rfl⟩ hd_X6_keep ⟨Nat.le_of_ble_eq_true rfl, Nat.le_of_ble_eq_true rfl⟩ rfl hl.1 rfl ⟨Nat.sub_le _ _, Nat.sub_le _ _⟩ (Nat.le_of_ble_eq_true rfl) dX8_copyWhole_110 (fun H locs hM => ?_)
    clear ho
    exact w_X8_copyWhole_113 X hret hf hCT hM (lv_sub hl [] rfl)
def g_X8_copyWhole_81 (Pw : Int32 → ZS → Prop) (x0 : Nat) (x4 : Int32) (t0 : Nat) (S : ZS) (C T : Nat) : Prop :=
  g_X8_copyWhole_87 Pw x0 x4 t0 S (C) (T)

set_option maxRecDepth 100000 in
set_option maxHeartbeats 4000000 in
theorem w_X8_copyWhole_81 {p : Program} {l : Launch} {e : Env} {s : State} {m : MethodId} {args : Array Value} {below : List Frame} {meth : Method} {c : Code} {Q : State → Prop} {D : va_G} {y : Nat → ClassId} {A0 : Nat → Prop} {kc kt : Nat} {Pw : Int32 → ZS → Prop} (X : CallFix p m c cX8_copyWhole 5 s args wsX8_copyWhole RX8) (hret : zQv p l e ({ frames := 2, cells := kc, slots := kt, locals := 82 } : Room) s m args below meth c Q cX8_copyWhole D y A0 Pw) {x0 : Nat} {x4 : Int32} {t0 : Nat} {S : ZS} {C T : Nat} {H : Heap} {locs : List Loc} {ls : Array Slot} (hf : g_X8_copyWhole_81 Pw x0 x4 t0 S C T) (hCT : C ≤ kc ∧ T ≤ kt) (hM : zH D y A0 s H locs S) (hl : lv_has ls 5 [(0, .ref x0), (4, .int x4)]) : W p l e ({ frames := 2, cells := kc, slots := kt, locals := 82 } : Room) s m args below meth c H locs (kc - C) (kt - T) Q (F0 m 81 ls [.ref t0]) := by
  obtain ⟨hx, hb, hml, hown, hts⟩ := id X
  unfold g_X8_copyWhole_81 at hf
  refine lv_iload hx hb dX8_copyWhole_81 (lv_at hl 1 rfl) ?_
  refine lv_goto (tgt := 87) hx hb dX8_copyWhole_83 (by decide) ?_
  exact w_X8_copyWhole_87 (x0 := x0) (t0 := x4) (t1 := t0) X hret hf hCT hM (lv_sub hl [0] rfl)
def g_X8_copyWhole_48 (Pw : Int32 → ZS → Prop) (x0 : Nat) (S : ZS) (C T : Nat) : Prop :=
  m_chkP (x0 ∈ zL S ∧ zK S x0 = 8) (
  m_calP (zP S 1 x0) (fun b1 =>
  m_chkP (x0 ∈ zL S ∧ zK S x0 = 8) (
  m_calP (zP S 1 x0) (fun b2 =>
  m_chkP (b2 ∈ zL S ∧ zK S b2 = 6) (
  m_calP (f_X6_size b2 S) (fun o3 =>
  m_bndP (o3.1 - (1 : Int32)) (fun v4 =>
  m_chkP (b1 ∈ zL o3.2 ∧ zK o3.2 b1 = 6) (
  m_calP (f_X6_at b1 v4 o3.2) (fun o5 =>
  m_ifP (o5.1 = (43 : Int32)) (
  g_X8_copyWhole_81 Pw x0 o5.1 x0 o5.2 (C) (T)
  ) (
  m_ifP (o5.1 = (35 : Int32)) (
  g_X8_copyWhole_81 Pw x0 o5.1 x0 o5.2 (C) (T)
  ) (
  g_X8_copyWhole_87 Pw x0 (0 : Int32) x0 o5.2 (C) (T)
  )
  ))))))))))

set_option maxRecDepth 100000 in
set_option maxHeartbeats 4000000 in
theorem w_X8_copyWhole_48 {p : Program} {l : Launch} {e : Env} {s : State} {m : MethodId} {args : Array Value} {below : List Frame} {meth : Method} {c : Code} {Q : State → Prop} {D : va_G} {y : Nat → ClassId} {A0 : Nat → Prop} {kc kt : Nat} {Pw : Int32 → ZS → Prop} (X : CallFix p m c cX8_copyWhole 5 s args wsX8_copyWhole RX8) (hret : zQv p l e ({ frames := 2, cells := kc, slots := kt, locals := 82 } : Room) s m args below meth c Q cX8_copyWhole D y A0 Pw) {x0 : Nat} {S : ZS} {C T : Nat} {H : Heap} {locs : List Loc} {ls : Array Slot} (hf : g_X8_copyWhole_48 Pw x0 S C T) (hCT : C ≤ kc ∧ T ≤ kt) (hM : zH D y A0 s H locs S) (hl : lv_has ls 5 [(0, .ref x0)]) : W p l e ({ frames := 2, cells := kc, slots := kt, locals := 82 } : Room) s m args below meth c H locs (kc - C) (kt - T) Q (F0 m 48 ls []) := by
  obtain ⟨hx, hb, hml, hown, hts⟩ := id X
  unfold g_X8_copyWhole_48 at hf
  refine lv_aload_n hx hb dX8_copyWhole_48 rfl (lv_at hl 0 rfl) ?_
  obtain ⟨ca, hf⟩ := m_chkPE hf
  refine z_get (k := 8) (j := 1) (C := RX8) (T := TX8) (N := 12) (fl := zf_8) (v := va_rf (zP S 1 x0)) X hw_X8_copyWhole_8 hM rfl zc_8 ca (by decide) fl_X8_copyWhole_8_1 rfl dX8_copyWhole_49 ?_
  clear ca
  obtain ⟨b1, hb9, hf⟩ := m_calPE hf
  refine z_topr hb9 ?_
  clear hb9
  refine lv_aload_n hx hb dX8_copyWhole_52 rfl (lv_at hl 0 rfl) ?_
  obtain ⟨ca, hf⟩ := m_chkPE hf
  refine z_get (k := 8) (j := 1) (C := RX8) (T := TX8) (N := 12) (fl := zf_8) (v := va_rf (zP S 1 x0)) X hw_X8_copyWhole_8 hM rfl zc_8 ca (by decide) fl_X8_copyWhole_8_1 rfl dX8_copyWhole_53 ?_
  clear ca
  obtain ⟨b2, hb9, hf⟩ := m_calPE hf
  refine z_topr hb9 ?_
  clear hb9
  obtain ⟨ca, hf⟩ := m_chkPE hf
  obtain ⟨o3, ho, hf⟩ := m_calPE hf
  refine z_gcallVi (k := 6) (C := RX6) (T := TX6) (N := 2) (fl := zf_6) X hM rfl zc_6 ca (c_X6_size ho) gX8_copyWhole_X6_size rfl ⟨rfl, rfl⟩ hd_X6_size ⟨Nat.le_of_ble_eq_true rfl, Nat.le_of_ble_eq_true rfl⟩ rfl hl.1 rfl ⟨Nat.sub_le _ _, Nat.sub_le _ _⟩ (Nat.le_of_ble_eq_true rfl) dX8_copyWhole_56 (fun H locs hM => ?_)
  clear ho
  refine lv_iconst (v := (1 : Int32)) hx hb dX8_copyWhole_59 (by decide) ?_
  refine lv_isub hx hb dX8_copyWhole_60 ?_
  obtain ⟨v4, ev, hf⟩ := m_bndPE hf
  refine m_top ev ?_
  clear ev
  obtain ⟨ca, hf⟩ := m_chkPE hf
  obtain ⟨o5, ho, hf⟩ := m_calPE hf
  refine z_gcallVi (k := 6) (C := RX6) (T := TX6) (N := 2) (fl := zf_6) X hM rfl zc_6 ca (c_X6_at ho) gX8_copyWhole_X6_at rfl ⟨rfl, rfl⟩ hd_X6_at ⟨Nat.le_of_ble_eq_true rfl, Nat.le_of_ble_eq_true rfl⟩ rfl hl.1 rfl ⟨Nat.sub_le _ _, Nat.sub_le _ _⟩ (Nat.le_of_ble_eq_true rfl) dX8_copyWhole_61 (fun H locs hM => ?_)
  clear ho
  refine lv_istore (lv' := [(4, .int o5.1), (0, .ref x0)]) hx hb dX8_copyWhole_64 hl (by decide) rfl (fun ls hl => ?_)
  refine lv_aload_n hx hb dX8_copyWhole_66 rfl (lv_at hl 1 rfl) ?_
  refine lv_iload hx hb dX8_copyWhole_67 (lv_at hl 0 rfl) ?_
  refine lv_bipush (v := (43 : Int32)) hx hb dX8_copyWhole_69 (by decide) ?_
  refine lv_icmp_eq (tgt := 81) hx hb dX8_copyWhole_71 (by decide) (fun cc1 => ?_) (fun cc1 => ?_)
  · replace hf := m_ifPT hf cc1
    exact w_X8_copyWhole_81 (x0 := x0) (x4 := o5.1) (t0 := x0) X hret hf hCT hM (lv_sub hl [1, 0] rfl)
  · replace hf := m_ifPF hf cc1
    refine lv_iload hx hb dX8_copyWhole_74 (lv_at hl 0 rfl) ?_
    refine lv_bipush (v := (35 : Int32)) hx hb dX8_copyWhole_76 (by decide) ?_
    refine lv_icmp_ne (tgt := 86) hx hb dX8_copyWhole_78 (by decide) (fun cc1 => ?_) (fun cc1 => ?_)
    · replace hf := m_ifPF hf cc1
      refine lv_iconst (v := (0 : Int32)) hx hb dX8_copyWhole_86 (by decide) ?_
      exact w_X8_copyWhole_87 (x0 := x0) (t0 := (0 : Int32)) (t1 := x0) X hret hf hCT hM (lv_sub hl [1] rfl)
    · replace hf := m_ifPT hf cc1
      exact w_X8_copyWhole_81 (x0 := x0) (x4 := o5.1) (t0 := x0) X hret hf hCT hM (lv_sub hl [1, 0] rfl)
def g_X8_copyWhole_11s (Pw : Int32 → ZS → Prop) (self11 : Nat → Nat → Int32 → Int32 → ZS → Nat → Nat → Prop) (x0 : Nat) (x1 : Nat) (x3 : Int32) (x4 : Int32) (S : ZS) (C T : Nat) : Prop :=
  m_ifP (x3 ≤ x4) (
  g_X8_copyWhole_48 Pw x0 S (C) (T)
  ) (
  m_chkP (x0 ∈ zL S ∧ zK S x0 = 8) (
  m_calP (zP S 1 x0) (fun b1 =>
  m_chkP (b1 ∈ zL S ∧ zK S b1 = 6) (
  m_calP (f_X6_size b1 S) (fun o2 =>
  m_ifP ((7 : Int32) < o2.1) (
  g_X8_copyWhole_48 Pw x0 o2.2 (C) (T)
  ) (
  m_chkP (x0 ∈ zL o2.2 ∧ zK o2.2 x0 = 8) (
  m_calP (zP o2.2 1 x0) (fun b3 =>
  m_chkP (x1 ∈ zL o2.2 ∧ zK o2.2 x1 = 6) (
  m_calP (f_X6_at x1 x4 o2.2) (fun o4 =>
  m_chkP (b3 ∈ zL o4.2 ∧ zK o4.2 b3 = 6) (
  m_gal (C) (T) (fun mc ms Pw => g_X6_put b3 o4.1 o4.2 mc ms Pw) (fun r6 S7 C8 T9 =>
  m_bndP (x4 + (1 : Int32)) (fun v10 =>
  self11 x0 x1 x3 v10 S7 (C8) (T9))))))))
  )))))
  )

set_option maxRecDepth 100000 in
set_option maxHeartbeats 4000000 in
theorem ws_X8_copyWhole_11 {p : Program} {l : Launch} {e : Env} {s : State} {m : MethodId} {args : Array Value} {below : List Frame} {meth : Method} {c : Code} {Q : State → Prop} {D : va_G} {y : Nat → ClassId} {A0 : Nat → Prop} {kc kt : Nat} {Pw : Int32 → ZS → Prop} (X : CallFix p m c cX8_copyWhole 5 s args wsX8_copyWhole RX8) (hret : zQv p l e ({ frames := 2, cells := kc, slots := kt, locals := 82 } : Room) s m args below meth c Q cX8_copyWhole D y A0 Pw) {self11 : Nat → Nat → Int32 → Int32 → ZS → Nat → Nat → Prop} (hself11 : ∀ (x0 : Nat) (x1 : Nat) (x3 : Int32) (x4 : Int32) (S : ZS) (C T : Nat) (H : Heap) (locs : List Loc) (ls : Array Slot), self11 x0 x1 x3 x4 S C T → C ≤ kc ∧ T ≤ kt → zH D y A0 s H locs S → lv_has ls 5 [(0, .ref x0), (1, .ref x1), (3, .int x3), (4, .int x4)] → W p l e ({ frames := 2, cells := kc, slots := kt, locals := 82 } : Room) s m args below meth c H locs (kc - C) (kt - T) Q (F0 m 11 ls [])) {x0 : Nat} {x1 : Nat} {x3 : Int32} {x4 : Int32} {S : ZS} {C T : Nat} {H : Heap} {locs : List Loc} {ls : Array Slot} (hf : g_X8_copyWhole_11s Pw self11 x0 x1 x3 x4 S C T) (hCT : C ≤ kc ∧ T ≤ kt) (hM : zH D y A0 s H locs S) (hl : lv_has ls 5 [(0, .ref x0), (1, .ref x1), (3, .int x3), (4, .int x4)]) : W p l e ({ frames := 2, cells := kc, slots := kt, locals := 82 } : Room) s m args below meth c H locs (kc - C) (kt - T) Q (F0 m 11 ls []) := by
  obtain ⟨hx, hb, hml, hown, hts⟩ := id X
  unfold g_X8_copyWhole_11s at hf
  refine lv_iload hx hb dX8_copyWhole_11 (lv_at hl 3 rfl) ?_
  refine lv_iload_n hx hb dX8_copyWhole_13 rfl (lv_at hl 2 rfl) ?_
  refine lv_icmp_ge (tgt := 48) hx hb dX8_copyWhole_14 (by decide) (fun cc1 => ?_) (fun cc1 => ?_)
  · replace hf := m_ifPT hf cc1
    exact w_X8_copyWhole_48 (x0 := x0) X hret hf hCT hM (lv_sub hl [0] rfl)
  · replace hf := m_ifPF hf cc1
    refine lv_aload_n hx hb dX8_copyWhole_17 rfl (lv_at hl 0 rfl) ?_
    obtain ⟨ca, hf⟩ := m_chkPE hf
    refine z_get (k := 8) (j := 1) (C := RX8) (T := TX8) (N := 12) (fl := zf_8) (v := va_rf (zP S 1 x0)) X hw_X8_copyWhole_8 hM rfl zc_8 ca (by decide) fl_X8_copyWhole_8_1 rfl dX8_copyWhole_18 ?_
    clear ca
    obtain ⟨b1, hb9, hf⟩ := m_calPE hf
    refine z_topr hb9 ?_
    clear hb9
    obtain ⟨ca, hf⟩ := m_chkPE hf
    obtain ⟨o2, ho, hf⟩ := m_calPE hf
    refine z_gcallVi (k := 6) (C := RX6) (T := TX6) (N := 2) (fl := zf_6) X hM rfl zc_6 ca (c_X6_size ho) gX8_copyWhole_X6_size rfl ⟨rfl, rfl⟩ hd_X6_size ⟨Nat.le_of_ble_eq_true rfl, Nat.le_of_ble_eq_true rfl⟩ rfl hl.1 rfl ⟨Nat.sub_le _ _, Nat.sub_le _ _⟩ (Nat.le_of_ble_eq_true rfl) dX8_copyWhole_21 (fun H locs hM => ?_)
    clear ho
    refine lv_bipush (v := (7 : Int32)) hx hb dX8_copyWhole_24 (by decide) ?_
    refine lv_icmp_gt (tgt := 48) hx hb dX8_copyWhole_26 (by decide) (fun cc1 => ?_) (fun cc1 => ?_)
    · replace hf := m_ifPT hf cc1
      exact w_X8_copyWhole_48 (x0 := x0) X hret hf hCT hM (lv_sub hl [0] rfl)
    · replace hf := m_ifPF hf cc1
      refine lv_aload_n hx hb dX8_copyWhole_29 rfl (lv_at hl 0 rfl) ?_
      obtain ⟨ca, hf⟩ := m_chkPE hf
      refine z_get (k := 8) (j := 1) (C := RX8) (T := TX8) (N := 12) (fl := zf_8) (v := va_rf (zP o2.2 1 x0)) X hw_X8_copyWhole_8 hM rfl zc_8 ca (by decide) fl_X8_copyWhole_8_1 rfl dX8_copyWhole_30 ?_
      clear ca
      obtain ⟨b3, hb9, hf⟩ := m_calPE hf
      refine z_topr hb9 ?_
      clear hb9
      refine lv_aload_n hx hb dX8_copyWhole_33 rfl (lv_at hl 1 rfl) ?_
      refine lv_iload hx hb dX8_copyWhole_34 (lv_at hl 3 rfl) ?_
      obtain ⟨ca, hf⟩ := m_chkPE hf
      obtain ⟨o4, ho, hf⟩ := m_calPE hf
      refine z_gcallVi (k := 6) (C := RX6) (T := TX6) (N := 2) (fl := zf_6) X hM rfl zc_6 ca (c_X6_at ho) gX8_copyWhole_X6_at rfl ⟨rfl, rfl⟩ hd_X6_at ⟨Nat.le_of_ble_eq_true rfl, Nat.le_of_ble_eq_true rfl⟩ rfl hl.1 rfl ⟨Nat.sub_le _ _, Nat.sub_le _ _⟩ (Nat.le_of_ble_eq_true rfl) dX8_copyWhole_36 (fun H locs hM => ?_)
      clear ho
      obtain ⟨ca, hf⟩ := m_chkPE hf
      obtain ⟨mc, ms, hcm, ho⟩ := m_galE hf
      refine z_wcallVv (k := 6) (C := RX6) (T := TX6) (N := 2) (fl := zf_6) X hM rfl zc_6 ca (c_X6_put ho) gX8_copyWhole_X6_put rfl ⟨rfl, rfl⟩ ⟨by show kc - (C) + mc ≤ kc; omega, by show kt - (T) + ms ≤ kt; omega⟩ hd_X6_put ⟨Nat.le_of_ble_eq_true rfl, Nat.le_of_ble_eq_true rfl⟩ rfl hl.1 rfl (Nat.le_of_ble_eq_true rfl) dX8_copyWhole_39 (fun S7 H locs hf hM => ?_)
      refine z_eqCS (c2 := kc - (C - mc)) (t2 := kt - (T - ms)) (by omega) (by omega) ?_
      replace hCT : C - mc ≤ kc ∧ T - ms ≤ kt := by omega
      generalize C - mc = C8 at hf hCT ⊢
      generalize T - ms = T9 at hf hCT ⊢
      clear ho hcm
      obtain ⟨v10, ev, hf⟩ := m_bndPE hf
      refine lv_iinc (v := v10) (lv' := [(4, .int v10), (0, .ref x0), (1, .ref x1), (3, .int x3)]) hx hb dX8_copyWhole_42 hl (k := 3) rfl (by rw [ev]; rfl) (by decide) rfl (fun ls hl => ?_)
      clear ev
      refine lv_goto (tgt := 11) hx hb dX8_copyWhole_45 (by decide) ?_
      exact hself11 x0 x1 x3 v10 _ _ _ _ _ _ hf hCT hM (lv_sub hl [1, 2, 3, 0] rfl)
def g_X8_copyWhole_11 (Pw : Int32 → ZS → Prop) : Nat → Nat → Nat → Int32 → Int32 → ZS → Nat → Nat → Prop
  | 0 => fun _ _ _ _ _ _ _ => False
  | n + 1 => g_X8_copyWhole_11s Pw (g_X8_copyWhole_11 Pw n)
theorem w_X8_copyWhole_11 {p : Program} {l : Launch} {e : Env} {s : State} {m : MethodId} {args : Array Value} {below : List Frame} {meth : Method} {c : Code} {Q : State → Prop} {D : va_G} {y : Nat → ClassId} {A0 : Nat → Prop} {kc kt : Nat} {Pw : Int32 → ZS → Prop} (X : CallFix p m c cX8_copyWhole 5 s args wsX8_copyWhole RX8) (hret : zQv p l e ({ frames := 2, cells := kc, slots := kt, locals := 82 } : Room) s m args below meth c Q cX8_copyWhole D y A0 Pw) (n : Nat) : ∀ (x0 : Nat) (x1 : Nat) (x3 : Int32) (x4 : Int32) (S : ZS) (C T : Nat) (H : Heap) (locs : List Loc) (ls : Array Slot), g_X8_copyWhole_11 Pw n x0 x1 x3 x4 S C T → C ≤ kc ∧ T ≤ kt → zH D y A0 s H locs S → lv_has ls 5 [(0, .ref x0), (1, .ref x1), (3, .int x3), (4, .int x4)] → W p l e ({ frames := 2, cells := kc, slots := kt, locals := 82 } : Room) s m args below meth c H locs (kc - C) (kt - T) Q (F0 m 11 ls []) := by
  induction n with
  | zero => intro x0 x1 x3 x4 S C T H locs ls hf; exact absurd hf id
  | succ n ih => intro x0 x1 x3 x4 S C T H locs ls hf hCT hM hl; exact ws_X8_copyWhole_11 X hret (self11 := g_X8_copyWhole_11 Pw n) ih hf hCT hM hl
def g_X8_copyWhole_0 (Pw : Int32 → ZS → Prop) (x0 : Nat) (x1 : Nat) (x2 : Int32) (x3 : Int32) (S : ZS) (C T : Nat) : Prop :=
  m_chkP (x0 ∈ zL S ∧ zK S x0 = 8) (
  m_calP (zP S 1 x0) (fun b1 =>
  m_chkP (b1 ∈ zL S ∧ zK S b1 = 6) (
  m_calP (f_X6_keep b1 (0 : Int32) S) (fun o2 =>
  g_X8_copyWhole_11 Pw mFuel x0 x1 x3 x2 o2.2 (C) (T)))))

set_option maxRecDepth 100000 in
set_option maxHeartbeats 4000000 in
theorem w_X8_copyWhole_0 {p : Program} {l : Launch} {e : Env} {s : State} {m : MethodId} {args : Array Value} {below : List Frame} {meth : Method} {c : Code} {Q : State → Prop} {D : va_G} {y : Nat → ClassId} {A0 : Nat → Prop} {kc kt : Nat} {Pw : Int32 → ZS → Prop} (X : CallFix p m c cX8_copyWhole 5 s args wsX8_copyWhole RX8) (hret : zQv p l e ({ frames := 2, cells := kc, slots := kt, locals := 82 } : Room) s m args below meth c Q cX8_copyWhole D y A0 Pw) {x0 : Nat} {x1 : Nat} {x2 : Int32} {x3 : Int32} {S : ZS} {C T : Nat} {H : Heap} {locs : List Loc} {ls : Array Slot} (hf : g_X8_copyWhole_0 Pw x0 x1 x2 x3 S C T) (hCT : C ≤ kc ∧ T ≤ kt) (hM : zH D y A0 s H locs S) (hl : lv_has ls 5 [(0, .ref x0), (1, .ref x1), (2, .int x2), (3, .int x3)]) : W p l e ({ frames := 2, cells := kc, slots := kt, locals := 82 } : Room) s m args below meth c H locs (kc - C) (kt - T) Q (F0 m 0 ls []) := by
  obtain ⟨hx, hb, hml, hown, hts⟩ := id X
  unfold g_X8_copyWhole_0 at hf
  refine lv_aload_n hx hb dX8_copyWhole_0 rfl (lv_at hl 0 rfl) ?_
  obtain ⟨ca, hf⟩ := m_chkPE hf
  refine z_get (k := 8) (j := 1) (C := RX8) (T := TX8) (N := 12) (fl := zf_8) (v := va_rf (zP S 1 x0)) X hw_X8_copyWhole_8 hM rfl zc_8 ca (by decide) fl_X8_copyWhole_8_1 rfl dX8_copyWhole_1 ?_
  clear ca
  obtain ⟨b1, hb9, hf⟩ := m_calPE hf
  refine z_topr hb9 ?_
  clear hb9
  refine lv_iconst (v := (0 : Int32)) hx hb dX8_copyWhole_4 (by decide) ?_
  obtain ⟨ca, hf⟩ := m_chkPE hf
  obtain ⟨o2, ho, hf⟩ := m_calPE hf
  refine z_gcallVv (k := 6) (C := RX6) (T := TX6) (N := 2) (fl := zf_6) X hM rfl zc_6 ca (c_X6_keep ho) gX8_copyWhole_X6_keep rfl ⟨rfl, rfl⟩ hd_X6_keep ⟨Nat.le_of_ble_eq_true rfl, Nat.le_of_ble_eq_true rfl⟩ rfl hl.1 rfl ⟨Nat.sub_le _ _, Nat.sub_le _ _⟩ (Nat.le_of_ble_eq_true rfl) dX8_copyWhole_5 (fun H locs hM => ?_)
  clear ho
  refine lv_iload_n hx hb dX8_copyWhole_8 rfl (lv_at hl 2 rfl) ?_
  refine lv_istore (lv' := [(4, .int x2), (0, .ref x0), (1, .ref x1), (2, .int x2), (3, .int x3)]) hx hb dX8_copyWhole_9 hl (by decide) rfl (fun ls hl => ?_)
  exact w_X8_copyWhole_11 X hret _ x0 x1 x3 x2 _ _ _ _ _ _ hf hCT hM (lv_sub hl [1, 2, 4, 0] rfl)
def g_X8_copyWhole (x0 : Nat) (x1 : Nat) (x2 : Int32) (x3 : Int32) (S : ZS) (mc ms : Nat) (Pw : Int32 → ZS → Prop) : Prop := g_X8_copyWhole_0 Pw x0 x1 x2 x3 S mc ms
theorem c_X8_copyWhole {l : Launch} {D : va_G} {y : Nat → ClassId} {x0 : Nat} {x1 : Nat} {x2 : Int32} {x3 : Int32} {S : ZS} {kc kt : Nat} {Pw : Int32 → ZS → Prop} (hf : g_X8_copyWhole x0 x1 x2 x3 S kc kt Pw) : zWv l yX8_copyWhole wsX8_copyWhole ({ frames := 2, cells := kc, slots := kt, locals := 82 } : Room) [.ref x0, .ref x1, .int x2, .int x3] D y S kc kt Pw :=
  z_wentV (own := RX8) (cc := cX8_copyWhole) (maxL := 5) (by decide) rfl rfl (Nat.le_of_ble_eq_true rfl) ⟨rfl, rfl⟩ (fun p e s m args below meth c A0 Q H locs ls X hret hM hl => w_X8_copyWhole_0 X hret hf ⟨Nat.le_refl _, Nat.le_refl _⟩ hM (lv_sub hl [0, 1, 2, 3] rfl))
theorem hd_X8_copyWhole : yX8_copyWhole.cls = RX8 ∧ yX8_copyWhole.cls ≠ "java/lang/invoke/MethodHandle" ∧ yX8_copyWhole.cls ≠ "java/lang/invoke/VarHandle" ∧ (parseMethodDescriptor yX8_copyWhole.desc).map (fun d => d.parameters.length) = some 3 := by decide +kernel
theorem fl_X6_is_6_1 : Cond.fieldLink RX6 16 "MoveTexts$Row" "length" "I" ∈ wsX6_is := by decide +kernel
theorem hw_X6_is_6 : ∀ w ∈ wsX60, w ∈ wsX6_is := by decide +kernel
def f_X6_is_25 (t0 : Int32) (S : ZS) : Option (Int32 × ZS) :=
  m_chk (vp_nar .boolean t0 = t0) (some (t0, S))

set_option maxRecDepth 100000 in
set_option maxHeartbeats 4000000 in
theorem w_X6_is_25 {p : Program} {l : Launch} {e : Env} {s : State} {m : MethodId} {args : Array Value} {below : List Frame} {meth : Method} {c : Code} {Q : State → Prop} {D : va_G} {y : Nat → ClassId} {A0 : Nat → Prop} {o : Int32 × ZS} (X : CallFix p m c cX6_is 2 s args wsX6_is RX6) (hret : zRi p l e ({ frames := 5, cells := 0, slots := 0, locals := 108 } : Room) s m args below meth c Q cX6_is D y A0 .boolean o) {t0 : Int32} {S : ZS} {H : Heap} {locs : List Loc} {ls : Array Slot} (hf : f_X6_is_25 t0 S = some o) (hM : zH D y A0 s H locs S) (hl : lv_has ls 2 []) : W p l e ({ frames := 5, cells := 0, slots := 0, locals := 108 } : Room) s m args below meth c H locs 0 0 Q (F0 m 25 ls [.int t0]) := by
  obtain ⟨hx, hb, hml, hown, hts⟩ := id X
  unfold f_X6_is_25 at hf
  obtain ⟨cd, hf⟩ := m_chkE hf
  cases hf
  exact hret H locs _ ls hM (m_nb cd) dX6_is_25
def f_X6_is_24 (S : ZS) : Option (Int32 × ZS) :=
  f_X6_is_25 (0 : Int32) S

set_option maxRecDepth 100000 in
set_option maxHeartbeats 4000000 in
theorem w_X6_is_24 {p : Program} {l : Launch} {e : Env} {s : State} {m : MethodId} {args : Array Value} {below : List Frame} {meth : Method} {c : Code} {Q : State → Prop} {D : va_G} {y : Nat → ClassId} {A0 : Nat → Prop} {o : Int32 × ZS} (X : CallFix p m c cX6_is 2 s args wsX6_is RX6) (hret : zRi p l e ({ frames := 5, cells := 0, slots := 0, locals := 108 } : Room) s m args below meth c Q cX6_is D y A0 .boolean o) {S : ZS} {H : Heap} {locs : List Loc} {ls : Array Slot} (hf : f_X6_is_24  S = some o) (hM : zH D y A0 s H locs S) (hl : lv_has ls 2 []) : W p l e ({ frames := 5, cells := 0, slots := 0, locals := 108 } : Room) s m args below meth c H locs 0 0 Q (F0 m 24 ls []) := by
  obtain ⟨hx, hb, hml, hown, hts⟩ := id X
  unfold f_X6_is_24 at hf
  refine lv_iconst (v := (0 : Int32)) hx hb dX6_is_24 (by decide) ?_
  exact w_X6_is_25 (t0 := (0 : Int32)) X hret hf hM (lv_sub hl [] rfl)
def f_X6_is_0 (x0 : Nat) (x1 : Nat) (S : ZS) : Option (Int32 × ZS) :=
  m_chk (x0 ∈ zL S ∧ zK S x0 = 6) (
  m_chk (x1 < zSn) (
  m_cal (f_J0_length_8abf5 x1 S) (fun o1 =>
  m_if ((zI S 1 x0) = o1.1) (
  m_chk (x0 ∈ zL o1.2 ∧ zK o1.2 x0 = 6) (
  m_cal (f_X6_holds x0 x1 (0 : Int32) o1.2) (fun o2 =>
  m_if (o2.1 = 0) (
  f_X6_is_24  o2.2
  ) (
  f_X6_is_25 (1 : Int32) o2.2
  )))
  ) (
  f_X6_is_24  o1.2
  ))))

set_option maxRecDepth 100000 in
set_option maxHeartbeats 4000000 in
theorem w_X6_is_0 {p : Program} {l : Launch} {e : Env} {s : State} {m : MethodId} {args : Array Value} {below : List Frame} {meth : Method} {c : Code} {Q : State → Prop} {D : va_G} {y : Nat → ClassId} {A0 : Nat → Prop} {o : Int32 × ZS} (X : CallFix p m c cX6_is 2 s args wsX6_is RX6) (hret : zRi p l e ({ frames := 5, cells := 0, slots := 0, locals := 108 } : Room) s m args below meth c Q cX6_is D y A0 .boolean o) {x0 : Nat} {x1 : Nat} {S : ZS} {H : Heap} {locs : List Loc} {ls : Array Slot} (hf : f_X6_is_0 x0 x1 S = some o) (hM : zH D y A0 s H locs S) (hl : lv_has ls 2 [(0, .ref x0), (1, .ref (y (100 + x1)))]) : W p l e ({ frames := 5, cells := 0, slots := 0, locals := 108 } : Room) s m args below meth c H locs 0 0 Q (F0 m 0 ls []) := by
  obtain ⟨hx, hb, hml, hown, hts⟩ := id X
  unfold f_X6_is_0 at hf
  refine lv_aload_n hx hb dX6_is_0 rfl (lv_at hl 0 rfl) ?_
  obtain ⟨ca, hf⟩ := m_chkE hf
  refine z_get (k := 6) (j := 1) (C := RX6) (T := TX6) (N := 2) (fl := zf_6) (v := .int (zI S 1 x0)) X hw_X6_is_6 hM rfl zc_6 ca (by decide) fl_X6_is_6_1 rfl dX6_is_1 ?_
  clear ca
  refine lv_aload_n hx hb dX6_is_4 rfl (lv_at hl 1 rfl) ?_
  obtain ⟨ca, hf⟩ := m_chkE hf
  obtain ⟨o1, ho, hf⟩ := m_calE hf
  refine z_callTi X hM ca (c_J0_length_8abf5 ho) gX6_is_J0_length_8abf5 rfl ⟨rfl, rfl⟩ hd_J0_length_8abf5 ⟨Nat.le_of_ble_eq_true rfl, Nat.le_of_ble_eq_true rfl⟩ rfl hl.1 rfl (Nat.le_of_ble_eq_true rfl) dX6_is_5 (fun H locs hM => ?_)
  clear ho
  refine lv_icmp_ne (tgt := 24) hx hb dX6_is_8 (by decide) (fun cc1 => ?_) (fun cc1 => ?_)
  · replace hf := m_ifF hf cc1
    exact w_X6_is_24 X hret hf hM (lv_sub hl [] rfl)
  · replace hf := m_ifT hf cc1
    refine lv_aload_n hx hb dX6_is_11 rfl (lv_at hl 0 rfl) ?_
    refine lv_aload_n hx hb dX6_is_12 rfl (lv_at hl 1 rfl) ?_
    refine lv_iconst (v := (0 : Int32)) hx hb dX6_is_13 (by decide) ?_
    obtain ⟨ca, hf⟩ := m_chkE hf
    obtain ⟨o2, ho, hf⟩ := m_calE hf
    refine z_callVi (k := 6) (C := RX6) (T := TX6) (N := 2) (fl := zf_6) X hM rfl zc_6 ca (c_X6_holds ho) gX6_is_X6_holds rfl ⟨rfl, rfl⟩ hd_X6_holds ⟨Nat.le_of_ble_eq_true rfl, Nat.le_of_ble_eq_true rfl⟩ rfl hl.1 rfl (Nat.le_of_ble_eq_true rfl) dX6_is_14 (fun H locs hM => ?_)
    clear ho
    refine lv_if_eq (tgt := 24) hx hb dX6_is_17 (by decide) (fun cc1 => ?_) (fun cc1 => ?_)
    · replace hf := m_ifT hf cc1
      exact w_X6_is_24 X hret hf hM (lv_sub hl [] rfl)
    · replace hf := m_ifF hf cc1
      refine lv_iconst (v := (1 : Int32)) hx hb dX6_is_20 (by decide) ?_
      refine lv_goto (tgt := 25) hx hb dX6_is_21 (by decide) ?_
      exact w_X6_is_25 (t0 := (1 : Int32)) X hret hf hM (lv_sub hl [] rfl)
def f_X6_is (x0 : Nat) (x1 : Nat) (S : ZS) : Option (Int32 × ZS) := f_X6_is_0 x0 x1 S
theorem c_X6_is {l : Launch} {D : va_G} {y : Nat → ClassId} {x0 : Nat} {x1 : Nat} {S : ZS} {o : Int32 × ZS} (hf : f_X6_is x0 x1 S = some o) : zMi l yX6_is wsX6_is ({ frames := 5, cells := 0, slots := 0, locals := 108 } : Room) [.ref x0, .ref (y (100 + x1))] D y S o :=
  z_entryI (own := RX6) (cc := cX6_is) (maxL := 2) (by decide) rfl rfl (Nat.le_of_ble_eq_true rfl) (fun p e s m args below meth c A0 Q H locs ls X hret hM hl => w_X6_is_0 X hret hf hM (lv_sub hl [0, 1] rfl))
theorem hd_X6_is : yX6_is.cls = RX6 ∧ yX6_is.cls ≠ "java/lang/invoke/MethodHandle" ∧ yX6_is.cls ≠ "java/lang/invoke/VarHandle" ∧ (parseMethodDescriptor yX6_is.desc).map (fun d => d.parameters.length) = some 1 := by decide +kernel
def f_J1_canEncode_9a6ad_16 (t0 : Int32) (S : ZS) : Option (Int32 × ZS) :=
  m_chk (vp_nar .boolean t0 = t0) (some (t0, S))

set_option maxRecDepth 100000 in
set_option maxHeartbeats 4000000 in
theorem w_J1_canEncode_9a6ad_16 {p : Program} {l : Launch} {e : Env} {s : State} {m : MethodId} {args : Array Value} {below : List Frame} {meth : Method} {c : Code} {Q : State → Prop} {D : va_G} {y : Nat → ClassId} {A0 : Nat → Prop} {o : Int32 × ZS} (X : CallFix p m c cJ1_canEncode_9a6ad 1 s args wsJ1_canEncode_9a6ad RJ1) (hret : zRi p l e ({ frames := 0, cells := 0, slots := 0, locals := 0 } : Room) s m args below meth c Q cJ1_canEncode_9a6ad D y A0 .boolean o) {t0 : Int32} {S : ZS} {H : Heap} {locs : List Loc} {ls : Array Slot} (hf : f_J1_canEncode_9a6ad_16 t0 S = some o) (hM : zH D y A0 s H locs S) (hl : lv_has ls 1 []) : W p l e ({ frames := 0, cells := 0, slots := 0, locals := 0 } : Room) s m args below meth c H locs 0 0 Q (F0 m 16 ls [.int t0]) := by
  obtain ⟨hx, hb, hml, hown, hts⟩ := id X
  unfold f_J1_canEncode_9a6ad_16 at hf
  obtain ⟨cd, hf⟩ := m_chkE hf
  cases hf
  exact hret H locs _ ls hM (m_nb cd) dJ1_canEncode_9a6ad_16
def f_J1_canEncode_9a6ad_15 (S : ZS) : Option (Int32 × ZS) :=
  f_J1_canEncode_9a6ad_16 (0 : Int32) S

set_option maxRecDepth 100000 in
set_option maxHeartbeats 4000000 in
theorem w_J1_canEncode_9a6ad_15 {p : Program} {l : Launch} {e : Env} {s : State} {m : MethodId} {args : Array Value} {below : List Frame} {meth : Method} {c : Code} {Q : State → Prop} {D : va_G} {y : Nat → ClassId} {A0 : Nat → Prop} {o : Int32 × ZS} (X : CallFix p m c cJ1_canEncode_9a6ad 1 s args wsJ1_canEncode_9a6ad RJ1) (hret : zRi p l e ({ frames := 0, cells := 0, slots := 0, locals := 0 } : Room) s m args below meth c Q cJ1_canEncode_9a6ad D y A0 .boolean o) {S : ZS} {H : Heap} {locs : List Loc} {ls : Array Slot} (hf : f_J1_canEncode_9a6ad_15  S = some o) (hM : zH D y A0 s H locs S) (hl : lv_has ls 1 []) : W p l e ({ frames := 0, cells := 0, slots := 0, locals := 0 } : Room) s m args below meth c H locs 0 0 Q (F0 m 15 ls []) := by
  obtain ⟨hx, hb, hml, hown, hts⟩ := id X
  unfold f_J1_canEncode_9a6ad_15 at hf
  refine lv_iconst (v := (0 : Int32)) hx hb dJ1_canEncode_9a6ad_15 (by decide) ?_
  exact w_J1_canEncode_9a6ad_16 (t0 := (0 : Int32)) X hret hf hM (lv_sub hl [] rfl)
def f_J1_canEncode_9a6ad_0 (x0 : Int32) (S : ZS) : Option (Int32 × ZS) :=
  m_if (x0 < 0) (
  f_J1_canEncode_9a6ad_15  S
  ) (
  m_if ((255 : Int32) < x0) (
  f_J1_canEncode_9a6ad_15  S
  ) (
  f_J1_canEncode_9a6ad_16 (1 : Int32) S
  )
  )

set_option maxRecDepth 100000 in
set_option maxHeartbeats 4000000 in
theorem w_J1_canEncode_9a6ad_0 {p : Program} {l : Launch} {e : Env} {s : State} {m : MethodId} {args : Array Value} {below : List Frame} {meth : Method} {c : Code} {Q : State → Prop} {D : va_G} {y : Nat → ClassId} {A0 : Nat → Prop} {o : Int32 × ZS} (X : CallFix p m c cJ1_canEncode_9a6ad 1 s args wsJ1_canEncode_9a6ad RJ1) (hret : zRi p l e ({ frames := 0, cells := 0, slots := 0, locals := 0 } : Room) s m args below meth c Q cJ1_canEncode_9a6ad D y A0 .boolean o) {x0 : Int32} {S : ZS} {H : Heap} {locs : List Loc} {ls : Array Slot} (hf : f_J1_canEncode_9a6ad_0 x0 S = some o) (hM : zH D y A0 s H locs S) (hl : lv_has ls 1 [(0, .int x0)]) : W p l e ({ frames := 0, cells := 0, slots := 0, locals := 0 } : Room) s m args below meth c H locs 0 0 Q (F0 m 0 ls []) := by
  obtain ⟨hx, hb, hml, hown, hts⟩ := id X
  unfold f_J1_canEncode_9a6ad_0 at hf
  refine lv_iload_n hx hb dJ1_canEncode_9a6ad_0 rfl (lv_at hl 0 rfl) ?_
  refine lv_if_lt (tgt := 15) hx hb dJ1_canEncode_9a6ad_1 (by decide) (fun cc1 => ?_) (fun cc1 => ?_)
  · replace hf := m_ifT hf cc1
    exact w_J1_canEncode_9a6ad_15 X hret hf hM (lv_sub hl [] rfl)
  · replace hf := m_ifF hf cc1
    refine lv_iload_n hx hb dJ1_canEncode_9a6ad_4 rfl (lv_at hl 0 rfl) ?_
    refine lv_sipush (v := (255 : Int32)) hx hb dJ1_canEncode_9a6ad_5 (by decide) ?_
    refine lv_icmp_gt (tgt := 15) hx hb dJ1_canEncode_9a6ad_8 (by decide) (fun cc1 => ?_) (fun cc1 => ?_)
    · replace hf := m_ifT hf cc1
      exact w_J1_canEncode_9a6ad_15 X hret hf hM (lv_sub hl [] rfl)
    · replace hf := m_ifF hf cc1
      refine lv_iconst (v := (1 : Int32)) hx hb dJ1_canEncode_9a6ad_11 (by decide) ?_
      refine lv_goto (tgt := 16) hx hb dJ1_canEncode_9a6ad_12 (by decide) ?_
      exact w_J1_canEncode_9a6ad_16 (t0 := (1 : Int32)) X hret hf hM (lv_sub hl [] rfl)
def f_J1_canEncode_9a6ad (x0 : Int32) (S : ZS) : Option (Int32 × ZS) := f_J1_canEncode_9a6ad_0 x0 S
theorem c_J1_canEncode_9a6ad {l : Launch} {D : va_G} {y : Nat → ClassId} {x0 : Int32} {S : ZS} {o : Int32 × ZS} (hf : f_J1_canEncode_9a6ad x0 S = some o) : zMi l yJ1_canEncode_9a6ad wsJ1_canEncode_9a6ad ({ frames := 0, cells := 0, slots := 0, locals := 0 } : Room) [.int x0] D y S o :=
  z_entryI (own := RJ1) (cc := cJ1_canEncode_9a6ad) (maxL := 1) (by decide) rfl rfl (Nat.le_of_ble_eq_true rfl) (fun p e s m args below meth c A0 Q H locs ls X hret hM hl => w_J1_canEncode_9a6ad_0 X hret hf hM (lv_sub hl [0] rfl))
theorem hd_J1_canEncode_9a6ad : yJ1_canEncode_9a6ad.cls ≠ "java/lang/invoke/MethodHandle" ∧ yJ1_canEncode_9a6ad.cls ≠ "java/lang/invoke/VarHandle" ∧ (parseMethodDescriptor yJ1_canEncode_9a6ad.desc).map (fun d => d.parameters.length) = some 1 := by decide +kernel
def f_J1_indexOfChar_4cfef_7s (self7 : Nat → Int32 → Int32 → Int32 → ZS → Option (Int32 × ZS)) (x0 : Nat) (x3 : Int32) (x4 : Int32) (x5 : Int32) (S : ZS) : Option (Int32 × ZS) :=
  m_if (x3 ≤ x5) (
  some ((-1 : Int32), S)
  ) (
  m_chk (x0 < zSn) (
  m_chk (¬ (x5 < 0 ∨ zSl.getD x0 0 ≤ (x5).toNatClampNeg)) (
  m_bnd ((zSb.getD x0 []).getD (x5).toNatClampNeg 0) (fun v1 =>
  m_if (v1 = x4) (
  some (x5, S)
  ) (
  m_bnd (x5 + (1 : Int32)) (fun v2 =>
  self7 x0 x3 x4 v2 S)
  ))))
  )

set_option maxRecDepth 100000 in
set_option maxHeartbeats 4000000 in
theorem ws_J1_indexOfChar_4cfef_7 {p : Program} {l : Launch} {e : Env} {s : State} {m : MethodId} {args : Array Value} {below : List Frame} {meth : Method} {c : Code} {Q : State → Prop} {D : va_G} {y : Nat → ClassId} {A0 : Nat → Prop} {o : Int32 × ZS} (X : CallFix p m c cJ1_indexOfChar_4cfef 6 s args wsJ1_indexOfChar_4cfef RJ1) (hret : zRi p l e ({ frames := 0, cells := 0, slots := 0, locals := 0 } : Room) s m args below meth c Q cJ1_indexOfChar_4cfef D y A0 .int o) {self7 : Nat → Int32 → Int32 → Int32 → ZS → Option (Int32 × ZS)} (hself7 : ∀ (x0 : Nat) (x3 : Int32) (x4 : Int32) (x5 : Int32) (S : ZS) (H : Heap) (locs : List Loc) (ls : Array Slot), self7 x0 x3 x4 x5 S = some o → zH D y A0 s H locs S → lv_has ls 6 [(0, .ref (y (200 + x0))), (3, .int x3), (4, .int x4), (5, .int x5)] → W p l e ({ frames := 0, cells := 0, slots := 0, locals := 0 } : Room) s m args below meth c H locs 0 0 Q (F0 m 7 ls [])) {x0 : Nat} {x3 : Int32} {x4 : Int32} {x5 : Int32} {S : ZS} {H : Heap} {locs : List Loc} {ls : Array Slot} (hf : f_J1_indexOfChar_4cfef_7s self7 x0 x3 x4 x5 S = some o) (hM : zH D y A0 s H locs S) (hl : lv_has ls 6 [(0, .ref (y (200 + x0))), (3, .int x3), (4, .int x4), (5, .int x5)]) : W p l e ({ frames := 0, cells := 0, slots := 0, locals := 0 } : Room) s m args below meth c H locs 0 0 Q (F0 m 7 ls []) := by
  obtain ⟨hx, hb, hml, hown, hts⟩ := id X
  unfold f_J1_indexOfChar_4cfef_7s at hf
  refine lv_iload hx hb dJ1_indexOfChar_4cfef_7 (lv_at hl 3 rfl) ?_
  refine lv_iload_n hx hb dJ1_indexOfChar_4cfef_9 rfl (lv_at hl 1 rfl) ?_
  refine lv_icmp_ge (tgt := 31) hx hb dJ1_indexOfChar_4cfef_10 (by decide) (fun cc1 => ?_) (fun cc1 => ?_)
  · replace hf := m_ifT hf cc1
    refine lv_iconst (v := (-1 : Int32)) hx hb dJ1_indexOfChar_4cfef_31 (by decide) ?_
    cases hf
    exact hret H locs _ ls hM rfl dJ1_indexOfChar_4cfef_32
  · replace hf := m_ifF hf cc1
    refine lv_aload_n hx hb dJ1_indexOfChar_4cfef_13 rfl (lv_at hl 0 rfl) ?_
    refine lv_iload hx hb dJ1_indexOfChar_4cfef_14 (lv_at hl 3 rfl) ?_
    obtain ⟨ca, hf⟩ := m_chkE hf
    obtain ⟨cd, hf⟩ := m_chkE hf
    refine z_sbyt X hM ca cd dJ1_indexOfChar_4cfef_16 ?_
    clear ca cd
    obtain ⟨v1, ev, hf⟩ := m_bndE hf
    refine m_top ev ?_
    clear ev
    refine lv_iload hx hb dJ1_indexOfChar_4cfef_17 (lv_at hl 2 rfl) ?_
    refine lv_icmp_ne (tgt := 25) hx hb dJ1_indexOfChar_4cfef_19 (by decide) (fun cc1 => ?_) (fun cc1 => ?_)
    · replace hf := m_ifF hf cc1
      obtain ⟨v2, ev, hf⟩ := m_bndE hf
      refine lv_iinc (v := v2) (lv' := [(5, .int v2), (0, .ref (y (200 + x0))), (3, .int x3), (4, .int x4)]) hx hb dJ1_indexOfChar_4cfef_25 hl (k := 3) rfl (by rw [ev]; rfl) (by decide) rfl (fun ls hl => ?_)
      clear ev
      refine lv_goto (tgt := 7) hx hb dJ1_indexOfChar_4cfef_28 (by decide) ?_
      exact hself7 x0 x3 x4 v2 _ _ _ _ hf hM (lv_sub hl [1, 2, 3, 0] rfl)
    · replace hf := m_ifT hf cc1
      refine lv_iload hx hb dJ1_indexOfChar_4cfef_22 (lv_at hl 3 rfl) ?_
      cases hf
      exact hret H locs _ ls hM rfl dJ1_indexOfChar_4cfef_24
def f_J1_indexOfChar_4cfef_7 : Nat → Nat → Int32 → Int32 → Int32 → ZS → Option (Int32 × ZS)
  | 0 => fun _ _ _ _ _ => none
  | n + 1 => f_J1_indexOfChar_4cfef_7s (f_J1_indexOfChar_4cfef_7 n)
theorem w_J1_indexOfChar_4cfef_7 {p : Program} {l : Launch} {e : Env} {s : State} {m : MethodId} {args : Array Value} {below : List Frame} {meth : Method} {c : Code} {Q : State → Prop} {D : va_G} {y : Nat → ClassId} {A0 : Nat → Prop} {o : Int32 × ZS} (X : CallFix p m c cJ1_indexOfChar_4cfef 6 s args wsJ1_indexOfChar_4cfef RJ1) (hret : zRi p l e ({ frames := 0, cells := 0, slots := 0, locals := 0 } : Room) s m args below meth c Q cJ1_indexOfChar_4cfef D y A0 .int o) (n : Nat) : ∀ (x0 : Nat) (x3 : Int32) (x4 : Int32) (x5 : Int32) (S : ZS) (H : Heap) (locs : List Loc) (ls : Array Slot), f_J1_indexOfChar_4cfef_7 n x0 x3 x4 x5 S = some o → zH D y A0 s H locs S → lv_has ls 6 [(0, .ref (y (200 + x0))), (3, .int x3), (4, .int x4), (5, .int x5)] → W p l e ({ frames := 0, cells := 0, slots := 0, locals := 0 } : Room) s m args below meth c H locs 0 0 Q (F0 m 7 ls []) := by
  induction n with
  | zero => intro x0 x3 x4 x5 S H locs ls hf; cases hf
  | succ n ih => intro x0 x3 x4 x5 S H locs ls hf hM hl; exact ws_J1_indexOfChar_4cfef_7 X hret (self7 := f_J1_indexOfChar_4cfef_7 n) ih hf hM hl
def f_J1_indexOfChar_4cfef_0 (x0 : Nat) (x1 : Int32) (x2 : Int32) (x3 : Int32) (S : ZS) : Option (Int32 × ZS) :=
  m_bnd ((x1).toInt8.toInt32) (fun v1 =>
  f_J1_indexOfChar_4cfef_7 mFuel x0 x3 v1 x2 S)

set_option maxRecDepth 100000 in
set_option maxHeartbeats 4000000 in
theorem w_J1_indexOfChar_4cfef_0 {p : Program} {l : Launch} {e : Env} {s : State} {m : MethodId} {args : Array Value} {below : List Frame} {meth : Method} {c : Code} {Q : State → Prop} {D : va_G} {y : Nat → ClassId} {A0 : Nat → Prop} {o : Int32 × ZS} (X : CallFix p m c cJ1_indexOfChar_4cfef 6 s args wsJ1_indexOfChar_4cfef RJ1) (hret : zRi p l e ({ frames := 0, cells := 0, slots := 0, locals := 0 } : Room) s m args below meth c Q cJ1_indexOfChar_4cfef D y A0 .int o) {x0 : Nat} {x1 : Int32} {x2 : Int32} {x3 : Int32} {S : ZS} {H : Heap} {locs : List Loc} {ls : Array Slot} (hf : f_J1_indexOfChar_4cfef_0 x0 x1 x2 x3 S = some o) (hM : zH D y A0 s H locs S) (hl : lv_has ls 6 [(0, .ref (y (200 + x0))), (1, .int x1), (2, .int x2), (3, .int x3)]) : W p l e ({ frames := 0, cells := 0, slots := 0, locals := 0 } : Room) s m args below meth c H locs 0 0 Q (F0 m 0 ls []) := by
  obtain ⟨hx, hb, hml, hown, hts⟩ := id X
  unfold f_J1_indexOfChar_4cfef_0 at hf
  refine lv_iload_n hx hb dJ1_indexOfChar_4cfef_0 rfl (lv_at hl 1 rfl) ?_
  refine lv_i2b (v := (x1).toInt8.toInt32) hx hb dJ1_indexOfChar_4cfef_1 rfl ?_
  obtain ⟨v1, ev, hf⟩ := m_bndE hf
  refine m_top ev ?_
  clear ev
  refine lv_istore (lv' := [(4, .int v1), (0, .ref (y (200 + x0))), (1, .int x1), (2, .int x2), (3, .int x3)]) hx hb dJ1_indexOfChar_4cfef_2 hl (by decide) rfl (fun ls hl => ?_)
  refine lv_iload_n hx hb dJ1_indexOfChar_4cfef_4 rfl (lv_at hl 3 rfl) ?_
  refine lv_istore (lv' := [(5, .int x2), (4, .int v1), (0, .ref (y (200 + x0))), (1, .int x1), (2, .int x2), (3, .int x3)]) hx hb dJ1_indexOfChar_4cfef_5 hl (by decide) rfl (fun ls hl => ?_)
  exact w_J1_indexOfChar_4cfef_7 X hret _ x0 x3 v1 x2 _ _ _ _ hf hM (lv_sub hl [2, 5, 1, 0] rfl)
def f_J1_indexOfChar_4cfef (x0 : Nat) (x1 : Int32) (x2 : Int32) (x3 : Int32) (S : ZS) : Option (Int32 × ZS) := f_J1_indexOfChar_4cfef_0 x0 x1 x2 x3 S
theorem c_J1_indexOfChar_4cfef {l : Launch} {D : va_G} {y : Nat → ClassId} {x0 : Nat} {x1 : Int32} {x2 : Int32} {x3 : Int32} {S : ZS} {o : Int32 × ZS} (hf : f_J1_indexOfChar_4cfef x0 x1 x2 x3 S = some o) : zMi l yJ1_indexOfChar_4cfef wsJ1_indexOfChar_4cfef ({ frames := 0, cells := 0, slots := 0, locals := 0 } : Room) [.ref (y (200 + x0)), .int x1, .int x2, .int x3] D y S o :=
  z_entryI (own := RJ1) (cc := cJ1_indexOfChar_4cfef) (maxL := 6) (by decide) rfl rfl (Nat.le_of_ble_eq_true rfl) (fun p e s m args below meth c A0 Q H locs ls X hret hM hl => w_J1_indexOfChar_4cfef_0 X hret hf hM (lv_sub hl [0, 1, 2, 3] rfl))
theorem hd_J1_indexOfChar_4cfef : yJ1_indexOfChar_4cfef.cls ≠ "java/lang/invoke/MethodHandle" ∧ yJ1_indexOfChar_4cfef.cls ≠ "java/lang/invoke/VarHandle" ∧ (parseMethodDescriptor yJ1_indexOfChar_4cfef.desc).map (fun d => d.parameters.length) = some 4 := by decide +kernel
theorem lm_J1_indexOf_4cfef_max : (Cond.methodLink RJ1 92 Lib.Math.max.name ∈ wsJ1_indexOf_4cfef ∧ Cond.static Lib.Math.max.name ∈ wsJ1_indexOf_4cfef) ∧ Cond.initialized "java/lang/Math" ∈ wsJ1_indexOf_4cfef ∧ Cond.code Lib.Math.max.name Lib.Math.max.code 2 (some .int) ∈ wsJ1_indexOf_4cfef := by decide +kernel
theorem lm_J1_indexOf_4cfef_min : (Cond.methodLink RJ1 38 Lib.Math.min.name ∈ wsJ1_indexOf_4cfef ∧ Cond.static Lib.Math.min.name ∈ wsJ1_indexOf_4cfef) ∧ Cond.initialized "java/lang/Math" ∈ wsJ1_indexOf_4cfef ∧ Cond.code Lib.Math.min.name Lib.Math.min.code 2 (some .int) ∈ wsJ1_indexOf_4cfef := by decide +kernel
def f_J1_indexOf_4cfef_0 (x0 : Nat) (x1 : Int32) (x2 : Int32) (x3 : Int32) (S : ZS) : Option (Int32 × ZS) :=
  m_cal (f_J1_canEncode_9a6ad x1 S) (fun o1 =>
  m_if (o1.1 = 0) (
  some ((-1 : Int32), o1.2)
  ) (
  m_bnd (if x2 < (0 : Int32) then (0 : Int32) else x2) (fun v2 =>
  m_chk (x0 < zSn) (
  m_bnd (Int32.ofNat (zSl.getD x0 0)) (fun v3 =>
  m_bnd (if v3 < x3 then v3 else x3) (fun v4 =>
  m_if (v2 < v4) (
  m_cal (f_J1_indexOfChar_4cfef x0 x1 v2 v4 o1.2) (fun o5 =>
  some (o5.1, o5.2))
  ) (
  some ((-1 : Int32), o1.2)
  )))))
  ))

set_option maxRecDepth 100000 in
set_option maxHeartbeats 4000000 in
theorem w_J1_indexOf_4cfef_0 {p : Program} {l : Launch} {e : Env} {s : State} {m : MethodId} {args : Array Value} {below : List Frame} {meth : Method} {c : Code} {Q : State → Prop} {D : va_G} {y : Nat → ClassId} {A0 : Nat → Prop} {o : Int32 × ZS} (X : CallFix p m c cJ1_indexOf_4cfef 4 s args wsJ1_indexOf_4cfef RJ1) (hret : zRi p l e ({ frames := 1, cells := 0, slots := 0, locals := 25 } : Room) s m args below meth c Q cJ1_indexOf_4cfef D y A0 .int o) {x0 : Nat} {x1 : Int32} {x2 : Int32} {x3 : Int32} {S : ZS} {H : Heap} {locs : List Loc} {ls : Array Slot} (hf : f_J1_indexOf_4cfef_0 x0 x1 x2 x3 S = some o) (hM : zH D y A0 s H locs S) (hl : lv_has ls 4 [(0, .ref (y (200 + x0))), (1, .int x1), (2, .int x2), (3, .int x3)]) : W p l e ({ frames := 1, cells := 0, slots := 0, locals := 25 } : Room) s m args below meth c H locs 0 0 Q (F0 m 0 ls []) := by
  obtain ⟨hx, hb, hml, hown, hts⟩ := id X
  unfold f_J1_indexOf_4cfef_0 at hf
  refine lv_iload_n hx hb dJ1_indexOf_4cfef_0 rfl (lv_at hl 1 rfl) ?_
  obtain ⟨o1, ho, hf⟩ := m_calE hf
  refine z_callSi X hM (c_J1_canEncode_9a6ad ho) gJ1_indexOf_4cfef_J1_canEncode_9a6ad rfl ⟨rfl, rfl⟩ hd_J1_canEncode_9a6ad ⟨Nat.le_of_ble_eq_true rfl, Nat.le_of_ble_eq_true rfl⟩ rfl hl.1 rfl (Nat.le_of_ble_eq_true rfl) dJ1_indexOf_4cfef_1 (fun H locs hM => ?_)
  clear ho
  refine lv_if_ne (tgt := 9) hx hb dJ1_indexOf_4cfef_4 (by decide) (fun cc1 => ?_) (fun cc1 => ?_)
  · replace hf := m_ifF hf cc1
    refine lv_iload_n hx hb dJ1_indexOf_4cfef_9 rfl (lv_at hl 2 rfl) ?_
    refine lv_iconst (v := (0 : Int32)) hx hb dJ1_indexOf_4cfef_10 (by decide) ?_
    refine z_mmax X (by rw [hml]; exact hl.1.symm) lm_J1_indexOf_4cfef_max.1 lm_J1_indexOf_4cfef_max.2 (Nat.le_of_ble_eq_true rfl) (Nat.le_of_ble_eq_true rfl) ⟨Nat.zero_le _, Nat.zero_le _⟩ dJ1_indexOf_4cfef_11 ?_
    obtain ⟨v2, ev, hf⟩ := m_bndE hf
    refine m_top ev ?_
    clear ev
    refine lv_istore_n (lv' := [(2, .int v2), (0, .ref (y (200 + x0))), (1, .int x1), (3, .int x3)]) hx hb dJ1_indexOf_4cfef_14 rfl hl (by decide) rfl (fun ls hl => ?_)
    refine lv_iload_n hx hb dJ1_indexOf_4cfef_15 rfl (lv_at hl 3 rfl) ?_
    refine lv_aload_n hx hb dJ1_indexOf_4cfef_16 rfl (lv_at hl 1 rfl) ?_
    obtain ⟨cd, hf⟩ := m_chkE hf
    refine z_slen X hM cd dJ1_indexOf_4cfef_17 ?_
    clear cd
    obtain ⟨v3, ev, hf⟩ := m_bndE hf
    refine m_top ev ?_
    clear ev
    refine z_mmin X (by rw [hml]; exact hl.1.symm) lm_J1_indexOf_4cfef_min.1 lm_J1_indexOf_4cfef_min.2 (Nat.le_of_ble_eq_true rfl) (Nat.le_of_ble_eq_true rfl) ⟨Nat.zero_le _, Nat.zero_le _⟩ dJ1_indexOf_4cfef_18 ?_
    obtain ⟨v4, ev, hf⟩ := m_bndE hf
    refine m_top ev ?_
    clear ev
    refine lv_istore_n (lv' := [(3, .int v4), (2, .int v2), (0, .ref (y (200 + x0))), (1, .int x1)]) hx hb dJ1_indexOf_4cfef_21 rfl hl (by decide) rfl (fun ls hl => ?_)
    refine lv_iload_n hx hb dJ1_indexOf_4cfef_22 rfl (lv_at hl 1 rfl) ?_
    refine lv_iload_n hx hb dJ1_indexOf_4cfef_23 rfl (lv_at hl 0 rfl) ?_
    refine lv_icmp_lt (tgt := 29) hx hb dJ1_indexOf_4cfef_24 (by decide) (fun cc1 => ?_) (fun cc1 => ?_)
    · replace hf := m_ifT hf cc1
      refine lv_aload_n hx hb dJ1_indexOf_4cfef_29 rfl (lv_at hl 2 rfl) ?_
      refine lv_iload_n hx hb dJ1_indexOf_4cfef_30 rfl (lv_at hl 3 rfl) ?_
      refine lv_iload_n hx hb dJ1_indexOf_4cfef_31 rfl (lv_at hl 1 rfl) ?_
      refine lv_iload_n hx hb dJ1_indexOf_4cfef_32 rfl (lv_at hl 0 rfl) ?_
      obtain ⟨o5, ho, hf⟩ := m_calE hf
      refine z_callSi X hM (c_J1_indexOfChar_4cfef ho) gJ1_indexOf_4cfef_J1_indexOfChar_4cfef rfl ⟨rfl, rfl⟩ hd_J1_indexOfChar_4cfef ⟨Nat.le_of_ble_eq_true rfl, Nat.le_of_ble_eq_true rfl⟩ rfl hl.1 rfl (Nat.le_of_ble_eq_true rfl) dJ1_indexOf_4cfef_33 (fun H locs hM => ?_)
      clear ho
      cases hf
      exact hret H locs _ ls hM rfl dJ1_indexOf_4cfef_36
    · replace hf := m_ifF hf cc1
      refine lv_iconst (v := (-1 : Int32)) hx hb dJ1_indexOf_4cfef_27 (by decide) ?_
      cases hf
      exact hret H locs _ ls hM rfl dJ1_indexOf_4cfef_28
  · replace hf := m_ifT hf cc1
    refine lv_iconst (v := (-1 : Int32)) hx hb dJ1_indexOf_4cfef_7 (by decide) ?_
    cases hf
    exact hret H locs _ ls hM rfl dJ1_indexOf_4cfef_8
def f_J1_indexOf_4cfef (x0 : Nat) (x1 : Int32) (x2 : Int32) (x3 : Int32) (S : ZS) : Option (Int32 × ZS) := f_J1_indexOf_4cfef_0 x0 x1 x2 x3 S
theorem c_J1_indexOf_4cfef {l : Launch} {D : va_G} {y : Nat → ClassId} {x0 : Nat} {x1 : Int32} {x2 : Int32} {x3 : Int32} {S : ZS} {o : Int32 × ZS} (hf : f_J1_indexOf_4cfef x0 x1 x2 x3 S = some o) : zMi l yJ1_indexOf_4cfef wsJ1_indexOf_4cfef ({ frames := 1, cells := 0, slots := 0, locals := 25 } : Room) [.ref (y (200 + x0)), .int x1, .int x2, .int x3] D y S o :=
  z_entryI (own := RJ1) (cc := cJ1_indexOf_4cfef) (maxL := 4) (by decide) rfl rfl (Nat.le_of_ble_eq_true rfl) (fun p e s m args below meth c A0 Q H locs ls X hret hM hl => w_J1_indexOf_4cfef_0 X hret hf hM (lv_sub hl [0, 1, 2, 3] rfl))
theorem hd_J1_indexOf_4cfef : yJ1_indexOf_4cfef.cls ≠ "java/lang/invoke/MethodHandle" ∧ yJ1_indexOf_4cfef.cls ≠ "java/lang/invoke/VarHandle" ∧ (parseMethodDescriptor yJ1_indexOf_4cfef.desc).map (fun d => d.parameters.length) = some 4 := by decide +kernel
theorem sl_J0_indexOf_7cf53_value : Cond.fieldLink RJ0 9 "java/lang/String" "value" "[B" ∈ wsJ0_indexOf_7cf53 := by decide +kernel
def f_J0_indexOf_7cf53_0 (x0 : Nat) (x1 : Int32) (x2 : Int32) (S : ZS) : Option (Int32 × ZS) :=
  m_chk (x0 < zSn) (
  m_cal (f_J0_isLatin1_aae02 x0 S) (fun o1 =>
  m_if (o1.1 = 0) (
  none
  ) (
  m_chk (x0 < zSn) (
  m_chk (x0 < zSn) (
  m_cal (f_J0_length_8abf5 x0 o1.2) (fun o2 =>
  m_cal (f_J1_indexOf_4cfef x0 x1 x2 o2.1 o2.2) (fun o3 =>
  some (o3.1, o3.2)))))
  )))

set_option maxRecDepth 100000 in
set_option maxHeartbeats 4000000 in
theorem w_J0_indexOf_7cf53_0 {p : Program} {l : Launch} {e : Env} {s : State} {m : MethodId} {args : Array Value} {below : List Frame} {meth : Method} {c : Code} {Q : State → Prop} {D : va_G} {y : Nat → ClassId} {A0 : Nat → Prop} {o : Int32 × ZS} (X : CallFix p m c cJ0_indexOf_7cf53 3 s args wsJ0_indexOf_7cf53 RJ0) (hret : zRi p l e ({ frames := 2, cells := 0, slots := 0, locals := 48 } : Room) s m args below meth c Q cJ0_indexOf_7cf53 D y A0 .int o) {x0 : Nat} {x1 : Int32} {x2 : Int32} {S : ZS} {H : Heap} {locs : List Loc} {ls : Array Slot} (hf : f_J0_indexOf_7cf53_0 x0 x1 x2 S = some o) (hM : zH D y A0 s H locs S) (hl : lv_has ls 3 [(0, .ref (y (100 + x0))), (1, .int x1), (2, .int x2)]) : W p l e ({ frames := 2, cells := 0, slots := 0, locals := 48 } : Room) s m args below meth c H locs 0 0 Q (F0 m 0 ls []) := by
  obtain ⟨hx, hb, hml, hown, hts⟩ := id X
  unfold f_J0_indexOf_7cf53_0 at hf
  refine lv_aload_n hx hb dJ0_indexOf_7cf53_0 rfl (lv_at hl 0 rfl) ?_
  obtain ⟨ca, hf⟩ := m_chkE hf
  obtain ⟨o1, ho, hf⟩ := m_calE hf
  refine z_callTi X hM ca (c_J0_isLatin1_aae02 ho) gJ0_indexOf_7cf53_J0_isLatin1_aae02 rfl ⟨rfl, rfl⟩ hd_J0_isLatin1_aae02 ⟨Nat.le_of_ble_eq_true rfl, Nat.le_of_ble_eq_true rfl⟩ rfl hl.1 rfl (Nat.le_of_ble_eq_true rfl) dJ0_indexOf_7cf53_1 (fun H locs hM => ?_)
  clear ho
  refine lv_if_eq (tgt := 23) hx hb dJ0_indexOf_7cf53_4 (by decide) (fun cc1 => ?_) (fun cc1 => ?_)
  · replace hf := m_ifT hf cc1
    cases hf
  · replace hf := m_ifF hf cc1
    refine lv_aload_n hx hb dJ0_indexOf_7cf53_7 rfl (lv_at hl 0 rfl) ?_
    obtain ⟨cd, hf⟩ := m_chkE hf
    refine z_sval X hM cd sl_J0_indexOf_7cf53_value dJ0_indexOf_7cf53_8 ?_
    clear cd
    refine lv_iload_n hx hb dJ0_indexOf_7cf53_11 rfl (lv_at hl 1 rfl) ?_
    refine lv_iload_n hx hb dJ0_indexOf_7cf53_12 rfl (lv_at hl 2 rfl) ?_
    refine lv_aload_n hx hb dJ0_indexOf_7cf53_13 rfl (lv_at hl 0 rfl) ?_
    obtain ⟨ca, hf⟩ := m_chkE hf
    obtain ⟨o2, ho, hf⟩ := m_calE hf
    refine z_callTi X hM ca (c_J0_length_8abf5 ho) gJ0_indexOf_7cf53_J0_length_8abf5 rfl ⟨rfl, rfl⟩ hd_J0_length_8abf5 ⟨Nat.le_of_ble_eq_true rfl, Nat.le_of_ble_eq_true rfl⟩ rfl hl.1 rfl (Nat.le_of_ble_eq_true rfl) dJ0_indexOf_7cf53_14 (fun H locs hM => ?_)
    clear ho
    obtain ⟨o3, ho, hf⟩ := m_calE hf
    refine z_callSi X hM (c_J1_indexOf_4cfef ho) gJ0_indexOf_7cf53_J1_indexOf_4cfef rfl ⟨rfl, rfl⟩ hd_J1_indexOf_4cfef ⟨Nat.le_of_ble_eq_true rfl, Nat.le_of_ble_eq_true rfl⟩ rfl hl.1 rfl (Nat.le_of_ble_eq_true rfl) dJ0_indexOf_7cf53_17 (fun H locs hM => ?_)
    clear ho
    refine lv_goto (tgt := 36) hx hb dJ0_indexOf_7cf53_20 (by decide) ?_
    cases hf
    exact hret H locs _ ls hM rfl dJ0_indexOf_7cf53_36
def f_J0_indexOf_7cf53 (x0 : Nat) (x1 : Int32) (x2 : Int32) (S : ZS) : Option (Int32 × ZS) := f_J0_indexOf_7cf53_0 x0 x1 x2 S
theorem c_J0_indexOf_7cf53 {l : Launch} {D : va_G} {y : Nat → ClassId} {x0 : Nat} {x1 : Int32} {x2 : Int32} {S : ZS} {o : Int32 × ZS} (hf : f_J0_indexOf_7cf53 x0 x1 x2 S = some o) : zMi l yJ0_indexOf_7cf53 wsJ0_indexOf_7cf53 ({ frames := 2, cells := 0, slots := 0, locals := 48 } : Room) [.ref (y (100 + x0)), .int x1, .int x2] D y S o :=
  z_entryI (own := RJ0) (cc := cJ0_indexOf_7cf53) (maxL := 3) (by decide) rfl rfl (Nat.le_of_ble_eq_true rfl) (fun p e s m args below meth c A0 Q H locs ls X hret hM hl => w_J0_indexOf_7cf53_0 X hret hf hM (lv_sub hl [0, 1, 2] rfl))
theorem hd_J0_indexOf_7cf53 : yJ0_indexOf_7cf53.cls = RJ0 ∧ yJ0_indexOf_7cf53.cls ≠ "java/lang/invoke/MethodHandle" ∧ yJ0_indexOf_7cf53.cls ≠ "java/lang/invoke/VarHandle" ∧ (parseMethodDescriptor yJ0_indexOf_7cf53.desc).map (fun d => d.parameters.length) = some 2 := by decide +kernel
def f_J0_indexOf_0f7a4_0 (x0 : Nat) (x1 : Int32) (S : ZS) : Option (Int32 × ZS) :=
  m_chk (x0 < zSn) (
  m_cal (f_J0_indexOf_7cf53 x0 x1 (0 : Int32) S) (fun o1 =>
  some (o1.1, o1.2)))

set_option maxRecDepth 100000 in
set_option maxHeartbeats 4000000 in
theorem w_J0_indexOf_0f7a4_0 {p : Program} {l : Launch} {e : Env} {s : State} {m : MethodId} {args : Array Value} {below : List Frame} {meth : Method} {c : Code} {Q : State → Prop} {D : va_G} {y : Nat → ClassId} {A0 : Nat → Prop} {o : Int32 × ZS} (X : CallFix p m c cJ0_indexOf_0f7a4 2 s args wsJ0_indexOf_0f7a4 RJ0) (hret : zRi p l e ({ frames := 3, cells := 0, slots := 0, locals := 70 } : Room) s m args below meth c Q cJ0_indexOf_0f7a4 D y A0 .int o) {x0 : Nat} {x1 : Int32} {S : ZS} {H : Heap} {locs : List Loc} {ls : Array Slot} (hf : f_J0_indexOf_0f7a4_0 x0 x1 S = some o) (hM : zH D y A0 s H locs S) (hl : lv_has ls 2 [(0, .ref (y (100 + x0))), (1, .int x1)]) : W p l e ({ frames := 3, cells := 0, slots := 0, locals := 70 } : Room) s m args below meth c H locs 0 0 Q (F0 m 0 ls []) := by
  obtain ⟨hx, hb, hml, hown, hts⟩ := id X
  unfold f_J0_indexOf_0f7a4_0 at hf
  refine lv_aload_n hx hb dJ0_indexOf_0f7a4_0 rfl (lv_at hl 0 rfl) ?_
  refine lv_iload_n hx hb dJ0_indexOf_0f7a4_1 rfl (lv_at hl 1 rfl) ?_
  refine lv_iconst (v := (0 : Int32)) hx hb dJ0_indexOf_0f7a4_2 (by decide) ?_
  obtain ⟨ca, hf⟩ := m_chkE hf
  obtain ⟨o1, ho, hf⟩ := m_calE hf
  refine z_callTi X hM ca (c_J0_indexOf_7cf53 ho) gJ0_indexOf_0f7a4_J0_indexOf_7cf53 rfl ⟨rfl, rfl⟩ hd_J0_indexOf_7cf53 ⟨Nat.le_of_ble_eq_true rfl, Nat.le_of_ble_eq_true rfl⟩ rfl hl.1 rfl (Nat.le_of_ble_eq_true rfl) dJ0_indexOf_0f7a4_3 (fun H locs hM => ?_)
  clear ho
  cases hf
  exact hret H locs _ ls hM rfl dJ0_indexOf_0f7a4_6
def f_J0_indexOf_0f7a4 (x0 : Nat) (x1 : Int32) (S : ZS) : Option (Int32 × ZS) := f_J0_indexOf_0f7a4_0 x0 x1 S
theorem c_J0_indexOf_0f7a4 {l : Launch} {D : va_G} {y : Nat → ClassId} {x0 : Nat} {x1 : Int32} {S : ZS} {o : Int32 × ZS} (hf : f_J0_indexOf_0f7a4 x0 x1 S = some o) : zMi l yJ0_indexOf_0f7a4 wsJ0_indexOf_0f7a4 ({ frames := 3, cells := 0, slots := 0, locals := 70 } : Room) [.ref (y (100 + x0)), .int x1] D y S o :=
  z_entryI (own := RJ0) (cc := cJ0_indexOf_0f7a4) (maxL := 2) (by decide) rfl rfl (Nat.le_of_ble_eq_true rfl) (fun p e s m args below meth c A0 Q H locs ls X hret hM hl => w_J0_indexOf_0f7a4_0 X hret hf hM (lv_sub hl [0, 1] rfl))
theorem hd_J0_indexOf_0f7a4 : yJ0_indexOf_0f7a4.cls = RJ0 ∧ yJ0_indexOf_0f7a4.cls ≠ "java/lang/invoke/MethodHandle" ∧ yJ0_indexOf_0f7a4.cls ≠ "java/lang/invoke/VarHandle" ∧ (parseMethodDescriptor yJ0_indexOf_0f7a4.desc).map (fun d => d.parameters.length) = some 1 := by decide +kernel
theorem sr_X11_kindOf_286 : (RX11, 286, "PNBRQK", 9) ∈ zSR := by decide +kernel
def f_X11_kindOf_0 (x0 : Int32) (S : ZS) : Option (Int32 × ZS) :=
  m_chk (9 < zSn) (
  m_cal (f_J0_indexOf_0f7a4 9 x0 S) (fun o1 =>
  m_bnd (o1.1 + (1 : Int32)) (fun v2 =>
  some (v2, o1.2))))

set_option maxRecDepth 100000 in
set_option maxHeartbeats 4000000 in
theorem w_X11_kindOf_0 {p : Program} {l : Launch} {e : Env} {s : State} {m : MethodId} {args : Array Value} {below : List Frame} {meth : Method} {c : Code} {Q : State → Prop} {D : va_G} {y : Nat → ClassId} {A0 : Nat → Prop} {o : Int32 × ZS} (X : CallFix p m c cX11_kindOf 1 s args wsX11_kindOf RX11) (hret : zRi p l e ({ frames := 4, cells := 0, slots := 0, locals := 91 } : Room) s m args below meth c Q cX11_kindOf D y A0 .int o) {x0 : Int32} {S : ZS} {H : Heap} {locs : List Loc} {ls : Array Slot} (hf : f_X11_kindOf_0 x0 S = some o) (hM : zH D y A0 s H locs S) (hl : lv_has ls 1 [(0, .int x0)]) : W p l e ({ frames := 4, cells := 0, slots := 0, locals := 91 } : Room) s m args below meth c H locs 0 0 Q (F0 m 0 ls []) := by
  obtain ⟨hx, hb, hml, hown, hts⟩ := id X
  unfold f_X11_kindOf_0 at hf
  refine z_ldcwS X hM sr_X11_kindOf_286 dX11_kindOf_0 ?_
  refine lv_iload_n hx hb dX11_kindOf_3 rfl (lv_at hl 0 rfl) ?_
  obtain ⟨ca, hf⟩ := m_chkE hf
  obtain ⟨o1, ho, hf⟩ := m_calE hf
  refine z_callTi X hM ca (c_J0_indexOf_0f7a4 ho) gX11_kindOf_J0_indexOf_0f7a4 rfl ⟨rfl, rfl⟩ hd_J0_indexOf_0f7a4 ⟨Nat.le_of_ble_eq_true rfl, Nat.le_of_ble_eq_true rfl⟩ rfl hl.1 rfl (Nat.le_of_ble_eq_true rfl) dX11_kindOf_4 (fun H locs hM => ?_)
  clear ho
  refine lv_iconst (v := (1 : Int32)) hx hb dX11_kindOf_7 (by decide) ?_
  refine lv_iadd hx hb dX11_kindOf_8 ?_
  obtain ⟨v2, ev, hf⟩ := m_bndE hf
  refine m_top ev ?_
  clear ev
  cases hf
  exact hret H locs _ ls hM rfl dX11_kindOf_9
def f_X11_kindOf (x0 : Int32) (S : ZS) : Option (Int32 × ZS) := f_X11_kindOf_0 x0 S
theorem c_X11_kindOf {l : Launch} {D : va_G} {y : Nat → ClassId} {x0 : Int32} {S : ZS} {o : Int32 × ZS} (hf : f_X11_kindOf x0 S = some o) : zMi l yX11_kindOf wsX11_kindOf ({ frames := 4, cells := 0, slots := 0, locals := 91 } : Room) [.int x0] D y S o :=
  z_entryI (own := RX11) (cc := cX11_kindOf) (maxL := 1) (by decide) rfl rfl (Nat.le_of_ble_eq_true rfl) (fun p e s m args below meth c A0 Q H locs ls X hret hM hl => w_X11_kindOf_0 X hret hf hM (lv_sub hl [0] rfl))
theorem hd_X11_kindOf : yX11_kindOf.cls ≠ "java/lang/invoke/MethodHandle" ∧ yX11_kindOf.cls ≠ "java/lang/invoke/VarHandle" ∧ (parseMethodDescriptor yX11_kindOf.desc).map (fun d => d.parameters.length) = some 1 := by decide +kernel
def f_X11_isFile_17 (t0 : Int32) (S : ZS) : Option (Int32 × ZS) :=
  m_chk (vp_nar .boolean t0 = t0) (some (t0, S))

set_option maxRecDepth 100000 in
set_option maxHeartbeats 4000000 in
theorem w_X11_isFile_17 {p : Program} {l : Launch} {e : Env} {s : State} {m : MethodId} {args : Array Value} {below : List Frame} {meth : Method} {c : Code} {Q : State → Prop} {D : va_G} {y : Nat → ClassId} {A0 : Nat → Prop} {o : Int32 × ZS} (X : CallFix p m c cX11_isFile 1 s args wsX11_isFile RX11) (hret : zRi p l e ({ frames := 0, cells := 0, slots := 0, locals := 0 } : Room) s m args below meth c Q cX11_isFile D y A0 .boolean o) {t0 : Int32} {S : ZS} {H : Heap} {locs : List Loc} {ls : Array Slot} (hf : f_X11_isFile_17 t0 S = some o) (hM : zH D y A0 s H locs S) (hl : lv_has ls 1 []) : W p l e ({ frames := 0, cells := 0, slots := 0, locals := 0 } : Room) s m args below meth c H locs 0 0 Q (F0 m 17 ls [.int t0]) := by
  obtain ⟨hx, hb, hml, hown, hts⟩ := id X
  unfold f_X11_isFile_17 at hf
  obtain ⟨cd, hf⟩ := m_chkE hf
  cases hf
  exact hret H locs _ ls hM (m_nb cd) dX11_isFile_17
def f_X11_isFile_16 (S : ZS) : Option (Int32 × ZS) :=
  f_X11_isFile_17 (0 : Int32) S

set_option maxRecDepth 100000 in
set_option maxHeartbeats 4000000 in
theorem w_X11_isFile_16 {p : Program} {l : Launch} {e : Env} {s : State} {m : MethodId} {args : Array Value} {below : List Frame} {meth : Method} {c : Code} {Q : State → Prop} {D : va_G} {y : Nat → ClassId} {A0 : Nat → Prop} {o : Int32 × ZS} (X : CallFix p m c cX11_isFile 1 s args wsX11_isFile RX11) (hret : zRi p l e ({ frames := 0, cells := 0, slots := 0, locals := 0 } : Room) s m args below meth c Q cX11_isFile D y A0 .boolean o) {S : ZS} {H : Heap} {locs : List Loc} {ls : Array Slot} (hf : f_X11_isFile_16  S = some o) (hM : zH D y A0 s H locs S) (hl : lv_has ls 1 []) : W p l e ({ frames := 0, cells := 0, slots := 0, locals := 0 } : Room) s m args below meth c H locs 0 0 Q (F0 m 16 ls []) := by
  obtain ⟨hx, hb, hml, hown, hts⟩ := id X
  unfold f_X11_isFile_16 at hf
  refine lv_iconst (v := (0 : Int32)) hx hb dX11_isFile_16 (by decide) ?_
  exact w_X11_isFile_17 (t0 := (0 : Int32)) X hret hf hM (lv_sub hl [] rfl)
def f_X11_isFile_0 (x0 : Int32) (S : ZS) : Option (Int32 × ZS) :=
  m_if (x0 < (97 : Int32)) (
  f_X11_isFile_16  S
  ) (
  m_if ((104 : Int32) < x0) (
  f_X11_isFile_16  S
  ) (
  f_X11_isFile_17 (1 : Int32) S
  )
  )

set_option maxRecDepth 100000 in
set_option maxHeartbeats 4000000 in
theorem w_X11_isFile_0 {p : Program} {l : Launch} {e : Env} {s : State} {m : MethodId} {args : Array Value} {below : List Frame} {meth : Method} {c : Code} {Q : State → Prop} {D : va_G} {y : Nat → ClassId} {A0 : Nat → Prop} {o : Int32 × ZS} (X : CallFix p m c cX11_isFile 1 s args wsX11_isFile RX11) (hret : zRi p l e ({ frames := 0, cells := 0, slots := 0, locals := 0 } : Room) s m args below meth c Q cX11_isFile D y A0 .boolean o) {x0 : Int32} {S : ZS} {H : Heap} {locs : List Loc} {ls : Array Slot} (hf : f_X11_isFile_0 x0 S = some o) (hM : zH D y A0 s H locs S) (hl : lv_has ls 1 [(0, .int x0)]) : W p l e ({ frames := 0, cells := 0, slots := 0, locals := 0 } : Room) s m args below meth c H locs 0 0 Q (F0 m 0 ls []) := by
  obtain ⟨hx, hb, hml, hown, hts⟩ := id X
  unfold f_X11_isFile_0 at hf
  refine lv_iload_n hx hb dX11_isFile_0 rfl (lv_at hl 0 rfl) ?_
  refine lv_bipush (v := (97 : Int32)) hx hb dX11_isFile_1 (by decide) ?_
  refine lv_icmp_lt (tgt := 16) hx hb dX11_isFile_3 (by decide) (fun cc1 => ?_) (fun cc1 => ?_)
  · replace hf := m_ifT hf cc1
    exact w_X11_isFile_16 X hret hf hM (lv_sub hl [] rfl)
  · replace hf := m_ifF hf cc1
    refine lv_iload_n hx hb dX11_isFile_6 rfl (lv_at hl 0 rfl) ?_
    refine lv_bipush (v := (104 : Int32)) hx hb dX11_isFile_7 (by decide) ?_
    refine lv_icmp_gt (tgt := 16) hx hb dX11_isFile_9 (by decide) (fun cc1 => ?_) (fun cc1 => ?_)
    · replace hf := m_ifT hf cc1
      exact w_X11_isFile_16 X hret hf hM (lv_sub hl [] rfl)
    · replace hf := m_ifF hf cc1
      refine lv_iconst (v := (1 : Int32)) hx hb dX11_isFile_12 (by decide) ?_
      refine lv_goto (tgt := 17) hx hb dX11_isFile_13 (by decide) ?_
      exact w_X11_isFile_17 (t0 := (1 : Int32)) X hret hf hM (lv_sub hl [] rfl)
def f_X11_isFile (x0 : Int32) (S : ZS) : Option (Int32 × ZS) := f_X11_isFile_0 x0 S
theorem c_X11_isFile {l : Launch} {D : va_G} {y : Nat → ClassId} {x0 : Int32} {S : ZS} {o : Int32 × ZS} (hf : f_X11_isFile x0 S = some o) : zMi l yX11_isFile wsX11_isFile ({ frames := 0, cells := 0, slots := 0, locals := 0 } : Room) [.int x0] D y S o :=
  z_entryI (own := RX11) (cc := cX11_isFile) (maxL := 1) (by decide) rfl rfl (Nat.le_of_ble_eq_true rfl) (fun p e s m args below meth c A0 Q H locs ls X hret hM hl => w_X11_isFile_0 X hret hf hM (lv_sub hl [0] rfl))
theorem hd_X11_isFile : yX11_isFile.cls ≠ "java/lang/invoke/MethodHandle" ∧ yX11_isFile.cls ≠ "java/lang/invoke/VarHandle" ∧ (parseMethodDescriptor yX11_isFile.desc).map (fun d => d.parameters.length) = some 1 := by decide +kernel
def f_X11_isRank_17 (t0 : Int32) (S : ZS) : Option (Int32 × ZS) :=
  m_chk (vp_nar .boolean t0 = t0) (some (t0, S))

set_option maxRecDepth 100000 in
set_option maxHeartbeats 4000000 in
theorem w_X11_isRank_17 {p : Program} {l : Launch} {e : Env} {s : State} {m : MethodId} {args : Array Value} {below : List Frame} {meth : Method} {c : Code} {Q : State → Prop} {D : va_G} {y : Nat → ClassId} {A0 : Nat → Prop} {o : Int32 × ZS} (X : CallFix p m c cX11_isRank 1 s args wsX11_isRank RX11) (hret : zRi p l e ({ frames := 0, cells := 0, slots := 0, locals := 0 } : Room) s m args below meth c Q cX11_isRank D y A0 .boolean o) {t0 : Int32} {S : ZS} {H : Heap} {locs : List Loc} {ls : Array Slot} (hf : f_X11_isRank_17 t0 S = some o) (hM : zH D y A0 s H locs S) (hl : lv_has ls 1 []) : W p l e ({ frames := 0, cells := 0, slots := 0, locals := 0 } : Room) s m args below meth c H locs 0 0 Q (F0 m 17 ls [.int t0]) := by
  obtain ⟨hx, hb, hml, hown, hts⟩ := id X
  unfold f_X11_isRank_17 at hf
  obtain ⟨cd, hf⟩ := m_chkE hf
  cases hf
  exact hret H locs _ ls hM (m_nb cd) dX11_isRank_17
def f_X11_isRank_16 (S : ZS) : Option (Int32 × ZS) :=
  f_X11_isRank_17 (0 : Int32) S

set_option maxRecDepth 100000 in
set_option maxHeartbeats 4000000 in
theorem w_X11_isRank_16 {p : Program} {l : Launch} {e : Env} {s : State} {m : MethodId} {args : Array Value} {below : List Frame} {meth : Method} {c : Code} {Q : State → Prop} {D : va_G} {y : Nat → ClassId} {A0 : Nat → Prop} {o : Int32 × ZS} (X : CallFix p m c cX11_isRank 1 s args wsX11_isRank RX11) (hret : zRi p l e ({ frames := 0, cells := 0, slots := 0, locals := 0 } : Room) s m args below meth c Q cX11_isRank D y A0 .boolean o) {S : ZS} {H : Heap} {locs : List Loc} {ls : Array Slot} (hf : f_X11_isRank_16  S = some o) (hM : zH D y A0 s H locs S) (hl : lv_has ls 1 []) : W p l e ({ frames := 0, cells := 0, slots := 0, locals := 0 } : Room) s m args below meth c H locs 0 0 Q (F0 m 16 ls []) := by
  obtain ⟨hx, hb, hml, hown, hts⟩ := id X
  unfold f_X11_isRank_16 at hf
  refine lv_iconst (v := (0 : Int32)) hx hb dX11_isRank_16 (by decide) ?_
  exact w_X11_isRank_17 (t0 := (0 : Int32)) X hret hf hM (lv_sub hl [] rfl)
def f_X11_isRank_0 (x0 : Int32) (S : ZS) : Option (Int32 × ZS) :=
  m_if (x0 < (49 : Int32)) (
  f_X11_isRank_16  S
  ) (
  m_if ((56 : Int32) < x0) (
  f_X11_isRank_16  S
  ) (
  f_X11_isRank_17 (1 : Int32) S
  )
  )

set_option maxRecDepth 100000 in
set_option maxHeartbeats 4000000 in
theorem w_X11_isRank_0 {p : Program} {l : Launch} {e : Env} {s : State} {m : MethodId} {args : Array Value} {below : List Frame} {meth : Method} {c : Code} {Q : State → Prop} {D : va_G} {y : Nat → ClassId} {A0 : Nat → Prop} {o : Int32 × ZS} (X : CallFix p m c cX11_isRank 1 s args wsX11_isRank RX11) (hret : zRi p l e ({ frames := 0, cells := 0, slots := 0, locals := 0 } : Room) s m args below meth c Q cX11_isRank D y A0 .boolean o) {x0 : Int32} {S : ZS} {H : Heap} {locs : List Loc} {ls : Array Slot} (hf : f_X11_isRank_0 x0 S = some o) (hM : zH D y A0 s H locs S) (hl : lv_has ls 1 [(0, .int x0)]) : W p l e ({ frames := 0, cells := 0, slots := 0, locals := 0 } : Room) s m args below meth c H locs 0 0 Q (F0 m 0 ls []) := by
  obtain ⟨hx, hb, hml, hown, hts⟩ := id X
  unfold f_X11_isRank_0 at hf
  refine lv_iload_n hx hb dX11_isRank_0 rfl (lv_at hl 0 rfl) ?_
  refine lv_bipush (v := (49 : Int32)) hx hb dX11_isRank_1 (by decide) ?_
  refine lv_icmp_lt (tgt := 16) hx hb dX11_isRank_3 (by decide) (fun cc1 => ?_) (fun cc1 => ?_)
  · replace hf := m_ifT hf cc1
    exact w_X11_isRank_16 X hret hf hM (lv_sub hl [] rfl)
  · replace hf := m_ifF hf cc1
    refine lv_iload_n hx hb dX11_isRank_6 rfl (lv_at hl 0 rfl) ?_
    refine lv_bipush (v := (56 : Int32)) hx hb dX11_isRank_7 (by decide) ?_
    refine lv_icmp_gt (tgt := 16) hx hb dX11_isRank_9 (by decide) (fun cc1 => ?_) (fun cc1 => ?_)
    · replace hf := m_ifT hf cc1
      exact w_X11_isRank_16 X hret hf hM (lv_sub hl [] rfl)
    · replace hf := m_ifF hf cc1
      refine lv_iconst (v := (1 : Int32)) hx hb dX11_isRank_12 (by decide) ?_
      refine lv_goto (tgt := 17) hx hb dX11_isRank_13 (by decide) ?_
      exact w_X11_isRank_17 (t0 := (1 : Int32)) X hret hf hM (lv_sub hl [] rfl)
def f_X11_isRank (x0 : Int32) (S : ZS) : Option (Int32 × ZS) := f_X11_isRank_0 x0 S
theorem c_X11_isRank {l : Launch} {D : va_G} {y : Nat → ClassId} {x0 : Int32} {S : ZS} {o : Int32 × ZS} (hf : f_X11_isRank x0 S = some o) : zMi l yX11_isRank wsX11_isRank ({ frames := 0, cells := 0, slots := 0, locals := 0 } : Room) [.int x0] D y S o :=
  z_entryI (own := RX11) (cc := cX11_isRank) (maxL := 1) (by decide) rfl rfl (Nat.le_of_ble_eq_true rfl) (fun p e s m args below meth c A0 Q H locs ls X hret hM hl => w_X11_isRank_0 X hret hf hM (lv_sub hl [0] rfl))
theorem hd_X11_isRank : yX11_isRank.cls ≠ "java/lang/invoke/MethodHandle" ∧ yX11_isRank.cls ≠ "java/lang/invoke/VarHandle" ∧ (parseMethodDescriptor yX11_isRank.desc).map (fun d => d.parameters.length) = some 1 := by decide +kernel
def f_X11_squareOf_30 (t0 : Int32) (S : ZS) : Option (Int32 × ZS) :=
  some (t0, S)

set_option maxRecDepth 100000 in
set_option maxHeartbeats 4000000 in
theorem w_X11_squareOf_30 {p : Program} {l : Launch} {e : Env} {s : State} {m : MethodId} {args : Array Value} {below : List Frame} {meth : Method} {c : Code} {Q : State → Prop} {D : va_G} {y : Nat → ClassId} {A0 : Nat → Prop} {o : Int32 × ZS} (X : CallFix p m c cX11_squareOf 2 s args wsX11_squareOf RX11) (hret : zRi p l e ({ frames := 1, cells := 0, slots := 0, locals := 20 } : Room) s m args below meth c Q cX11_squareOf D y A0 .int o) {t0 : Int32} {S : ZS} {H : Heap} {locs : List Loc} {ls : Array Slot} (hf : f_X11_squareOf_30 t0 S = some o) (hM : zH D y A0 s H locs S) (hl : lv_has ls 2 []) : W p l e ({ frames := 1, cells := 0, slots := 0, locals := 20 } : Room) s m args below meth c H locs 0 0 Q (F0 m 30 ls [.int t0]) := by
  obtain ⟨hx, hb, hml, hown, hts⟩ := id X
  unfold f_X11_squareOf_30 at hf
  cases hf
  exact hret H locs _ ls hM rfl dX11_squareOf_30
def f_X11_squareOf_29 (S : ZS) : Option (Int32 × ZS) :=
  f_X11_squareOf_30 (-1 : Int32) S

set_option maxRecDepth 100000 in
set_option maxHeartbeats 4000000 in
theorem w_X11_squareOf_29 {p : Program} {l : Launch} {e : Env} {s : State} {m : MethodId} {args : Array Value} {below : List Frame} {meth : Method} {c : Code} {Q : State → Prop} {D : va_G} {y : Nat → ClassId} {A0 : Nat → Prop} {o : Int32 × ZS} (X : CallFix p m c cX11_squareOf 2 s args wsX11_squareOf RX11) (hret : zRi p l e ({ frames := 1, cells := 0, slots := 0, locals := 20 } : Room) s m args below meth c Q cX11_squareOf D y A0 .int o) {S : ZS} {H : Heap} {locs : List Loc} {ls : Array Slot} (hf : f_X11_squareOf_29  S = some o) (hM : zH D y A0 s H locs S) (hl : lv_has ls 2 []) : W p l e ({ frames := 1, cells := 0, slots := 0, locals := 20 } : Room) s m args below meth c H locs 0 0 Q (F0 m 29 ls []) := by
  obtain ⟨hx, hb, hml, hown, hts⟩ := id X
  unfold f_X11_squareOf_29 at hf
  refine lv_iconst (v := (-1 : Int32)) hx hb dX11_squareOf_29 (by decide) ?_
  exact w_X11_squareOf_30 (t0 := (-1 : Int32)) X hret hf hM (lv_sub hl [] rfl)
def f_X11_squareOf_0 (x0 : Int32) (x1 : Int32) (S : ZS) : Option (Int32 × ZS) :=
  m_cal (f_X11_isFile x0 S) (fun o1 =>
  m_if (o1.1 = 0) (
  f_X11_squareOf_29  o1.2
  ) (
  m_cal (f_X11_isRank x1 o1.2) (fun o2 =>
  m_if (o2.1 = 0) (
  f_X11_squareOf_29  o2.2
  ) (
  m_bnd (x0 - (97 : Int32)) (fun v3 =>
  m_bnd (x1 - (49 : Int32)) (fun v4 =>
  m_bnd ((8 : Int32) * v4) (fun v5 =>
  m_bnd (v3 + v5) (fun v6 =>
  f_X11_squareOf_30 v6 o2.2))))
  ))
  ))

set_option maxRecDepth 100000 in
set_option maxHeartbeats 4000000 in
theorem w_X11_squareOf_0 {p : Program} {l : Launch} {e : Env} {s : State} {m : MethodId} {args : Array Value} {below : List Frame} {meth : Method} {c : Code} {Q : State → Prop} {D : va_G} {y : Nat → ClassId} {A0 : Nat → Prop} {o : Int32 × ZS} (X : CallFix p m c cX11_squareOf 2 s args wsX11_squareOf RX11) (hret : zRi p l e ({ frames := 1, cells := 0, slots := 0, locals := 20 } : Room) s m args below meth c Q cX11_squareOf D y A0 .int o) {x0 : Int32} {x1 : Int32} {S : ZS} {H : Heap} {locs : List Loc} {ls : Array Slot} (hf : f_X11_squareOf_0 x0 x1 S = some o) (hM : zH D y A0 s H locs S) (hl : lv_has ls 2 [(0, .int x0), (1, .int x1)]) : W p l e ({ frames := 1, cells := 0, slots := 0, locals := 20 } : Room) s m args below meth c H locs 0 0 Q (F0 m 0 ls []) := by
  obtain ⟨hx, hb, hml, hown, hts⟩ := id X
  unfold f_X11_squareOf_0 at hf
  refine lv_iload_n hx hb dX11_squareOf_0 rfl (lv_at hl 0 rfl) ?_
  obtain ⟨o1, ho, hf⟩ := m_calE hf
  refine z_callSi X hM (c_X11_isFile ho) gX11_squareOf_X11_isFile rfl ⟨rfl, rfl⟩ hd_X11_isFile ⟨Nat.le_of_ble_eq_true rfl, Nat.le_of_ble_eq_true rfl⟩ rfl hl.1 rfl (Nat.le_of_ble_eq_true rfl) dX11_squareOf_1 (fun H locs hM => ?_)
  clear ho
  refine lv_if_eq (tgt := 29) hx hb dX11_squareOf_4 (by decide) (fun cc1 => ?_) (fun cc1 => ?_)
  · replace hf := m_ifT hf cc1
    exact w_X11_squareOf_29 X hret hf hM (lv_sub hl [] rfl)
  · replace hf := m_ifF hf cc1
    refine lv_iload_n hx hb dX11_squareOf_7 rfl (lv_at hl 1 rfl) ?_
    obtain ⟨o2, ho, hf⟩ := m_calE hf
    refine z_callSi X hM (c_X11_isRank ho) gX11_squareOf_X11_isRank rfl ⟨rfl, rfl⟩ hd_X11_isRank ⟨Nat.le_of_ble_eq_true rfl, Nat.le_of_ble_eq_true rfl⟩ rfl hl.1 rfl (Nat.le_of_ble_eq_true rfl) dX11_squareOf_8 (fun H locs hM => ?_)
    clear ho
    refine lv_if_eq (tgt := 29) hx hb dX11_squareOf_11 (by decide) (fun cc1 => ?_) (fun cc1 => ?_)
    · replace hf := m_ifT hf cc1
      exact w_X11_squareOf_29 X hret hf hM (lv_sub hl [] rfl)
    · replace hf := m_ifF hf cc1
      refine lv_iload_n hx hb dX11_squareOf_14 rfl (lv_at hl 0 rfl) ?_
      refine lv_bipush (v := (97 : Int32)) hx hb dX11_squareOf_15 (by decide) ?_
      refine lv_isub hx hb dX11_squareOf_17 ?_
      obtain ⟨v3, ev, hf⟩ := m_bndE hf
      refine m_top ev ?_
      clear ev
      refine lv_bipush (v := (8 : Int32)) hx hb dX11_squareOf_18 (by decide) ?_
      refine lv_iload_n hx hb dX11_squareOf_20 rfl (lv_at hl 1 rfl) ?_
      refine lv_bipush (v := (49 : Int32)) hx hb dX11_squareOf_21 (by decide) ?_
      refine lv_isub hx hb dX11_squareOf_23 ?_
      obtain ⟨v4, ev, hf⟩ := m_bndE hf
      refine m_top ev ?_
      clear ev
      refine lv_imul hx hb dX11_squareOf_24 ?_
      obtain ⟨v5, ev, hf⟩ := m_bndE hf
      refine m_top ev ?_
      clear ev
      refine lv_iadd hx hb dX11_squareOf_25 ?_
      obtain ⟨v6, ev, hf⟩ := m_bndE hf
      refine m_top ev ?_
      clear ev
      refine lv_goto (tgt := 30) hx hb dX11_squareOf_26 (by decide) ?_
      exact w_X11_squareOf_30 (t0 := v6) X hret hf hM (lv_sub hl [] rfl)
def f_X11_squareOf (x0 : Int32) (x1 : Int32) (S : ZS) : Option (Int32 × ZS) := f_X11_squareOf_0 x0 x1 S
theorem c_X11_squareOf {l : Launch} {D : va_G} {y : Nat → ClassId} {x0 : Int32} {x1 : Int32} {S : ZS} {o : Int32 × ZS} (hf : f_X11_squareOf x0 x1 S = some o) : zMi l yX11_squareOf wsX11_squareOf ({ frames := 1, cells := 0, slots := 0, locals := 20 } : Room) [.int x0, .int x1] D y S o :=
  z_entryI (own := RX11) (cc := cX11_squareOf) (maxL := 2) (by decide) rfl rfl (Nat.le_of_ble_eq_true rfl) (fun p e s m args below meth c A0 Q H locs ls X hret hM hl => w_X11_squareOf_0 X hret hf hM (lv_sub hl [0, 1] rfl))
theorem hd_X11_squareOf : yX11_squareOf.cls ≠ "java/lang/invoke/MethodHandle" ∧ yX11_squareOf.cls ≠ "java/lang/invoke/VarHandle" ∧ (parseMethodDescriptor yX11_squareOf.desc).map (fun d => d.parameters.length) = some 2 := by decide +kernel
theorem fl_X8_parseApart_8_1 : Cond.fieldLink RX8 21 "MoveTexts$SignReader" "row" "LMoveTexts$Row;" ∈ wsX8_parseApart := by decide +kernel
theorem fl_X8_parseApart_8_3 : Cond.fieldLink RX8 93 "MoveTexts$SignReader" "kind" "I" ∈ wsX8_parseApart := by decide +kernel
theorem fl_X8_parseApart_8_4 : Cond.fieldLink RX8 107 "MoveTexts$SignReader" "file" "I" ∈ wsX8_parseApart := by decide +kernel
theorem fl_X8_parseApart_8_5 : Cond.fieldLink RX8 110 "MoveTexts$SignReader" "rank" "I" ∈ wsX8_parseApart := by decide +kernel
theorem hw_X8_parseApart_8 : ∀ w ∈ wsX80, w ∈ wsX8_parseApart := by decide +kernel
theorem nn_X8_parseApart_113 : ((RX8, 113, yX11_isFile, "MoveTexts") ∈ zNW ∧ Cond.initialized yX11_isFile.cls ∈ wsX8_parseApart) ∧ Cond.static yX11_isFile ∈ wsX8_parseApart := by decide +kernel
theorem nn_X8_parseApart_117 : ((RX8, 117, yX11_isRank, "MoveTexts") ∈ zNW ∧ Cond.initialized yX11_isRank.cls ∈ wsX8_parseApart) ∧ Cond.static yX11_isRank ∈ wsX8_parseApart := by decide +kernel
def f_X8_parseApart_104 (t0 : Int32) (S : ZS) : Option (Int32 × ZS) :=
  m_chk (vp_nar .boolean t0 = t0) (some (t0, S))

set_option maxRecDepth 100000 in
set_option maxHeartbeats 4000000 in
theorem w_X8_parseApart_104 {p : Program} {l : Launch} {e : Env} {s : State} {m : MethodId} {args : Array Value} {below : List Frame} {meth : Method} {c : Code} {Q : State → Prop} {D : va_G} {y : Nat → ClassId} {A0 : Nat → Prop} {o : Int32 × ZS} (X : CallFix p m c cX8_parseApart 4 s args wsX8_parseApart RX8) (hret : zRi p l e ({ frames := 1, cells := 0, slots := 0, locals := 21 } : Room) s m args below meth c Q cX8_parseApart D y A0 .boolean o) {t0 : Int32} {S : ZS} {H : Heap} {locs : List Loc} {ls : Array Slot} (hf : f_X8_parseApart_104 t0 S = some o) (hM : zH D y A0 s H locs S) (hl : lv_has ls 4 []) : W p l e ({ frames := 1, cells := 0, slots := 0, locals := 21 } : Room) s m args below meth c H locs 0 0 Q (F0 m 104 ls [.int t0]) := by
  obtain ⟨hx, hb, hml, hown, hts⟩ := id X
  unfold f_X8_parseApart_104 at hf
  obtain ⟨cd, hf⟩ := m_chkE hf
  cases hf
  exact hret H locs _ ls hM (m_nb cd) dX8_parseApart_104
def f_X8_parseApart_94 (x2 : Int32) (x3 : Int32) (S : ZS) : Option (Int32 × ZS) :=
  m_if (x3 = x2) (
  f_X8_parseApart_104 (1 : Int32) S
  ) (
  f_X8_parseApart_104 (0 : Int32) S
  )

set_option maxRecDepth 100000 in
set_option maxHeartbeats 4000000 in
theorem w_X8_parseApart_94 {p : Program} {l : Launch} {e : Env} {s : State} {m : MethodId} {args : Array Value} {below : List Frame} {meth : Method} {c : Code} {Q : State → Prop} {D : va_G} {y : Nat → ClassId} {A0 : Nat → Prop} {o : Int32 × ZS} (X : CallFix p m c cX8_parseApart 4 s args wsX8_parseApart RX8) (hret : zRi p l e ({ frames := 1, cells := 0, slots := 0, locals := 21 } : Room) s m args below meth c Q cX8_parseApart D y A0 .boolean o) {x2 : Int32} {x3 : Int32} {S : ZS} {H : Heap} {locs : List Loc} {ls : Array Slot} (hf : f_X8_parseApart_94 x2 x3 S = some o) (hM : zH D y A0 s H locs S) (hl : lv_has ls 4 [(2, .int x2), (3, .int x3)]) : W p l e ({ frames := 1, cells := 0, slots := 0, locals := 21 } : Room) s m args below meth c H locs 0 0 Q (F0 m 94 ls []) := by
  obtain ⟨hx, hb, hml, hown, hts⟩ := id X
  unfold f_X8_parseApart_94 at hf
  refine lv_iload_n hx hb dX8_parseApart_94 rfl (lv_at hl 1 rfl) ?_
  refine lv_iload_n hx hb dX8_parseApart_95 rfl (lv_at hl 0 rfl) ?_
  refine lv_icmp_ne (tgt := 103) hx hb dX8_parseApart_96 (by decide) (fun cc1 => ?_) (fun cc1 => ?_)
  · replace hf := m_ifF hf cc1
    refine lv_iconst (v := (0 : Int32)) hx hb dX8_parseApart_103 (by decide) ?_
    exact w_X8_parseApart_104 (t0 := (0 : Int32)) X hret hf hM (lv_sub hl [] rfl)
  · replace hf := m_ifT hf cc1
    refine lv_iconst (v := (1 : Int32)) hx hb dX8_parseApart_99 (by decide) ?_
    refine lv_goto (tgt := 104) hx hb dX8_parseApart_100 (by decide) ?_
    exact w_X8_parseApart_104 (t0 := (1 : Int32)) X hret hf hM (lv_sub hl [] rfl)
def f_X8_parseApart_49 (x0 : Nat) (x2 : Int32) (x3 : Int32) (S : ZS) : Option (Int32 × ZS) :=
  m_if (x2 ≤ x3) (
  f_X8_parseApart_94 x2 x3 S
  ) (
  m_chk (x0 ∈ zL S ∧ zK S x0 = 8) (
  m_if ((zI S 3 x0) = (1 : Int32)) (
  f_X8_parseApart_94 x2 x3 S
  ) (
  m_chk (x0 ∈ zL S ∧ zK S x0 = 8) (
  m_cal (zP S 1 x0) (fun b1 =>
  m_chk (b1 ∈ zL S ∧ zK S b1 = 6) (
  m_cal (f_X6_at b1 x3 S) (fun o2 =>
  m_cal (f_X11_isRank o2.1 o2.2) (fun o3 =>
  m_if (o3.1 = 0) (
  f_X8_parseApart_94 x2 x3 o3.2
  ) (
  m_chk (x0 ∈ zL o3.2 ∧ zK o3.2 x0 = 8) (
  m_cal (zP o3.2 1 x0) (fun b4 =>
  m_chk (b4 ∈ zL o3.2 ∧ zK o3.2 b4 = 6) (
  m_cal (f_X6_at b4 x3 o3.2) (fun o5 =>
  m_bnd (o5.1 - (49 : Int32)) (fun v6 =>
  m_chk (x0 ∈ zL o5.2 ∧ zK o5.2 x0 = 8) (
  m_bnd (zsI o5.2 5 x0 v6) (fun S7 =>
  m_bnd (x3 + (1 : Int32)) (fun v8 =>
  f_X8_parseApart_94 x2 v8 S7))))))))
  ))))))
  ))
  )

set_option maxRecDepth 100000 in
set_option maxHeartbeats 4000000 in
theorem w_X8_parseApart_49 {p : Program} {l : Launch} {e : Env} {s : State} {m : MethodId} {args : Array Value} {below : List Frame} {meth : Method} {c : Code} {Q : State → Prop} {D : va_G} {y : Nat → ClassId} {A0 : Nat → Prop} {o : Int32 × ZS} (X : CallFix p m c cX8_parseApart 4 s args wsX8_parseApart RX8) (hret : zRi p l e ({ frames := 1, cells := 0, slots := 0, locals := 21 } : Room) s m args below meth c Q cX8_parseApart D y A0 .boolean o) {x0 : Nat} {x2 : Int32} {x3 : Int32} {S : ZS} {H : Heap} {locs : List Loc} {ls : Array Slot} (hf : f_X8_parseApart_49 x0 x2 x3 S = some o) (hM : zH D y A0 s H locs S) (hl : lv_has ls 4 [(0, .ref x0), (2, .int x2), (3, .int x3)]) : W p l e ({ frames := 1, cells := 0, slots := 0, locals := 21 } : Room) s m args below meth c H locs 0 0 Q (F0 m 49 ls []) := by
  obtain ⟨hx, hb, hml, hown, hts⟩ := id X
  unfold f_X8_parseApart_49 at hf
  refine lv_iload_n hx hb dX8_parseApart_49 rfl (lv_at hl 2 rfl) ?_
  refine lv_iload_n hx hb dX8_parseApart_50 rfl (lv_at hl 1 rfl) ?_
  refine lv_icmp_ge (tgt := 94) hx hb dX8_parseApart_51 (by decide) (fun cc1 => ?_) (fun cc1 => ?_)
  · replace hf := m_ifT hf cc1
    exact w_X8_parseApart_94 (x2 := x2) (x3 := x3) X hret hf hM (lv_sub hl [1, 2] rfl)
  · replace hf := m_ifF hf cc1
    refine lv_aload_n hx hb dX8_parseApart_54 rfl (lv_at hl 0 rfl) ?_
    obtain ⟨ca, hf⟩ := m_chkE hf
    refine z_get (k := 8) (j := 3) (C := RX8) (T := TX8) (N := 12) (fl := zf_8) (v := .int (zI S 3 x0)) X hw_X8_parseApart_8 hM rfl zc_8 ca (by decide) fl_X8_parseApart_8_3 rfl dX8_parseApart_55 ?_
    clear ca
    refine lv_iconst (v := (1 : Int32)) hx hb dX8_parseApart_58 (by decide) ?_
    refine lv_icmp_eq (tgt := 94) hx hb dX8_parseApart_59 (by decide) (fun cc1 => ?_) (fun cc1 => ?_)
    · replace hf := m_ifT hf cc1
      exact w_X8_parseApart_94 (x2 := x2) (x3 := x3) X hret hf hM (lv_sub hl [1, 2] rfl)
    · replace hf := m_ifF hf cc1
      refine lv_aload_n hx hb dX8_parseApart_62 rfl (lv_at hl 0 rfl) ?_
      obtain ⟨ca, hf⟩ := m_chkE hf
      refine z_get (k := 8) (j := 1) (C := RX8) (T := TX8) (N := 12) (fl := zf_8) (v := va_rf (zP S 1 x0)) X hw_X8_parseApart_8 hM rfl zc_8 ca (by decide) fl_X8_parseApart_8_1 rfl dX8_parseApart_63 ?_
      clear ca
      obtain ⟨b1, hb9, hf⟩ := m_calE hf
      refine z_topr hb9 ?_
      clear hb9
      refine lv_iload_n hx hb dX8_parseApart_66 rfl (lv_at hl 2 rfl) ?_
      obtain ⟨ca, hf⟩ := m_chkE hf
      obtain ⟨o2, ho, hf⟩ := m_calE hf
      refine z_callVi (k := 6) (C := RX6) (T := TX6) (N := 2) (fl := zf_6) X hM rfl zc_6 ca (c_X6_at ho) gX8_parseApart_X6_at rfl ⟨rfl, rfl⟩ hd_X6_at ⟨Nat.le_of_ble_eq_true rfl, Nat.le_of_ble_eq_true rfl⟩ rfl hl.1 rfl (Nat.le_of_ble_eq_true rfl) dX8_parseApart_67 (fun H locs hM => ?_)
      clear ho
      obtain ⟨o3, ho, hf⟩ := m_calE hf
      refine z_callSNi X hM (c_X11_isRank ho) gX8_parseApart_X11_isRank_n117 nn_X8_parseApart_117.1.1 nn_X8_parseApart_117.1.2 nn_X8_parseApart_117.2 rfl ⟨rfl, rfl⟩ hd_X11_isRank ⟨Nat.le_of_ble_eq_true rfl, Nat.le_of_ble_eq_true rfl⟩ rfl hl.1 rfl (Nat.le_of_ble_eq_true rfl) dX8_parseApart_70 (fun H locs hM => ?_)
      clear ho
      refine lv_if_eq (tgt := 94) hx hb dX8_parseApart_73 (by decide) (fun cc1 => ?_) (fun cc1 => ?_)
      · replace hf := m_ifT hf cc1
        exact w_X8_parseApart_94 (x2 := x2) (x3 := x3) X hret hf hM (lv_sub hl [1, 2] rfl)
      · replace hf := m_ifF hf cc1
        refine lv_aload_n hx hb dX8_parseApart_76 rfl (lv_at hl 0 rfl) ?_
        refine lv_aload_n hx hb dX8_parseApart_77 rfl (lv_at hl 0 rfl) ?_
        obtain ⟨ca, hf⟩ := m_chkE hf
        refine z_get (k := 8) (j := 1) (C := RX8) (T := TX8) (N := 12) (fl := zf_8) (v := va_rf (zP o3.2 1 x0)) X hw_X8_parseApart_8 hM rfl zc_8 ca (by decide) fl_X8_parseApart_8_1 rfl dX8_parseApart_78 ?_
        clear ca
        obtain ⟨b4, hb9, hf⟩ := m_calE hf
        refine z_topr hb9 ?_
        clear hb9
        refine lv_iload_n hx hb dX8_parseApart_81 rfl (lv_at hl 2 rfl) ?_
        obtain ⟨ca, hf⟩ := m_chkE hf
        obtain ⟨o5, ho, hf⟩ := m_calE hf
        refine z_callVi (k := 6) (C := RX6) (T := TX6) (N := 2) (fl := zf_6) X hM rfl zc_6 ca (c_X6_at ho) gX8_parseApart_X6_at rfl ⟨rfl, rfl⟩ hd_X6_at ⟨Nat.le_of_ble_eq_true rfl, Nat.le_of_ble_eq_true rfl⟩ rfl hl.1 rfl (Nat.le_of_ble_eq_true rfl) dX8_parseApart_82 (fun H locs hM => ?_)
        clear ho
        refine lv_bipush (v := (49 : Int32)) hx hb dX8_parseApart_85 (by decide) ?_
        refine lv_isub hx hb dX8_parseApart_87 ?_
        obtain ⟨v6, ev, hf⟩ := m_bndE hf
        refine m_top ev ?_
        clear ev
        obtain ⟨ca, hf⟩ := m_chkE hf
        refine z_putI (k := 8) (j := 5) (C := RX8) (T := TX8) (N := 12) (fl := zf_8) (ty := .int) X hw_X8_parseApart_8 tyX8_ok nmX8 hM rfl zc_8 ca (by decide) fl_X8_parseApart_8_5 rfl (tyX8_ok 5 (by decide)) rfl rfl zi_8_5 (Nat.le_of_ble_eq_true rfl) dX8_parseApart_88 (fun H locs hM => ?_)
        clear ca
        obtain ⟨S7, ev, hf⟩ := m_bndE hf
        replace hM := z_hS hM ev
        clear ev
        obtain ⟨v8, ev, hf⟩ := m_bndE hf
        refine lv_iinc (v := v8) (lv' := [(3, .int v8), (0, .ref x0), (2, .int x2)]) hx hb dX8_parseApart_91 hl (k := 2) rfl (by rw [ev]; rfl) (by decide) rfl (fun ls hl => ?_)
        clear ev
        exact w_X8_parseApart_94 (x2 := x2) (x3 := v8) X hret hf hM (lv_sub hl [2, 0] rfl)
def f_X8_parseApart_0 (x0 : Nat) (x1 : Int32) (x2 : Int32) (S : ZS) : Option (Int32 × ZS) :=
  m_chk (x0 ∈ zL S ∧ zK S x0 = 8) (
  m_bnd (zsI S 4 x0 (-1 : Int32)) (fun S1 =>
  m_chk (x0 ∈ zL S1 ∧ zK S1 x0 = 8) (
  m_bnd (zsI S1 5 x0 (-1 : Int32)) (fun S2 =>
  m_if (x2 ≤ x1) (
  f_X8_parseApart_49 x0 x2 x1 S2
  ) (
  m_chk (x0 ∈ zL S2 ∧ zK S2 x0 = 8) (
  m_cal (zP S2 1 x0) (fun b3 =>
  m_chk (b3 ∈ zL S2 ∧ zK S2 b3 = 6) (
  m_cal (f_X6_at b3 x1 S2) (fun o4 =>
  m_cal (f_X11_isFile o4.1 o4.2) (fun o5 =>
  m_if (o5.1 = 0) (
  f_X8_parseApart_49 x0 x2 x1 o5.2
  ) (
  m_chk (x0 ∈ zL o5.2 ∧ zK o5.2 x0 = 8) (
  m_cal (zP o5.2 1 x0) (fun b6 =>
  m_chk (b6 ∈ zL o5.2 ∧ zK o5.2 b6 = 6) (
  m_cal (f_X6_at b6 x1 o5.2) (fun o7 =>
  m_bnd (o7.1 - (97 : Int32)) (fun v8 =>
  m_chk (x0 ∈ zL o7.2 ∧ zK o7.2 x0 = 8) (
  m_bnd (zsI o7.2 4 x0 v8) (fun S9 =>
  m_bnd (x1 + (1 : Int32)) (fun v10 =>
  f_X8_parseApart_49 x0 x2 v10 S9))))))))
  ))))))
  )))))

set_option maxRecDepth 100000 in
set_option maxHeartbeats 4000000 in
theorem w_X8_parseApart_0 {p : Program} {l : Launch} {e : Env} {s : State} {m : MethodId} {args : Array Value} {below : List Frame} {meth : Method} {c : Code} {Q : State → Prop} {D : va_G} {y : Nat → ClassId} {A0 : Nat → Prop} {o : Int32 × ZS} (X : CallFix p m c cX8_parseApart 4 s args wsX8_parseApart RX8) (hret : zRi p l e ({ frames := 1, cells := 0, slots := 0, locals := 21 } : Room) s m args below meth c Q cX8_parseApart D y A0 .boolean o) {x0 : Nat} {x1 : Int32} {x2 : Int32} {S : ZS} {H : Heap} {locs : List Loc} {ls : Array Slot} (hf : f_X8_parseApart_0 x0 x1 x2 S = some o) (hM : zH D y A0 s H locs S) (hl : lv_has ls 4 [(0, .ref x0), (1, .int x1), (2, .int x2)]) : W p l e ({ frames := 1, cells := 0, slots := 0, locals := 21 } : Room) s m args below meth c H locs 0 0 Q (F0 m 0 ls []) := by
  obtain ⟨hx, hb, hml, hown, hts⟩ := id X
  unfold f_X8_parseApart_0 at hf
  refine lv_iload_n hx hb dX8_parseApart_0 rfl (lv_at hl 1 rfl) ?_
  refine lv_istore_n (lv' := [(3, .int x1), (0, .ref x0), (1, .int x1), (2, .int x2)]) hx hb dX8_parseApart_1 rfl hl (by decide) rfl (fun ls hl => ?_)
  refine lv_aload_n hx hb dX8_parseApart_2 rfl (lv_at hl 1 rfl) ?_
  refine lv_iconst (v := (-1 : Int32)) hx hb dX8_parseApart_3 (by decide) ?_
  obtain ⟨ca, hf⟩ := m_chkE hf
  refine z_putI (k := 8) (j := 4) (C := RX8) (T := TX8) (N := 12) (fl := zf_8) (ty := .int) X hw_X8_parseApart_8 tyX8_ok nmX8 hM rfl zc_8 ca (by decide) fl_X8_parseApart_8_4 rfl (tyX8_ok 4 (by decide)) rfl rfl zi_8_4 (Nat.le_of_ble_eq_true rfl) dX8_parseApart_4 (fun H locs hM => ?_)
  clear ca
  obtain ⟨S1, ev, hf⟩ := m_bndE hf
  replace hM := z_hS hM ev
  clear ev
  refine lv_aload_n hx hb dX8_parseApart_7 rfl (lv_at hl 1 rfl) ?_
  refine lv_iconst (v := (-1 : Int32)) hx hb dX8_parseApart_8 (by decide) ?_
  obtain ⟨ca, hf⟩ := m_chkE hf
  refine z_putI (k := 8) (j := 5) (C := RX8) (T := TX8) (N := 12) (fl := zf_8) (ty := .int) X hw_X8_parseApart_8 tyX8_ok nmX8 hM rfl zc_8 ca (by decide) fl_X8_parseApart_8_5 rfl (tyX8_ok 5 (by decide)) rfl rfl zi_8_5 (Nat.le_of_ble_eq_true rfl) dX8_parseApart_9 (fun H locs hM => ?_)
  clear ca
  obtain ⟨S2, ev, hf⟩ := m_bndE hf
  replace hM := z_hS hM ev
  clear ev
  refine lv_iload_n hx hb dX8_parseApart_12 rfl (lv_at hl 0 rfl) ?_
  refine lv_iload_n hx hb dX8_parseApart_13 rfl (lv_at hl 3 rfl) ?_
  refine lv_icmp_ge (tgt := 49) hx hb dX8_parseApart_14 (by decide) (fun cc1 => ?_) (fun cc1 => ?_)
  · replace hf := m_ifT hf cc1
    exact w_X8_parseApart_49 (x0 := x0) (x2 := x2) (x3 := x1) X hret hf hM (lv_sub hl [1, 3, 0] rfl)
  · replace hf := m_ifF hf cc1
    refine lv_aload_n hx hb dX8_parseApart_17 rfl (lv_at hl 1 rfl) ?_
    obtain ⟨ca, hf⟩ := m_chkE hf
    refine z_get (k := 8) (j := 1) (C := RX8) (T := TX8) (N := 12) (fl := zf_8) (v := va_rf (zP S2 1 x0)) X hw_X8_parseApart_8 hM rfl zc_8 ca (by decide) fl_X8_parseApart_8_1 rfl dX8_parseApart_18 ?_
    clear ca
    obtain ⟨b3, hb9, hf⟩ := m_calE hf
    refine z_topr hb9 ?_
    clear hb9
    refine lv_iload_n hx hb dX8_parseApart_21 rfl (lv_at hl 0 rfl) ?_
    obtain ⟨ca, hf⟩ := m_chkE hf
    obtain ⟨o4, ho, hf⟩ := m_calE hf
    refine z_callVi (k := 6) (C := RX6) (T := TX6) (N := 2) (fl := zf_6) X hM rfl zc_6 ca (c_X6_at ho) gX8_parseApart_X6_at rfl ⟨rfl, rfl⟩ hd_X6_at ⟨Nat.le_of_ble_eq_true rfl, Nat.le_of_ble_eq_true rfl⟩ rfl hl.1 rfl (Nat.le_of_ble_eq_true rfl) dX8_parseApart_22 (fun H locs hM => ?_)
    clear ho
    obtain ⟨o5, ho, hf⟩ := m_calE hf
    refine z_callSNi X hM (c_X11_isFile ho) gX8_parseApart_X11_isFile_n113 nn_X8_parseApart_113.1.1 nn_X8_parseApart_113.1.2 nn_X8_parseApart_113.2 rfl ⟨rfl, rfl⟩ hd_X11_isFile ⟨Nat.le_of_ble_eq_true rfl, Nat.le_of_ble_eq_true rfl⟩ rfl hl.1 rfl (Nat.le_of_ble_eq_true rfl) dX8_parseApart_25 (fun H locs hM => ?_)
    clear ho
    refine lv_if_eq (tgt := 49) hx hb dX8_parseApart_28 (by decide) (fun cc1 => ?_) (fun cc1 => ?_)
    · replace hf := m_ifT hf cc1
      exact w_X8_parseApart_49 (x0 := x0) (x2 := x2) (x3 := x1) X hret hf hM (lv_sub hl [1, 3, 0] rfl)
    · replace hf := m_ifF hf cc1
      refine lv_aload_n hx hb dX8_parseApart_31 rfl (lv_at hl 1 rfl) ?_
      refine lv_aload_n hx hb dX8_parseApart_32 rfl (lv_at hl 1 rfl) ?_
      obtain ⟨ca, hf⟩ := m_chkE hf
      refine z_get (k := 8) (j := 1) (C := RX8) (T := TX8) (N := 12) (fl := zf_8) (v := va_rf (zP o5.2 1 x0)) X hw_X8_parseApart_8 hM rfl zc_8 ca (by decide) fl_X8_parseApart_8_1 rfl dX8_parseApart_33 ?_
      clear ca
      obtain ⟨b6, hb9, hf⟩ := m_calE hf
      refine z_topr hb9 ?_
      clear hb9
      refine lv_iload_n hx hb dX8_parseApart_36 rfl (lv_at hl 0 rfl) ?_
      obtain ⟨ca, hf⟩ := m_chkE hf
      obtain ⟨o7, ho, hf⟩ := m_calE hf
      refine z_callVi (k := 6) (C := RX6) (T := TX6) (N := 2) (fl := zf_6) X hM rfl zc_6 ca (c_X6_at ho) gX8_parseApart_X6_at rfl ⟨rfl, rfl⟩ hd_X6_at ⟨Nat.le_of_ble_eq_true rfl, Nat.le_of_ble_eq_true rfl⟩ rfl hl.1 rfl (Nat.le_of_ble_eq_true rfl) dX8_parseApart_37 (fun H locs hM => ?_)
      clear ho
      refine lv_bipush (v := (97 : Int32)) hx hb dX8_parseApart_40 (by decide) ?_
      refine lv_isub hx hb dX8_parseApart_42 ?_
      obtain ⟨v8, ev, hf⟩ := m_bndE hf
      refine m_top ev ?_
      clear ev
      obtain ⟨ca, hf⟩ := m_chkE hf
      refine z_putI (k := 8) (j := 4) (C := RX8) (T := TX8) (N := 12) (fl := zf_8) (ty := .int) X hw_X8_parseApart_8 tyX8_ok nmX8 hM rfl zc_8 ca (by decide) fl_X8_parseApart_8_4 rfl (tyX8_ok 4 (by decide)) rfl rfl zi_8_4 (Nat.le_of_ble_eq_true rfl) dX8_parseApart_43 (fun H locs hM => ?_)
      clear ca
      obtain ⟨S9, ev, hf⟩ := m_bndE hf
      replace hM := z_hS hM ev
      clear ev
      obtain ⟨v10, ev, hf⟩ := m_bndE hf
      refine lv_iinc (v := v10) (lv' := [(3, .int v10), (0, .ref x0), (1, .int x1), (2, .int x2)]) hx hb dX8_parseApart_46 hl (k := 0) rfl (by rw [ev]; rfl) (by decide) rfl (fun ls hl => ?_)
      clear ev
      exact w_X8_parseApart_49 (x0 := x0) (x2 := x2) (x3 := v10) X hret hf hM (lv_sub hl [1, 3, 0] rfl)
def f_X8_parseApart (x0 : Nat) (x1 : Int32) (x2 : Int32) (S : ZS) : Option (Int32 × ZS) := f_X8_parseApart_0 x0 x1 x2 S
theorem c_X8_parseApart {l : Launch} {D : va_G} {y : Nat → ClassId} {x0 : Nat} {x1 : Int32} {x2 : Int32} {S : ZS} {o : Int32 × ZS} (hf : f_X8_parseApart x0 x1 x2 S = some o) : zMi l yX8_parseApart wsX8_parseApart ({ frames := 1, cells := 0, slots := 0, locals := 21 } : Room) [.ref x0, .int x1, .int x2] D y S o :=
  z_entryI (own := RX8) (cc := cX8_parseApart) (maxL := 4) (by decide) rfl rfl (Nat.le_of_ble_eq_true rfl) (fun p e s m args below meth c A0 Q H locs ls X hret hM hl => w_X8_parseApart_0 X hret hf hM (lv_sub hl [0, 1, 2] rfl))
theorem hd_X8_parseApart : yX8_parseApart.cls = RX8 ∧ yX8_parseApart.cls ≠ "java/lang/invoke/MethodHandle" ∧ yX8_parseApart.cls ≠ "java/lang/invoke/VarHandle" ∧ (parseMethodDescriptor yX8_parseApart.desc).map (fun d => d.parameters.length) = some 2 := by decide +kernel
theorem fl_X8_parse_8_1 : Cond.fieldLink RX8 21 "MoveTexts$SignReader" "row" "LMoveTexts$Row;" ∈ wsX8_parse := by decide +kernel
theorem fl_X8_parse_8_2 : Cond.fieldLink RX8 86 "MoveTexts$SignReader" "castling" "I" ∈ wsX8_parse := by decide +kernel
theorem fl_X8_parse_8_3 : Cond.fieldLink RX8 93 "MoveTexts$SignReader" "kind" "I" ∈ wsX8_parse := by decide +kernel
theorem fl_X8_parse_8_6 : Cond.fieldLink RX8 100 "MoveTexts$SignReader" "to" "I" ∈ wsX8_parse := by decide +kernel
theorem fl_X8_parse_8_7 : Cond.fieldLink RX8 75 "MoveTexts$SignReader" "becomes" "I" ∈ wsX8_parse := by decide +kernel
theorem fl_X8_parse_8_8 : Cond.fieldLink RX8 56 "MoveTexts$SignReader" "taking" "I" ∈ wsX8_parse := by decide +kernel
theorem hw_X8_parse_8 : ∀ w ∈ wsX80, w ∈ wsX8_parse := by decide +kernel
theorem nn_X8_parse_89 : ((RX8, 89, yX11_kindOf, "MoveTexts") ∈ zNW ∧ Cond.initialized yX11_kindOf.cls ∈ wsX8_parse) ∧ Cond.static yX11_kindOf ∈ wsX8_parse := by decide +kernel
theorem nn_X8_parse_96 : ((RX8, 96, yX11_squareOf, "MoveTexts") ∈ zNW ∧ Cond.initialized yX11_squareOf.cls ∈ wsX8_parse) ∧ Cond.static yX11_squareOf ∈ wsX8_parse := by decide +kernel
theorem sr_X8_parse_78 : (RX8, 78, "O-O", 7) ∈ zSR := by decide +kernel
theorem sr_X8_parse_84 : (RX8, 84, "O-O-O", 8) ∈ zSR := by decide +kernel
def f_X8_parse_232 (x0 : Nat) (x1 : Int32) (x2 : Int32) (t0 : Int32) (t1 : Nat) (S : ZS) : Option (Int32 × ZS) :=
  m_chk (t1 ∈ zL S ∧ zK S t1 = 8) (
  m_bnd (zsI S 8 t1 t0) (fun S1 =>
  m_chk (x0 ∈ zL S1 ∧ zK S1 x0 = 8) (
  m_bnd (x2 - (zI S1 8 x0)) (fun v2 =>
  m_chk (x0 ∈ zL S1 ∧ zK S1 x0 = 8) (
  m_cal (f_X8_parseApart x0 x1 v2 S1) (fun o3 =>
  m_chk (vp_nar .boolean o3.1 = o3.1) (some (o3.1, o3.2))))))))

set_option maxRecDepth 100000 in
set_option maxHeartbeats 4000000 in
theorem w_X8_parse_232 {p : Program} {l : Launch} {e : Env} {s : State} {m : MethodId} {args : Array Value} {below : List Frame} {meth : Method} {c : Code} {Q : State → Prop} {D : va_G} {y : Nat → ClassId} {A0 : Nat → Prop} {o : Int32 × ZS} (X : CallFix p m c cX8_parse 3 s args wsX8_parse RX8) (hret : zRi p l e ({ frames := 6, cells := 0, slots := 0, locals := 129 } : Room) s m args below meth c Q cX8_parse D y A0 .boolean o) {x0 : Nat} {x1 : Int32} {x2 : Int32} {t0 : Int32} {t1 : Nat} {S : ZS} {H : Heap} {locs : List Loc} {ls : Array Slot} (hf : f_X8_parse_232 x0 x1 x2 t0 t1 S = some o) (hM : zH D y A0 s H locs S) (hl : lv_has ls 3 [(0, .ref x0), (1, .int x1), (2, .int x2)]) : W p l e ({ frames := 6, cells := 0, slots := 0, locals := 129 } : Room) s m args below meth c H locs 0 0 Q (F0 m 232 ls [.int t0, .ref t1]) := by
  obtain ⟨hx, hb, hml, hown, hts⟩ := id X
  unfold f_X8_parse_232 at hf
  obtain ⟨ca, hf⟩ := m_chkE hf
  refine z_putI (k := 8) (j := 8) (C := RX8) (T := TX8) (N := 12) (fl := zf_8) (ty := .int) X hw_X8_parse_8 tyX8_ok nmX8 hM rfl zc_8 ca (by decide) fl_X8_parse_8_8 rfl (tyX8_ok 8 (by decide)) rfl rfl zi_8_8 (Nat.le_of_ble_eq_true rfl) dX8_parse_232 (fun H locs hM => ?_)
  clear ca
  obtain ⟨S1, ev, hf⟩ := m_bndE hf
  replace hM := z_hS hM ev
  clear ev
  refine lv_aload_n hx hb dX8_parse_235 rfl (lv_at hl 0 rfl) ?_
  refine lv_iload_n hx hb dX8_parse_236 rfl (lv_at hl 1 rfl) ?_
  refine lv_iload_n hx hb dX8_parse_237 rfl (lv_at hl 2 rfl) ?_
  refine lv_aload_n hx hb dX8_parse_238 rfl (lv_at hl 0 rfl) ?_
  obtain ⟨ca, hf⟩ := m_chkE hf
  refine z_get (k := 8) (j := 8) (C := RX8) (T := TX8) (N := 12) (fl := zf_8) (v := .int (zI S1 8 x0)) X hw_X8_parse_8 hM rfl zc_8 ca (by decide) fl_X8_parse_8_8 rfl dX8_parse_239 ?_
  clear ca
  refine lv_isub hx hb dX8_parse_242 ?_
  obtain ⟨v2, ev, hf⟩ := m_bndE hf
  refine m_top ev ?_
  clear ev
  obtain ⟨ca, hf⟩ := m_chkE hf
  obtain ⟨o3, ho, hf⟩ := m_calE hf
  refine z_callVi (k := 8) (C := RX8) (T := TX8) (N := 12) (fl := zf_8) X hM rfl zc_8 ca (c_X8_parseApart ho) gX8_parse_X8_parseApart rfl ⟨rfl, rfl⟩ hd_X8_parseApart ⟨Nat.le_of_ble_eq_true rfl, Nat.le_of_ble_eq_true rfl⟩ rfl hl.1 rfl (Nat.le_of_ble_eq_true rfl) dX8_parse_243 (fun H locs hM => ?_)
  clear ho
  obtain ⟨cd, hf⟩ := m_chkE hf
  cases hf
  exact hret H locs _ ls hM (m_nb cd) dX8_parse_246
def f_X8_parse_231 (x0 : Nat) (x1 : Int32) (x2 : Int32) (t0 : Nat) (S : ZS) : Option (Int32 × ZS) :=
  f_X8_parse_232 x0 x1 x2 (0 : Int32) t0 S

set_option maxRecDepth 100000 in
set_option maxHeartbeats 4000000 in
theorem w_X8_parse_231 {p : Program} {l : Launch} {e : Env} {s : State} {m : MethodId} {args : Array Value} {below : List Frame} {meth : Method} {c : Code} {Q : State → Prop} {D : va_G} {y : Nat → ClassId} {A0 : Nat → Prop} {o : Int32 × ZS} (X : CallFix p m c cX8_parse 3 s args wsX8_parse RX8) (hret : zRi p l e ({ frames := 6, cells := 0, slots := 0, locals := 129 } : Room) s m args below meth c Q cX8_parse D y A0 .boolean o) {x0 : Nat} {x1 : Int32} {x2 : Int32} {t0 : Nat} {S : ZS} {H : Heap} {locs : List Loc} {ls : Array Slot} (hf : f_X8_parse_231 x0 x1 x2 t0 S = some o) (hM : zH D y A0 s H locs S) (hl : lv_has ls 3 [(0, .ref x0), (1, .int x1), (2, .int x2)]) : W p l e ({ frames := 6, cells := 0, slots := 0, locals := 129 } : Room) s m args below meth c H locs 0 0 Q (F0 m 231 ls [.ref t0]) := by
  obtain ⟨hx, hb, hml, hown, hts⟩ := id X
  unfold f_X8_parse_231 at hf
  refine lv_iconst (v := (0 : Int32)) hx hb dX8_parse_231 (by decide) ?_
  exact w_X8_parse_232 (x0 := x0) (x1 := x1) (x2 := x2) (t0 := (0 : Int32)) (t1 := t0) X hret hf hM (lv_sub hl [0, 1, 2] rfl)
def f_X8_parse_166 (x0 : Nat) (x1 : Int32) (x2 : Int32) (S : ZS) : Option (Int32 × ZS) :=
  m_chk (x0 ∈ zL S ∧ zK S x0 = 8) (
  m_cal (zP S 1 x0) (fun b1 =>
  m_bnd (x2 - (2 : Int32)) (fun v2 =>
  m_chk (b1 ∈ zL S ∧ zK S b1 = 6) (
  m_cal (f_X6_at b1 v2 S) (fun o3 =>
  m_chk (x0 ∈ zL o3.2 ∧ zK o3.2 x0 = 8) (
  m_cal (zP o3.2 1 x0) (fun b4 =>
  m_bnd (x2 - (1 : Int32)) (fun v5 =>
  m_chk (b4 ∈ zL o3.2 ∧ zK o3.2 b4 = 6) (
  m_cal (f_X6_at b4 v5 o3.2) (fun o6 =>
  m_cal (f_X11_squareOf o3.1 o6.1 o6.2) (fun o7 =>
  m_chk (x0 ∈ zL o7.2 ∧ zK o7.2 x0 = 8) (
  m_bnd (zsI o7.2 6 x0 o7.1) (fun S8 =>
  m_bnd (x2 + (-2 : Int32)) (fun v9 =>
  m_chk (x0 ∈ zL S8 ∧ zK S8 x0 = 8) (
  m_if ((zI S8 6 x0) = (-1 : Int32)) (
  m_chk (vp_nar .boolean (0 : Int32) = (0 : Int32)) (some ((0 : Int32), S8))
  ) (
  m_if (v9 ≤ x1) (
  f_X8_parse_231 x0 x1 v9 x0 S8
  ) (
  m_chk (x0 ∈ zL S8 ∧ zK S8 x0 = 8) (
  m_cal (zP S8 1 x0) (fun b10 =>
  m_bnd (v9 - (1 : Int32)) (fun v11 =>
  m_chk (b10 ∈ zL S8 ∧ zK S8 b10 = 6) (
  m_cal (f_X6_at b10 v11 S8) (fun o12 =>
  m_if (o12.1 = (120 : Int32)) (
  f_X8_parse_232 x0 x1 v9 (1 : Int32) x0 o12.2
  ) (
  f_X8_parse_231 x0 x1 v9 x0 o12.2
  ))))))
  )
  ))))))))))))))))

set_option maxRecDepth 100000 in
set_option maxHeartbeats 4000000 in
theorem w_X8_parse_166 {p : Program} {l : Launch} {e : Env} {s : State} {m : MethodId} {args : Array Value} {below : List Frame} {meth : Method} {c : Code} {Q : State → Prop} {D : va_G} {y : Nat → ClassId} {A0 : Nat → Prop} {o : Int32 × ZS} (X : CallFix p m c cX8_parse 3 s args wsX8_parse RX8) (hret : zRi p l e ({ frames := 6, cells := 0, slots := 0, locals := 129 } : Room) s m args below meth c Q cX8_parse D y A0 .boolean o) {x0 : Nat} {x1 : Int32} {x2 : Int32} {S : ZS} {H : Heap} {locs : List Loc} {ls : Array Slot} (hf : f_X8_parse_166 x0 x1 x2 S = some o) (hM : zH D y A0 s H locs S) (hl : lv_has ls 3 [(0, .ref x0), (1, .int x1), (2, .int x2)]) : W p l e ({ frames := 6, cells := 0, slots := 0, locals := 129 } : Room) s m args below meth c H locs 0 0 Q (F0 m 166 ls []) := by
  obtain ⟨hx, hb, hml, hown, hts⟩ := id X
  unfold f_X8_parse_166 at hf
  refine lv_aload_n hx hb dX8_parse_166 rfl (lv_at hl 0 rfl) ?_
  refine lv_aload_n hx hb dX8_parse_167 rfl (lv_at hl 0 rfl) ?_
  obtain ⟨ca, hf⟩ := m_chkE hf
  refine z_get (k := 8) (j := 1) (C := RX8) (T := TX8) (N := 12) (fl := zf_8) (v := va_rf (zP S 1 x0)) X hw_X8_parse_8 hM rfl zc_8 ca (by decide) fl_X8_parse_8_1 rfl dX8_parse_168 ?_
  clear ca
  obtain ⟨b1, hb9, hf⟩ := m_calE hf
  refine z_topr hb9 ?_
  clear hb9
  refine lv_iload_n hx hb dX8_parse_171 rfl (lv_at hl 2 rfl) ?_
  refine lv_iconst (v := (2 : Int32)) hx hb dX8_parse_172 (by decide) ?_
  refine lv_isub hx hb dX8_parse_173 ?_
  obtain ⟨v2, ev, hf⟩ := m_bndE hf
  refine m_top ev ?_
  clear ev
  obtain ⟨ca, hf⟩ := m_chkE hf
  obtain ⟨o3, ho, hf⟩ := m_calE hf
  refine z_callVi (k := 6) (C := RX6) (T := TX6) (N := 2) (fl := zf_6) X hM rfl zc_6 ca (c_X6_at ho) gX8_parse_X6_at rfl ⟨rfl, rfl⟩ hd_X6_at ⟨Nat.le_of_ble_eq_true rfl, Nat.le_of_ble_eq_true rfl⟩ rfl hl.1 rfl (Nat.le_of_ble_eq_true rfl) dX8_parse_174 (fun H locs hM => ?_)
  clear ho
  refine lv_aload_n hx hb dX8_parse_177 rfl (lv_at hl 0 rfl) ?_
  obtain ⟨ca, hf⟩ := m_chkE hf
  refine z_get (k := 8) (j := 1) (C := RX8) (T := TX8) (N := 12) (fl := zf_8) (v := va_rf (zP o3.2 1 x0)) X hw_X8_parse_8 hM rfl zc_8 ca (by decide) fl_X8_parse_8_1 rfl dX8_parse_178 ?_
  clear ca
  obtain ⟨b4, hb9, hf⟩ := m_calE hf
  refine z_topr hb9 ?_
  clear hb9
  refine lv_iload_n hx hb dX8_parse_181 rfl (lv_at hl 2 rfl) ?_
  refine lv_iconst (v := (1 : Int32)) hx hb dX8_parse_182 (by decide) ?_
  refine lv_isub hx hb dX8_parse_183 ?_
  obtain ⟨v5, ev, hf⟩ := m_bndE hf
  refine m_top ev ?_
  clear ev
  obtain ⟨ca, hf⟩ := m_chkE hf
  obtain ⟨o6, ho, hf⟩ := m_calE hf
  refine z_callVi (k := 6) (C := RX6) (T := TX6) (N := 2) (fl := zf_6) X hM rfl zc_6 ca (c_X6_at ho) gX8_parse_X6_at rfl ⟨rfl, rfl⟩ hd_X6_at ⟨Nat.le_of_ble_eq_true rfl, Nat.le_of_ble_eq_true rfl⟩ rfl hl.1 rfl (Nat.le_of_ble_eq_true rfl) dX8_parse_184 (fun H locs hM => ?_)
  clear ho
  obtain ⟨o7, ho, hf⟩ := m_calE hf
  refine z_callSNi X hM (c_X11_squareOf ho) gX8_parse_X11_squareOf_n96 nn_X8_parse_96.1.1 nn_X8_parse_96.1.2 nn_X8_parse_96.2 rfl ⟨rfl, rfl⟩ hd_X11_squareOf ⟨Nat.le_of_ble_eq_true rfl, Nat.le_of_ble_eq_true rfl⟩ rfl hl.1 rfl (Nat.le_of_ble_eq_true rfl) dX8_parse_187 (fun H locs hM => ?_)
  clear ho
  obtain ⟨ca, hf⟩ := m_chkE hf
  refine z_putI (k := 8) (j := 6) (C := RX8) (T := TX8) (N := 12) (fl := zf_8) (ty := .int) X hw_X8_parse_8 tyX8_ok nmX8 hM rfl zc_8 ca (by decide) fl_X8_parse_8_6 rfl (tyX8_ok 6 (by decide)) rfl rfl zi_8_6 (Nat.le_of_ble_eq_true rfl) dX8_parse_190 (fun H locs hM => ?_)
  clear ca
  obtain ⟨S8, ev, hf⟩ := m_bndE hf
  replace hM := z_hS hM ev
  clear ev
  obtain ⟨v9, ev, hf⟩ := m_bndE hf
  refine lv_iinc (v := v9) (lv' := [(2, .int v9), (0, .ref x0), (1, .int x1)]) hx hb dX8_parse_193 hl (k := 2) rfl (by rw [ev]; rfl) (by decide) rfl (fun ls hl => ?_)
  clear ev
  refine lv_aload_n hx hb dX8_parse_196 rfl (lv_at hl 1 rfl) ?_
  obtain ⟨ca, hf⟩ := m_chkE hf
  refine z_get (k := 8) (j := 6) (C := RX8) (T := TX8) (N := 12) (fl := zf_8) (v := .int (zI S8 6 x0)) X hw_X8_parse_8 hM rfl zc_8 ca (by decide) fl_X8_parse_8_6 rfl dX8_parse_197 ?_
  clear ca
  refine lv_iconst (v := (-1 : Int32)) hx hb dX8_parse_200 (by decide) ?_
  refine lv_icmp_ne (tgt := 206) hx hb dX8_parse_201 (by decide) (fun cc1 => ?_) (fun cc1 => ?_)
  · replace hf := m_ifF hf cc1
    refine lv_aload_n hx hb dX8_parse_206 rfl (lv_at hl 1 rfl) ?_
    refine lv_iload_n hx hb dX8_parse_207 rfl (lv_at hl 0 rfl) ?_
    refine lv_iload_n hx hb dX8_parse_208 rfl (lv_at hl 2 rfl) ?_
    refine lv_icmp_le (tgt := 231) hx hb dX8_parse_209 (by decide) (fun cc1 => ?_) (fun cc1 => ?_)
    · replace hf := m_ifT hf cc1
      exact w_X8_parse_231 (x0 := x0) (x1 := x1) (x2 := v9) (t0 := x0) X hret hf hM (lv_sub hl [1, 2, 0] rfl)
    · replace hf := m_ifF hf cc1
      refine lv_aload_n hx hb dX8_parse_212 rfl (lv_at hl 1 rfl) ?_
      obtain ⟨ca, hf⟩ := m_chkE hf
      refine z_get (k := 8) (j := 1) (C := RX8) (T := TX8) (N := 12) (fl := zf_8) (v := va_rf (zP S8 1 x0)) X hw_X8_parse_8 hM rfl zc_8 ca (by decide) fl_X8_parse_8_1 rfl dX8_parse_213 ?_
      clear ca
      obtain ⟨b10, hb9, hf⟩ := m_calE hf
      refine z_topr hb9 ?_
      clear hb9
      refine lv_iload_n hx hb dX8_parse_216 rfl (lv_at hl 0 rfl) ?_
      refine lv_iconst (v := (1 : Int32)) hx hb dX8_parse_217 (by decide) ?_
      refine lv_isub hx hb dX8_parse_218 ?_
      obtain ⟨v11, ev, hf⟩ := m_bndE hf
      refine m_top ev ?_
      clear ev
      obtain ⟨ca, hf⟩ := m_chkE hf
      obtain ⟨o12, ho, hf⟩ := m_calE hf
      refine z_callVi (k := 6) (C := RX6) (T := TX6) (N := 2) (fl := zf_6) X hM rfl zc_6 ca (c_X6_at ho) gX8_parse_X6_at rfl ⟨rfl, rfl⟩ hd_X6_at ⟨Nat.le_of_ble_eq_true rfl, Nat.le_of_ble_eq_true rfl⟩ rfl hl.1 rfl (Nat.le_of_ble_eq_true rfl) dX8_parse_219 (fun H locs hM => ?_)
      clear ho
      refine lv_bipush (v := (120 : Int32)) hx hb dX8_parse_222 (by decide) ?_
      refine lv_icmp_ne (tgt := 231) hx hb dX8_parse_224 (by decide) (fun cc1 => ?_) (fun cc1 => ?_)
      · replace hf := m_ifF hf cc1
        exact w_X8_parse_231 (x0 := x0) (x1 := x1) (x2 := v9) (t0 := x0) X hret hf hM (lv_sub hl [1, 2, 0] rfl)
      · replace hf := m_ifT hf cc1
        refine lv_iconst (v := (1 : Int32)) hx hb dX8_parse_227 (by decide) ?_
        refine lv_goto (tgt := 232) hx hb dX8_parse_228 (by decide) ?_
        exact w_X8_parse_232 (x0 := x0) (x1 := x1) (x2 := v9) (t0 := (1 : Int32)) (t1 := x0) X hret hf hM (lv_sub hl [1, 2, 0] rfl)
  · replace hf := m_ifT hf cc1
    refine lv_iconst (v := (0 : Int32)) hx hb dX8_parse_204 (by decide) ?_
    obtain ⟨cd, hf⟩ := m_chkE hf
    cases hf
    exact hret H locs _ ls hM (m_nb cd) dX8_parse_205
def f_X8_parse_161 (S : ZS) : Option (Int32 × ZS) :=
  m_chk (vp_nar .boolean (0 : Int32) = (0 : Int32)) (some ((0 : Int32), S))

set_option maxRecDepth 100000 in
set_option maxHeartbeats 4000000 in
theorem w_X8_parse_161 {p : Program} {l : Launch} {e : Env} {s : State} {m : MethodId} {args : Array Value} {below : List Frame} {meth : Method} {c : Code} {Q : State → Prop} {D : va_G} {y : Nat → ClassId} {A0 : Nat → Prop} {o : Int32 × ZS} (X : CallFix p m c cX8_parse 3 s args wsX8_parse RX8) (hret : zRi p l e ({ frames := 6, cells := 0, slots := 0, locals := 129 } : Room) s m args below meth c Q cX8_parse D y A0 .boolean o) {S : ZS} {H : Heap} {locs : List Loc} {ls : Array Slot} (hf : f_X8_parse_161  S = some o) (hM : zH D y A0 s H locs S) (hl : lv_has ls 3 []) : W p l e ({ frames := 6, cells := 0, slots := 0, locals := 129 } : Room) s m args below meth c H locs 0 0 Q (F0 m 161 ls []) := by
  obtain ⟨hx, hb, hml, hown, hts⟩ := id X
  unfold f_X8_parse_161 at hf
  refine lv_iconst (v := (0 : Int32)) hx hb dX8_parse_161 (by decide) ?_
  obtain ⟨cd, hf⟩ := m_chkE hf
  cases hf
  exact hret H locs _ ls hM (m_nb cd) dX8_parse_162
def f_X8_parse_102 (x0 : Nat) (x1 : Int32) (x2 : Int32) (t0 : Int32) (t1 : Nat) (S : ZS) : Option (Int32 × ZS) :=
  m_chk (t1 ∈ zL S ∧ zK S t1 = 8) (
  m_bnd (zsI S 3 t1 t0) (fun S1 =>
  m_chk (x0 ∈ zL S1 ∧ zK S1 x0 = 8) (
  m_if ((zI S1 3 x0) = (1 : Int32)) (
  m_chk (x0 ∈ zL S1 ∧ zK S1 x0 = 8) (
  m_cal (zP S1 1 x0) (fun b2 =>
  m_bnd (x2 - (2 : Int32)) (fun v3 =>
  m_chk (b2 ∈ zL S1 ∧ zK S1 b2 = 6) (
  m_cal (f_X6_at b2 v3 S1) (fun o4 =>
  m_if (o4.1 = (61 : Int32)) (
  m_chk (x0 ∈ zL o4.2 ∧ zK o4.2 x0 = 8) (
  m_cal (zP o4.2 1 x0) (fun b5 =>
  m_bnd (x2 - (1 : Int32)) (fun v6 =>
  m_chk (b5 ∈ zL o4.2 ∧ zK o4.2 b5 = 6) (
  m_cal (f_X6_at b5 v6 o4.2) (fun o7 =>
  m_cal (f_X11_kindOf o7.1 o7.2) (fun o8 =>
  m_chk (x0 ∈ zL o8.2 ∧ zK o8.2 x0 = 8) (
  m_bnd (zsI o8.2 7 x0 o8.1) (fun S9 =>
  m_chk (x0 ∈ zL S9 ∧ zK S9 x0 = 8) (
  m_if ((zI S9 7 x0) < (2 : Int32)) (
  f_X8_parse_161  S9
  ) (
  m_chk (x0 ∈ zL S9 ∧ zK S9 x0 = 8) (
  m_if ((zI S9 7 x0) ≤ (5 : Int32)) (
  m_bnd (x2 + (-2 : Int32)) (fun v10 =>
  f_X8_parse_166 x0 x1 v10 S9)
  ) (
  f_X8_parse_161  S9
  ))
  ))))))))))
  ) (
  f_X8_parse_166 x0 x1 x2 o4.2
  ))))))
  ) (
  f_X8_parse_166 x0 x1 x2 S1
  ))))

set_option maxRecDepth 100000 in
set_option maxHeartbeats 4000000 in
theorem w_X8_parse_102 {p : Program} {l : Launch} {e : Env} {s : State} {m : MethodId} {args : Array Value} {below : List Frame} {meth : Method} {c : Code} {Q : State → Prop} {D : va_G} {y : Nat → ClassId} {A0 : Nat → Prop} {o : Int32 × ZS} (X : CallFix p m c cX8_parse 3 s args wsX8_parse RX8) (hret : zRi p l e ({ frames := 6, cells := 0, slots := 0, locals := 129 } : Room) s m args below meth c Q cX8_parse D y A0 .boolean o) {x0 : Nat} {x1 : Int32} {x2 : Int32} {t0 : Int32} {t1 : Nat} {S : ZS} {H : Heap} {locs : List Loc} {ls : Array Slot} (hf : f_X8_parse_102 x0 x1 x2 t0 t1 S = some o) (hM : zH D y A0 s H locs S) (hl : lv_has ls 3 [(0, .ref x0), (1, .int x1), (2, .int x2)]) : W p l e ({ frames := 6, cells := 0, slots := 0, locals := 129 } : Room) s m args below meth c H locs 0 0 Q (F0 m 102 ls [.int t0, .ref t1]) := by
  obtain ⟨hx, hb, hml, hown, hts⟩ := id X
  unfold f_X8_parse_102 at hf
  obtain ⟨ca, hf⟩ := m_chkE hf
  refine z_putI (k := 8) (j := 3) (C := RX8) (T := TX8) (N := 12) (fl := zf_8) (ty := .int) X hw_X8_parse_8 tyX8_ok nmX8 hM rfl zc_8 ca (by decide) fl_X8_parse_8_3 rfl (tyX8_ok 3 (by decide)) rfl rfl zi_8_3 (Nat.le_of_ble_eq_true rfl) dX8_parse_102 (fun H locs hM => ?_)
  clear ca
  obtain ⟨S1, ev, hf⟩ := m_bndE hf
  replace hM := z_hS hM ev
  clear ev
  refine lv_aload_n hx hb dX8_parse_105 rfl (lv_at hl 0 rfl) ?_
  obtain ⟨ca, hf⟩ := m_chkE hf
  refine z_get (k := 8) (j := 3) (C := RX8) (T := TX8) (N := 12) (fl := zf_8) (v := .int (zI S1 3 x0)) X hw_X8_parse_8 hM rfl zc_8 ca (by decide) fl_X8_parse_8_3 rfl dX8_parse_106 ?_
  clear ca
  refine lv_iconst (v := (1 : Int32)) hx hb dX8_parse_109 (by decide) ?_
  refine lv_icmp_ne (tgt := 166) hx hb dX8_parse_110 (by decide) (fun cc1 => ?_) (fun cc1 => ?_)
  · replace hf := m_ifF hf cc1
    exact w_X8_parse_166 (x0 := x0) (x1 := x1) (x2 := x2) X hret hf hM (lv_sub hl [0, 1, 2] rfl)
  · replace hf := m_ifT hf cc1
    refine lv_aload_n hx hb dX8_parse_113 rfl (lv_at hl 0 rfl) ?_
    obtain ⟨ca, hf⟩ := m_chkE hf
    refine z_get (k := 8) (j := 1) (C := RX8) (T := TX8) (N := 12) (fl := zf_8) (v := va_rf (zP S1 1 x0)) X hw_X8_parse_8 hM rfl zc_8 ca (by decide) fl_X8_parse_8_1 rfl dX8_parse_114 ?_
    clear ca
    obtain ⟨b2, hb9, hf⟩ := m_calE hf
    refine z_topr hb9 ?_
    clear hb9
    refine lv_iload_n hx hb dX8_parse_117 rfl (lv_at hl 2 rfl) ?_
    refine lv_iconst (v := (2 : Int32)) hx hb dX8_parse_118 (by decide) ?_
    refine lv_isub hx hb dX8_parse_119 ?_
    obtain ⟨v3, ev, hf⟩ := m_bndE hf
    refine m_top ev ?_
    clear ev
    obtain ⟨ca, hf⟩ := m_chkE hf
    obtain ⟨o4, ho, hf⟩ := m_calE hf
    refine z_callVi (k := 6) (C := RX6) (T := TX6) (N := 2) (fl := zf_6) X hM rfl zc_6 ca (c_X6_at ho) gX8_parse_X6_at rfl ⟨rfl, rfl⟩ hd_X6_at ⟨Nat.le_of_ble_eq_true rfl, Nat.le_of_ble_eq_true rfl⟩ rfl hl.1 rfl (Nat.le_of_ble_eq_true rfl) dX8_parse_120 (fun H locs hM => ?_)
    clear ho
    refine lv_bipush (v := (61 : Int32)) hx hb dX8_parse_123 (by decide) ?_
    refine lv_icmp_ne (tgt := 166) hx hb dX8_parse_125 (by decide) (fun cc1 => ?_) (fun cc1 => ?_)
    · replace hf := m_ifF hf cc1
      exact w_X8_parse_166 (x0 := x0) (x1 := x1) (x2 := x2) X hret hf hM (lv_sub hl [0, 1, 2] rfl)
    · replace hf := m_ifT hf cc1
      refine lv_aload_n hx hb dX8_parse_128 rfl (lv_at hl 0 rfl) ?_
      refine lv_aload_n hx hb dX8_parse_129 rfl (lv_at hl 0 rfl) ?_
      obtain ⟨ca, hf⟩ := m_chkE hf
      refine z_get (k := 8) (j := 1) (C := RX8) (T := TX8) (N := 12) (fl := zf_8) (v := va_rf (zP o4.2 1 x0)) X hw_X8_parse_8 hM rfl zc_8 ca (by decide) fl_X8_parse_8_1 rfl dX8_parse_130 ?_
      clear ca
      obtain ⟨b5, hb9, hf⟩ := m_calE hf
      refine z_topr hb9 ?_
      clear hb9
      refine lv_iload_n hx hb dX8_parse_133 rfl (lv_at hl 2 rfl) ?_
      refine lv_iconst (v := (1 : Int32)) hx hb dX8_parse_134 (by decide) ?_
      refine lv_isub hx hb dX8_parse_135 ?_
      obtain ⟨v6, ev, hf⟩ := m_bndE hf
      refine m_top ev ?_
      clear ev
      obtain ⟨ca, hf⟩ := m_chkE hf
      obtain ⟨o7, ho, hf⟩ := m_calE hf
      refine z_callVi (k := 6) (C := RX6) (T := TX6) (N := 2) (fl := zf_6) X hM rfl zc_6 ca (c_X6_at ho) gX8_parse_X6_at rfl ⟨rfl, rfl⟩ hd_X6_at ⟨Nat.le_of_ble_eq_true rfl, Nat.le_of_ble_eq_true rfl⟩ rfl hl.1 rfl (Nat.le_of_ble_eq_true rfl) dX8_parse_136 (fun H locs hM => ?_)
      clear ho
      obtain ⟨o8, ho, hf⟩ := m_calE hf
      refine z_callSNi X hM (c_X11_kindOf ho) gX8_parse_X11_kindOf_n89 nn_X8_parse_89.1.1 nn_X8_parse_89.1.2 nn_X8_parse_89.2 rfl ⟨rfl, rfl⟩ hd_X11_kindOf ⟨Nat.le_of_ble_eq_true rfl, Nat.le_of_ble_eq_true rfl⟩ rfl hl.1 rfl (Nat.le_of_ble_eq_true rfl) dX8_parse_139 (fun H locs hM => ?_)
      clear ho
      obtain ⟨ca, hf⟩ := m_chkE hf
      refine z_putI (k := 8) (j := 7) (C := RX8) (T := TX8) (N := 12) (fl := zf_8) (ty := .int) X hw_X8_parse_8 tyX8_ok nmX8 hM rfl zc_8 ca (by decide) fl_X8_parse_8_7 rfl (tyX8_ok 7 (by decide)) rfl rfl zi_8_7 (Nat.le_of_ble_eq_true rfl) dX8_parse_142 (fun H locs hM => ?_)
      clear ca
      obtain ⟨S9, ev, hf⟩ := m_bndE hf
      replace hM := z_hS hM ev
      clear ev
      refine lv_aload_n hx hb dX8_parse_145 rfl (lv_at hl 0 rfl) ?_
      obtain ⟨ca, hf⟩ := m_chkE hf
      refine z_get (k := 8) (j := 7) (C := RX8) (T := TX8) (N := 12) (fl := zf_8) (v := .int (zI S9 7 x0)) X hw_X8_parse_8 hM rfl zc_8 ca (by decide) fl_X8_parse_8_7 rfl dX8_parse_146 ?_
      clear ca
      refine lv_iconst (v := (2 : Int32)) hx hb dX8_parse_149 (by decide) ?_
      refine lv_icmp_lt (tgt := 161) hx hb dX8_parse_150 (by decide) (fun cc1 => ?_) (fun cc1 => ?_)
      · replace hf := m_ifT hf cc1
        exact w_X8_parse_161 X hret hf hM (lv_sub hl [] rfl)
      · replace hf := m_ifF hf cc1
        refine lv_aload_n hx hb dX8_parse_153 rfl (lv_at hl 0 rfl) ?_
        obtain ⟨ca, hf⟩ := m_chkE hf
        refine z_get (k := 8) (j := 7) (C := RX8) (T := TX8) (N := 12) (fl := zf_8) (v := .int (zI S9 7 x0)) X hw_X8_parse_8 hM rfl zc_8 ca (by decide) fl_X8_parse_8_7 rfl dX8_parse_154 ?_
        clear ca
        refine lv_iconst (v := (5 : Int32)) hx hb dX8_parse_157 (by decide) ?_
        refine lv_icmp_le (tgt := 163) hx hb dX8_parse_158 (by decide) (fun cc1 => ?_) (fun cc1 => ?_)
        · replace hf := m_ifT hf cc1
          obtain ⟨v10, ev, hf⟩ := m_bndE hf
          refine lv_iinc (v := v10) (lv' := [(2, .int v10), (0, .ref x0), (1, .int x1)]) hx hb dX8_parse_163 hl (k := 2) rfl (by rw [ev]; rfl) (by decide) rfl (fun ls hl => ?_)
          clear ev
          exact w_X8_parse_166 (x0 := x0) (x1 := x1) (x2 := v10) X hret hf hM (lv_sub hl [1, 2, 0] rfl)
        · replace hf := m_ifF hf cc1
          exact w_X8_parse_161 X hret hf hM (lv_sub hl [] rfl)
def f_X8_parse_72 (x0 : Nat) (t0 : Int32) (S : ZS) : Option (Int32 × ZS) :=
  m_chk (x0 ∈ zL S ∧ zK S x0 = 8) (
  m_cal (zP S 1 x0) (fun b1 =>
  m_chk (b1 ∈ zL S ∧ zK S b1 = 6) (
  m_cal (f_X6_size b1 S) (fun o2 =>
  m_if (t0 = (1 : Int32)) (
  m_chk (x0 ∈ zL o2.2 ∧ zK o2.2 x0 = 8) (
  m_cal (zP o2.2 1 x0) (fun b3 =>
  m_chk (b3 ∈ zL o2.2 ∧ zK o2.2 b3 = 6) (
  m_cal (f_X6_at b3 (0 : Int32) o2.2) (fun o4 =>
  m_cal (f_X11_kindOf o4.1 o4.2) (fun o5 =>
  f_X8_parse_102 x0 t0 o2.1 o5.1 x0 o5.2)))))
  ) (
  f_X8_parse_102 x0 t0 o2.1 (1 : Int32) x0 o2.2
  )))))

set_option maxRecDepth 100000 in
set_option maxHeartbeats 4000000 in
theorem w_X8_parse_72 {p : Program} {l : Launch} {e : Env} {s : State} {m : MethodId} {args : Array Value} {below : List Frame} {meth : Method} {c : Code} {Q : State → Prop} {D : va_G} {y : Nat → ClassId} {A0 : Nat → Prop} {o : Int32 × ZS} (X : CallFix p m c cX8_parse 3 s args wsX8_parse RX8) (hret : zRi p l e ({ frames := 6, cells := 0, slots := 0, locals := 129 } : Room) s m args below meth c Q cX8_parse D y A0 .boolean o) {x0 : Nat} {t0 : Int32} {S : ZS} {H : Heap} {locs : List Loc} {ls : Array Slot} (hf : f_X8_parse_72 x0 t0 S = some o) (hM : zH D y A0 s H locs S) (hl : lv_has ls 3 [(0, .ref x0)]) : W p l e ({ frames := 6, cells := 0, slots := 0, locals := 129 } : Room) s m args below meth c H locs 0 0 Q (F0 m 72 ls [.int t0]) := by
  obtain ⟨hx, hb, hml, hown, hts⟩ := id X
  unfold f_X8_parse_72 at hf
  refine lv_istore_n (lv' := [(1, .int t0), (0, .ref x0)]) hx hb dX8_parse_72 rfl hl (by decide) rfl (fun ls hl => ?_)
  refine lv_aload_n hx hb dX8_parse_73 rfl (lv_at hl 1 rfl) ?_
  obtain ⟨ca, hf⟩ := m_chkE hf
  refine z_get (k := 8) (j := 1) (C := RX8) (T := TX8) (N := 12) (fl := zf_8) (v := va_rf (zP S 1 x0)) X hw_X8_parse_8 hM rfl zc_8 ca (by decide) fl_X8_parse_8_1 rfl dX8_parse_74 ?_
  clear ca
  obtain ⟨b1, hb9, hf⟩ := m_calE hf
  refine z_topr hb9 ?_
  clear hb9
  obtain ⟨ca, hf⟩ := m_chkE hf
  obtain ⟨o2, ho, hf⟩ := m_calE hf
  refine z_callVi (k := 6) (C := RX6) (T := TX6) (N := 2) (fl := zf_6) X hM rfl zc_6 ca (c_X6_size ho) gX8_parse_X6_size rfl ⟨rfl, rfl⟩ hd_X6_size ⟨Nat.le_of_ble_eq_true rfl, Nat.le_of_ble_eq_true rfl⟩ rfl hl.1 rfl (Nat.le_of_ble_eq_true rfl) dX8_parse_77 (fun H locs hM => ?_)
  clear ho
  refine lv_istore_n (lv' := [(2, .int o2.1), (1, .int t0), (0, .ref x0)]) hx hb dX8_parse_80 rfl hl (by decide) rfl (fun ls hl => ?_)
  refine lv_aload_n hx hb dX8_parse_81 rfl (lv_at hl 2 rfl) ?_
  refine lv_iload_n hx hb dX8_parse_82 rfl (lv_at hl 1 rfl) ?_
  refine lv_iconst (v := (1 : Int32)) hx hb dX8_parse_83 (by decide) ?_
  refine lv_icmp_ne (tgt := 101) hx hb dX8_parse_84 (by decide) (fun cc1 => ?_) (fun cc1 => ?_)
  · replace hf := m_ifF hf cc1
    refine lv_iconst (v := (1 : Int32)) hx hb dX8_parse_101 (by decide) ?_
    exact w_X8_parse_102 (x0 := x0) (x1 := t0) (x2 := o2.1) (t0 := (1 : Int32)) (t1 := x0) X hret hf hM (lv_sub hl [2, 1, 0] rfl)
  · replace hf := m_ifT hf cc1
    refine lv_aload_n hx hb dX8_parse_87 rfl (lv_at hl 2 rfl) ?_
    obtain ⟨ca, hf⟩ := m_chkE hf
    refine z_get (k := 8) (j := 1) (C := RX8) (T := TX8) (N := 12) (fl := zf_8) (v := va_rf (zP o2.2 1 x0)) X hw_X8_parse_8 hM rfl zc_8 ca (by decide) fl_X8_parse_8_1 rfl dX8_parse_88 ?_
    clear ca
    obtain ⟨b3, hb9, hf⟩ := m_calE hf
    refine z_topr hb9 ?_
    clear hb9
    refine lv_iconst (v := (0 : Int32)) hx hb dX8_parse_91 (by decide) ?_
    obtain ⟨ca, hf⟩ := m_chkE hf
    obtain ⟨o4, ho, hf⟩ := m_calE hf
    refine z_callVi (k := 6) (C := RX6) (T := TX6) (N := 2) (fl := zf_6) X hM rfl zc_6 ca (c_X6_at ho) gX8_parse_X6_at rfl ⟨rfl, rfl⟩ hd_X6_at ⟨Nat.le_of_ble_eq_true rfl, Nat.le_of_ble_eq_true rfl⟩ rfl hl.1 rfl (Nat.le_of_ble_eq_true rfl) dX8_parse_92 (fun H locs hM => ?_)
    clear ho
    obtain ⟨o5, ho, hf⟩ := m_calE hf
    refine z_callSNi X hM (c_X11_kindOf ho) gX8_parse_X11_kindOf_n89 nn_X8_parse_89.1.1 nn_X8_parse_89.1.2 nn_X8_parse_89.2 rfl ⟨rfl, rfl⟩ hd_X11_kindOf ⟨Nat.le_of_ble_eq_true rfl, Nat.le_of_ble_eq_true rfl⟩ rfl hl.1 rfl (Nat.le_of_ble_eq_true rfl) dX8_parse_95 (fun H locs hM => ?_)
    clear ho
    refine lv_goto (tgt := 102) hx hb dX8_parse_98 (by decide) ?_
    exact w_X8_parse_102 (x0 := x0) (x1 := t0) (x2 := o2.1) (t0 := o5.1) (t1 := x0) X hret hf hM (lv_sub hl [2, 1, 0] rfl)
def f_X8_parse_40 (x0 : Nat) (t0 : Int32) (t1 : Nat) (S : ZS) : Option (Int32 × ZS) :=
  m_chk (t1 ∈ zL S ∧ zK S t1 = 8) (
  m_bnd (zsI S 2 t1 t0) (fun S1 =>
  m_chk (x0 ∈ zL S1 ∧ zK S1 x0 = 8) (
  m_if ((zI S1 2 x0) = 0) (
  m_chk (x0 ∈ zL S1 ∧ zK S1 x0 = 8) (
  m_cal (zP S1 1 x0) (fun b2 =>
  m_chk (b2 ∈ zL S1 ∧ zK S1 b2 = 6) (
  m_cal (f_X6_at b2 (0 : Int32) S1) (fun o3 =>
  m_cal (f_X11_kindOf o3.1 o3.2) (fun o4 =>
  m_if (o4.1 < (2 : Int32)) (
  f_X8_parse_72 x0 (0 : Int32) o4.2
  ) (
  f_X8_parse_72 x0 (1 : Int32) o4.2
  ))))))
  ) (
  m_chk (vp_nar .boolean (1 : Int32) = (1 : Int32)) (some ((1 : Int32), S1))
  ))))

set_option maxRecDepth 100000 in
set_option maxHeartbeats 4000000 in
theorem w_X8_parse_40 {p : Program} {l : Launch} {e : Env} {s : State} {m : MethodId} {args : Array Value} {below : List Frame} {meth : Method} {c : Code} {Q : State → Prop} {D : va_G} {y : Nat → ClassId} {A0 : Nat → Prop} {o : Int32 × ZS} (X : CallFix p m c cX8_parse 3 s args wsX8_parse RX8) (hret : zRi p l e ({ frames := 6, cells := 0, slots := 0, locals := 129 } : Room) s m args below meth c Q cX8_parse D y A0 .boolean o) {x0 : Nat} {t0 : Int32} {t1 : Nat} {S : ZS} {H : Heap} {locs : List Loc} {ls : Array Slot} (hf : f_X8_parse_40 x0 t0 t1 S = some o) (hM : zH D y A0 s H locs S) (hl : lv_has ls 3 [(0, .ref x0)]) : W p l e ({ frames := 6, cells := 0, slots := 0, locals := 129 } : Room) s m args below meth c H locs 0 0 Q (F0 m 40 ls [.int t0, .ref t1]) := by
  obtain ⟨hx, hb, hml, hown, hts⟩ := id X
  unfold f_X8_parse_40 at hf
  obtain ⟨ca, hf⟩ := m_chkE hf
  refine z_putI (k := 8) (j := 2) (C := RX8) (T := TX8) (N := 12) (fl := zf_8) (ty := .int) X hw_X8_parse_8 tyX8_ok nmX8 hM rfl zc_8 ca (by decide) fl_X8_parse_8_2 rfl (tyX8_ok 2 (by decide)) rfl rfl zi_8_2 (Nat.le_of_ble_eq_true rfl) dX8_parse_40 (fun H locs hM => ?_)
  clear ca
  obtain ⟨S1, ev, hf⟩ := m_bndE hf
  replace hM := z_hS hM ev
  clear ev
  refine lv_aload_n hx hb dX8_parse_43 rfl (lv_at hl 0 rfl) ?_
  obtain ⟨ca, hf⟩ := m_chkE hf
  refine z_get (k := 8) (j := 2) (C := RX8) (T := TX8) (N := 12) (fl := zf_8) (v := .int (zI S1 2 x0)) X hw_X8_parse_8 hM rfl zc_8 ca (by decide) fl_X8_parse_8_2 rfl dX8_parse_44 ?_
  clear ca
  refine lv_if_eq (tgt := 52) hx hb dX8_parse_47 (by decide) (fun cc1 => ?_) (fun cc1 => ?_)
  · replace hf := m_ifT hf cc1
    refine lv_aload_n hx hb dX8_parse_52 rfl (lv_at hl 0 rfl) ?_
    obtain ⟨ca, hf⟩ := m_chkE hf
    refine z_get (k := 8) (j := 1) (C := RX8) (T := TX8) (N := 12) (fl := zf_8) (v := va_rf (zP S1 1 x0)) X hw_X8_parse_8 hM rfl zc_8 ca (by decide) fl_X8_parse_8_1 rfl dX8_parse_53 ?_
    clear ca
    obtain ⟨b2, hb9, hf⟩ := m_calE hf
    refine z_topr hb9 ?_
    clear hb9
    refine lv_iconst (v := (0 : Int32)) hx hb dX8_parse_56 (by decide) ?_
    obtain ⟨ca, hf⟩ := m_chkE hf
    obtain ⟨o3, ho, hf⟩ := m_calE hf
    refine z_callVi (k := 6) (C := RX6) (T := TX6) (N := 2) (fl := zf_6) X hM rfl zc_6 ca (c_X6_at ho) gX8_parse_X6_at rfl ⟨rfl, rfl⟩ hd_X6_at ⟨Nat.le_of_ble_eq_true rfl, Nat.le_of_ble_eq_true rfl⟩ rfl hl.1 rfl (Nat.le_of_ble_eq_true rfl) dX8_parse_57 (fun H locs hM => ?_)
    clear ho
    obtain ⟨o4, ho, hf⟩ := m_calE hf
    refine z_callSNi X hM (c_X11_kindOf ho) gX8_parse_X11_kindOf_n89 nn_X8_parse_89.1.1 nn_X8_parse_89.1.2 nn_X8_parse_89.2 rfl ⟨rfl, rfl⟩ hd_X11_kindOf ⟨Nat.le_of_ble_eq_true rfl, Nat.le_of_ble_eq_true rfl⟩ rfl hl.1 rfl (Nat.le_of_ble_eq_true rfl) dX8_parse_60 (fun H locs hM => ?_)
    clear ho
    refine lv_iconst (v := (2 : Int32)) hx hb dX8_parse_63 (by decide) ?_
    refine lv_icmp_lt (tgt := 71) hx hb dX8_parse_64 (by decide) (fun cc1 => ?_) (fun cc1 => ?_)
    · replace hf := m_ifT hf cc1
      refine lv_iconst (v := (0 : Int32)) hx hb dX8_parse_71 (by decide) ?_
      exact w_X8_parse_72 (x0 := x0) (t0 := (0 : Int32)) X hret hf hM (lv_sub hl [0] rfl)
    · replace hf := m_ifF hf cc1
      refine lv_iconst (v := (1 : Int32)) hx hb dX8_parse_67 (by decide) ?_
      refine lv_goto (tgt := 72) hx hb dX8_parse_68 (by decide) ?_
      exact w_X8_parse_72 (x0 := x0) (t0 := (1 : Int32)) X hret hf hM (lv_sub hl [0] rfl)
  · replace hf := m_ifF hf cc1
    refine lv_iconst (v := (1 : Int32)) hx hb dX8_parse_50 (by decide) ?_
    obtain ⟨cd, hf⟩ := m_chkE hf
    cases hf
    exact hret H locs _ ls hM (m_nb cd) dX8_parse_51
def f_X8_parse_0 (x0 : Nat) (S : ZS) : Option (Int32 × ZS) :=
  m_chk (x0 ∈ zL S ∧ zK S x0 = 8) (
  m_bnd (zsI S 7 x0 (0 : Int32)) (fun S1 =>
  m_chk (x0 ∈ zL S1 ∧ zK S1 x0 = 8) (
  m_cal (zP S1 1 x0) (fun b2 =>
  m_chk (b2 ∈ zL S1 ∧ zK S1 b2 = 6) (
  m_cal (f_X6_is b2 7 S1) (fun o3 =>
  m_if (o3.1 = 0) (
  m_chk (x0 ∈ zL o3.2 ∧ zK o3.2 x0 = 8) (
  m_cal (zP o3.2 1 x0) (fun b4 =>
  m_chk (b4 ∈ zL o3.2 ∧ zK o3.2 b4 = 6) (
  m_cal (f_X6_is b4 8 o3.2) (fun o5 =>
  m_if (o5.1 = 0) (
  f_X8_parse_40 x0 (0 : Int32) x0 o5.2
  ) (
  f_X8_parse_40 x0 (-2 : Int32) x0 o5.2
  )))))
  ) (
  f_X8_parse_40 x0 (2 : Int32) x0 o3.2
  )))))))

set_option maxRecDepth 100000 in
set_option maxHeartbeats 4000000 in
theorem w_X8_parse_0 {p : Program} {l : Launch} {e : Env} {s : State} {m : MethodId} {args : Array Value} {below : List Frame} {meth : Method} {c : Code} {Q : State → Prop} {D : va_G} {y : Nat → ClassId} {A0 : Nat → Prop} {o : Int32 × ZS} (X : CallFix p m c cX8_parse 3 s args wsX8_parse RX8) (hret : zRi p l e ({ frames := 6, cells := 0, slots := 0, locals := 129 } : Room) s m args below meth c Q cX8_parse D y A0 .boolean o) {x0 : Nat} {S : ZS} {H : Heap} {locs : List Loc} {ls : Array Slot} (hf : f_X8_parse_0 x0 S = some o) (hM : zH D y A0 s H locs S) (hl : lv_has ls 3 [(0, .ref x0)]) : W p l e ({ frames := 6, cells := 0, slots := 0, locals := 129 } : Room) s m args below meth c H locs 0 0 Q (F0 m 0 ls []) := by
  obtain ⟨hx, hb, hml, hown, hts⟩ := id X
  unfold f_X8_parse_0 at hf
  refine lv_aload_n hx hb dX8_parse_0 rfl (lv_at hl 0 rfl) ?_
  refine lv_iconst (v := (0 : Int32)) hx hb dX8_parse_1 (by decide) ?_
  obtain ⟨ca, hf⟩ := m_chkE hf
  refine z_putI (k := 8) (j := 7) (C := RX8) (T := TX8) (N := 12) (fl := zf_8) (ty := .int) X hw_X8_parse_8 tyX8_ok nmX8 hM rfl zc_8 ca (by decide) fl_X8_parse_8_7 rfl (tyX8_ok 7 (by decide)) rfl rfl zi_8_7 (Nat.le_of_ble_eq_true rfl) dX8_parse_2 (fun H locs hM => ?_)
  clear ca
  obtain ⟨S1, ev, hf⟩ := m_bndE hf
  replace hM := z_hS hM ev
  clear ev
  refine lv_aload_n hx hb dX8_parse_5 rfl (lv_at hl 0 rfl) ?_
  refine lv_aload_n hx hb dX8_parse_6 rfl (lv_at hl 0 rfl) ?_
  obtain ⟨ca, hf⟩ := m_chkE hf
  refine z_get (k := 8) (j := 1) (C := RX8) (T := TX8) (N := 12) (fl := zf_8) (v := va_rf (zP S1 1 x0)) X hw_X8_parse_8 hM rfl zc_8 ca (by decide) fl_X8_parse_8_1 rfl dX8_parse_7 ?_
  clear ca
  obtain ⟨b2, hb9, hf⟩ := m_calE hf
  refine z_topr hb9 ?_
  clear hb9
  refine z_ldcS X hM sr_X8_parse_78 dX8_parse_10 ?_
  obtain ⟨ca, hf⟩ := m_chkE hf
  obtain ⟨o3, ho, hf⟩ := m_calE hf
  refine z_callVi (k := 6) (C := RX6) (T := TX6) (N := 2) (fl := zf_6) X hM rfl zc_6 ca (c_X6_is ho) gX8_parse_X6_is rfl ⟨rfl, rfl⟩ hd_X6_is ⟨Nat.le_of_ble_eq_true rfl, Nat.le_of_ble_eq_true rfl⟩ rfl hl.1 rfl (Nat.le_of_ble_eq_true rfl) dX8_parse_12 (fun H locs hM => ?_)
  clear ho
  refine lv_if_eq (tgt := 22) hx hb dX8_parse_15 (by decide) (fun cc1 => ?_) (fun cc1 => ?_)
  · replace hf := m_ifT hf cc1
    refine lv_aload_n hx hb dX8_parse_22 rfl (lv_at hl 0 rfl) ?_
    obtain ⟨ca, hf⟩ := m_chkE hf
    refine z_get (k := 8) (j := 1) (C := RX8) (T := TX8) (N := 12) (fl := zf_8) (v := va_rf (zP o3.2 1 x0)) X hw_X8_parse_8 hM rfl zc_8 ca (by decide) fl_X8_parse_8_1 rfl dX8_parse_23 ?_
    clear ca
    obtain ⟨b4, hb9, hf⟩ := m_calE hf
    refine z_topr hb9 ?_
    clear hb9
    refine z_ldcS X hM sr_X8_parse_84 dX8_parse_26 ?_
    obtain ⟨ca, hf⟩ := m_chkE hf
    obtain ⟨o5, ho, hf⟩ := m_calE hf
    refine z_callVi (k := 6) (C := RX6) (T := TX6) (N := 2) (fl := zf_6) X hM rfl zc_6 ca (c_X6_is ho) gX8_parse_X6_is rfl ⟨rfl, rfl⟩ hd_X6_is ⟨Nat.le_of_ble_eq_true rfl, Nat.le_of_ble_eq_true rfl⟩ rfl hl.1 rfl (Nat.le_of_ble_eq_true rfl) dX8_parse_28 (fun H locs hM => ?_)
    clear ho
    refine lv_if_eq (tgt := 39) hx hb dX8_parse_31 (by decide) (fun cc1 => ?_) (fun cc1 => ?_)
    · replace hf := m_ifT hf cc1
      refine lv_iconst (v := (0 : Int32)) hx hb dX8_parse_39 (by decide) ?_
      exact w_X8_parse_40 (x0 := x0) (t0 := (0 : Int32)) (t1 := x0) X hret hf hM (lv_sub hl [0] rfl)
    · replace hf := m_ifF hf cc1
      refine lv_bipush (v := (-2 : Int32)) hx hb dX8_parse_34 (by decide) ?_
      refine lv_goto (tgt := 40) hx hb dX8_parse_36 (by decide) ?_
      exact w_X8_parse_40 (x0 := x0) (t0 := (-2 : Int32)) (t1 := x0) X hret hf hM (lv_sub hl [0] rfl)
  · replace hf := m_ifF hf cc1
    refine lv_iconst (v := (2 : Int32)) hx hb dX8_parse_18 (by decide) ?_
    refine lv_goto (tgt := 40) hx hb dX8_parse_19 (by decide) ?_
    exact w_X8_parse_40 (x0 := x0) (t0 := (2 : Int32)) (t1 := x0) X hret hf hM (lv_sub hl [0] rfl)
def f_X8_parse (x0 : Nat) (S : ZS) : Option (Int32 × ZS) := f_X8_parse_0 x0 S
theorem c_X8_parse {l : Launch} {D : va_G} {y : Nat → ClassId} {x0 : Nat} {S : ZS} {o : Int32 × ZS} (hf : f_X8_parse x0 S = some o) : zMi l yX8_parse wsX8_parse ({ frames := 6, cells := 0, slots := 0, locals := 129 } : Room) [.ref x0] D y S o :=
  z_entryI (own := RX8) (cc := cX8_parse) (maxL := 3) (by decide) rfl rfl (Nat.le_of_ble_eq_true rfl) (fun p e s m args below meth c A0 Q H locs ls X hret hM hl => w_X8_parse_0 X hret hf hM (lv_sub hl [0] rfl))
theorem hd_X8_parse : yX8_parse.cls = RX8 ∧ yX8_parse.cls ≠ "java/lang/invoke/MethodHandle" ∧ yX8_parse.cls ≠ "java/lang/invoke/VarHandle" ∧ (parseMethodDescriptor yX8_parse.desc).map (fun d => d.parameters.length) = some 0 := by decide +kernel
theorem fl_X8_fitsFrom_0_0 : Cond.fieldLink RX8 138 "MoveTexts$Board" "men" "[I" ∈ wsX8_fitsFrom := by decide +kernel
theorem fl_X8_fitsFrom_0_3 : Cond.fieldLink RX8 120 "MoveTexts$Board" "side" "I" ∈ wsX8_fitsFrom := by decide +kernel
theorem fl_X8_fitsFrom_8_3 : Cond.fieldLink RX8 93 "MoveTexts$SignReader" "kind" "I" ∈ wsX8_fitsFrom := by decide +kernel
theorem fl_X8_fitsFrom_8_4 : Cond.fieldLink RX8 107 "MoveTexts$SignReader" "file" "I" ∈ wsX8_fitsFrom := by decide +kernel
theorem fl_X8_fitsFrom_8_5 : Cond.fieldLink RX8 110 "MoveTexts$SignReader" "rank" "I" ∈ wsX8_fitsFrom := by decide +kernel
theorem fl_X8_fitsFrom_8_6 : Cond.fieldLink RX8 100 "MoveTexts$SignReader" "to" "I" ∈ wsX8_fitsFrom := by decide +kernel
theorem fl_X8_fitsFrom_8_7 : Cond.fieldLink RX8 75 "MoveTexts$SignReader" "becomes" "I" ∈ wsX8_fitsFrom := by decide +kernel
theorem fl_X8_fitsFrom_8_8 : Cond.fieldLink RX8 56 "MoveTexts$SignReader" "taking" "I" ∈ wsX8_fitsFrom := by decide +kernel
theorem hw_X8_fitsFrom_0 : ∀ w ∈ wsX00, w ∈ wsX8_fitsFrom := by decide +kernel
theorem hw_X8_fitsFrom_8 : ∀ w ∈ wsX80, w ∈ wsX8_fitsFrom := by decide +kernel
def f_X8_fitsFrom_70 (S : ZS) : Option (Int32 × ZS) :=
  m_chk (vp_nar .boolean (0 : Int32) = (0 : Int32)) (some ((0 : Int32), S))

set_option maxRecDepth 100000 in
set_option maxHeartbeats 4000000 in
theorem w_X8_fitsFrom_70 {p : Program} {l : Launch} {e : Env} {s : State} {m : MethodId} {args : Array Value} {below : List Frame} {meth : Method} {c : Code} {Q : State → Prop} {D : va_G} {y : Nat → ClassId} {A0 : Nat → Prop} {o : Int32 × ZS} (X : CallFix p m c cX8_fitsFrom 4 s args wsX8_fitsFrom RX8) (hret : zRi p l e ({ frames := 2, cells := 0, slots := 0, locals := 43 } : Room) s m args below meth c Q cX8_fitsFrom D y A0 .boolean o) {S : ZS} {H : Heap} {locs : List Loc} {ls : Array Slot} (hf : f_X8_fitsFrom_70  S = some o) (hM : zH D y A0 s H locs S) (hl : lv_has ls 4 []) : W p l e ({ frames := 2, cells := 0, slots := 0, locals := 43 } : Room) s m args below meth c H locs 0 0 Q (F0 m 70 ls []) := by
  obtain ⟨hx, hb, hml, hown, hts⟩ := id X
  unfold f_X8_fitsFrom_70 at hf
  refine lv_iconst (v := (0 : Int32)) hx hb dX8_fitsFrom_70 (by decide) ?_
  obtain ⟨cd, hf⟩ := m_chkE hf
  cases hf
  exact hret H locs _ ls hM (m_nb cd) dX8_fitsFrom_71
def f_X8_fitsFrom_158 (t0 : Int32) (S : ZS) : Option (Int32 × ZS) :=
  m_chk (vp_nar .boolean t0 = t0) (some (t0, S))

set_option maxRecDepth 100000 in
set_option maxHeartbeats 4000000 in
theorem w_X8_fitsFrom_158 {p : Program} {l : Launch} {e : Env} {s : State} {m : MethodId} {args : Array Value} {below : List Frame} {meth : Method} {c : Code} {Q : State → Prop} {D : va_G} {y : Nat → ClassId} {A0 : Nat → Prop} {o : Int32 × ZS} (X : CallFix p m c cX8_fitsFrom 4 s args wsX8_fitsFrom RX8) (hret : zRi p l e ({ frames := 2, cells := 0, slots := 0, locals := 43 } : Room) s m args below meth c Q cX8_fitsFrom D y A0 .boolean o) {t0 : Int32} {S : ZS} {H : Heap} {locs : List Loc} {ls : Array Slot} (hf : f_X8_fitsFrom_158 t0 S = some o) (hM : zH D y A0 s H locs S) (hl : lv_has ls 4 []) : W p l e ({ frames := 2, cells := 0, slots := 0, locals := 43 } : Room) s m args below meth c H locs 0 0 Q (F0 m 158 ls [.int t0]) := by
  obtain ⟨hx, hb, hml, hown, hts⟩ := id X
  unfold f_X8_fitsFrom_158 at hf
  obtain ⟨cd, hf⟩ := m_chkE hf
  cases hf
  exact hret H locs _ ls hM (m_nb cd) dX8_fitsFrom_158
def f_X8_fitsFrom_157 (S : ZS) : Option (Int32 × ZS) :=
  f_X8_fitsFrom_158 (0 : Int32) S

set_option maxRecDepth 100000 in
set_option maxHeartbeats 4000000 in
theorem w_X8_fitsFrom_157 {p : Program} {l : Launch} {e : Env} {s : State} {m : MethodId} {args : Array Value} {below : List Frame} {meth : Method} {c : Code} {Q : State → Prop} {D : va_G} {y : Nat → ClassId} {A0 : Nat → Prop} {o : Int32 × ZS} (X : CallFix p m c cX8_fitsFrom 4 s args wsX8_fitsFrom RX8) (hret : zRi p l e ({ frames := 2, cells := 0, slots := 0, locals := 43 } : Room) s m args below meth c Q cX8_fitsFrom D y A0 .boolean o) {S : ZS} {H : Heap} {locs : List Loc} {ls : Array Slot} (hf : f_X8_fitsFrom_157  S = some o) (hM : zH D y A0 s H locs S) (hl : lv_has ls 4 []) : W p l e ({ frames := 2, cells := 0, slots := 0, locals := 43 } : Room) s m args below meth c H locs 0 0 Q (F0 m 157 ls []) := by
  obtain ⟨hx, hb, hml, hown, hts⟩ := id X
  unfold f_X8_fitsFrom_157 at hf
  refine lv_iconst (v := (0 : Int32)) hx hb dX8_fitsFrom_157 (by decide) ?_
  exact w_X8_fitsFrom_158 (t0 := (0 : Int32)) X hret hf hM (lv_sub hl [] rfl)
def f_X8_fitsFrom_150 (t0 : Int32) (t1 : Int32) (S : ZS) : Option (Int32 × ZS) :=
  m_if (t1 = t0) (
  f_X8_fitsFrom_158 (1 : Int32) S
  ) (
  f_X8_fitsFrom_157  S
  )

set_option maxRecDepth 100000 in
set_option maxHeartbeats 4000000 in
theorem w_X8_fitsFrom_150 {p : Program} {l : Launch} {e : Env} {s : State} {m : MethodId} {args : Array Value} {below : List Frame} {meth : Method} {c : Code} {Q : State → Prop} {D : va_G} {y : Nat → ClassId} {A0 : Nat → Prop} {o : Int32 × ZS} (X : CallFix p m c cX8_fitsFrom 4 s args wsX8_fitsFrom RX8) (hret : zRi p l e ({ frames := 2, cells := 0, slots := 0, locals := 43 } : Room) s m args below meth c Q cX8_fitsFrom D y A0 .boolean o) {t0 : Int32} {t1 : Int32} {S : ZS} {H : Heap} {locs : List Loc} {ls : Array Slot} (hf : f_X8_fitsFrom_150 t0 t1 S = some o) (hM : zH D y A0 s H locs S) (hl : lv_has ls 4 []) : W p l e ({ frames := 2, cells := 0, slots := 0, locals := 43 } : Room) s m args below meth c H locs 0 0 Q (F0 m 150 ls [.int t0, .int t1]) := by
  obtain ⟨hx, hb, hml, hown, hts⟩ := id X
  unfold f_X8_fitsFrom_150 at hf
  refine lv_icmp_ne (tgt := 157) hx hb dX8_fitsFrom_150 (by decide) (fun cc1 => ?_) (fun cc1 => ?_)
  · replace hf := m_ifF hf cc1
    exact w_X8_fitsFrom_157 X hret hf hM (lv_sub hl [] rfl)
  · replace hf := m_ifT hf cc1
    refine lv_iconst (v := (1 : Int32)) hx hb dX8_fitsFrom_153 (by decide) ?_
    refine lv_goto (tgt := 158) hx hb dX8_fitsFrom_154 (by decide) ?_
    exact w_X8_fitsFrom_158 (t0 := (1 : Int32)) X hret hf hM (lv_sub hl [] rfl)
def f_X8_fitsFrom_129 (x0 : Nat) (x1 : Nat) (x2 : Int32) (S : ZS) : Option (Int32 × ZS) :=
  m_chk (x0 ∈ zL S ∧ zK S x0 = 8) (
  m_chk (x1 ∈ zL S ∧ zK S x1 = 0) (
  m_cal (f_X0_becomesAnother x1 x2 (zI S 6 x0) S) (fun o1 =>
  m_chk (x0 ∈ zL o1.2 ∧ zK o1.2 x0 = 8) (
  m_if ((zI o1.2 7 x0) = 0) (
  f_X8_fitsFrom_150 (0 : Int32) o1.1 o1.2
  ) (
  f_X8_fitsFrom_150 (1 : Int32) o1.1 o1.2
  )))))

set_option maxRecDepth 100000 in
set_option maxHeartbeats 4000000 in
theorem w_X8_fitsFrom_129 {p : Program} {l : Launch} {e : Env} {s : State} {m : MethodId} {args : Array Value} {below : List Frame} {meth : Method} {c : Code} {Q : State → Prop} {D : va_G} {y : Nat → ClassId} {A0 : Nat → Prop} {o : Int32 × ZS} (X : CallFix p m c cX8_fitsFrom 4 s args wsX8_fitsFrom RX8) (hret : zRi p l e ({ frames := 2, cells := 0, slots := 0, locals := 43 } : Room) s m args below meth c Q cX8_fitsFrom D y A0 .boolean o) {x0 : Nat} {x1 : Nat} {x2 : Int32} {S : ZS} {H : Heap} {locs : List Loc} {ls : Array Slot} (hf : f_X8_fitsFrom_129 x0 x1 x2 S = some o) (hM : zH D y A0 s H locs S) (hl : lv_has ls 4 [(0, .ref x0), (1, .ref x1), (2, .int x2)]) : W p l e ({ frames := 2, cells := 0, slots := 0, locals := 43 } : Room) s m args below meth c H locs 0 0 Q (F0 m 129 ls []) := by
  obtain ⟨hx, hb, hml, hown, hts⟩ := id X
  unfold f_X8_fitsFrom_129 at hf
  refine lv_aload_n hx hb dX8_fitsFrom_129 rfl (lv_at hl 1 rfl) ?_
  refine lv_iload_n hx hb dX8_fitsFrom_130 rfl (lv_at hl 2 rfl) ?_
  refine lv_aload_n hx hb dX8_fitsFrom_131 rfl (lv_at hl 0 rfl) ?_
  obtain ⟨ca, hf⟩ := m_chkE hf
  refine z_get (k := 8) (j := 6) (C := RX8) (T := TX8) (N := 12) (fl := zf_8) (v := .int (zI S 6 x0)) X hw_X8_fitsFrom_8 hM rfl zc_8 ca (by decide) fl_X8_fitsFrom_8_6 rfl dX8_fitsFrom_132 ?_
  clear ca
  obtain ⟨ca, hf⟩ := m_chkE hf
  obtain ⟨o1, ho, hf⟩ := m_calE hf
  refine z_callVi (k := 0) (C := RX0) (T := TX0) (N := 7) (fl := zf_0) X hM rfl zc_0 ca (c_X0_becomesAnother ho) gX8_fitsFrom_X0_becomesAnother rfl ⟨rfl, rfl⟩ hd_X0_becomesAnother ⟨Nat.le_of_ble_eq_true rfl, Nat.le_of_ble_eq_true rfl⟩ rfl hl.1 rfl (Nat.le_of_ble_eq_true rfl) dX8_fitsFrom_135 (fun H locs hM => ?_)
  clear ho
  refine lv_aload_n hx hb dX8_fitsFrom_138 rfl (lv_at hl 0 rfl) ?_
  obtain ⟨ca, hf⟩ := m_chkE hf
  refine z_get (k := 8) (j := 7) (C := RX8) (T := TX8) (N := 12) (fl := zf_8) (v := .int (zI o1.2 7 x0)) X hw_X8_fitsFrom_8 hM rfl zc_8 ca (by decide) fl_X8_fitsFrom_8_7 rfl dX8_fitsFrom_139 ?_
  clear ca
  refine lv_if_eq (tgt := 149) hx hb dX8_fitsFrom_142 (by decide) (fun cc1 => ?_) (fun cc1 => ?_)
  · replace hf := m_ifT hf cc1
    refine lv_iconst (v := (0 : Int32)) hx hb dX8_fitsFrom_149 (by decide) ?_
    exact w_X8_fitsFrom_150 (t0 := (0 : Int32)) (t1 := o1.1) X hret hf hM (lv_sub hl [] rfl)
  · replace hf := m_ifF hf cc1
    refine lv_iconst (v := (1 : Int32)) hx hb dX8_fitsFrom_145 (by decide) ?_
    refine lv_goto (tgt := 150) hx hb dX8_fitsFrom_146 (by decide) ?_
    exact w_X8_fitsFrom_150 (t0 := (1 : Int32)) (t1 := o1.1) X hret hf hM (lv_sub hl [] rfl)
def f_X8_fitsFrom_126 (x0 : Nat) (x1 : Nat) (x2 : Int32) (t0 : Int32) (t1 : Int32) (S : ZS) : Option (Int32 × ZS) :=
  m_if (t1 = t0) (
  f_X8_fitsFrom_129 x0 x1 x2 S
  ) (
  f_X8_fitsFrom_157  S
  )

set_option maxRecDepth 100000 in
set_option maxHeartbeats 4000000 in
theorem w_X8_fitsFrom_126 {p : Program} {l : Launch} {e : Env} {s : State} {m : MethodId} {args : Array Value} {below : List Frame} {meth : Method} {c : Code} {Q : State → Prop} {D : va_G} {y : Nat → ClassId} {A0 : Nat → Prop} {o : Int32 × ZS} (X : CallFix p m c cX8_fitsFrom 4 s args wsX8_fitsFrom RX8) (hret : zRi p l e ({ frames := 2, cells := 0, slots := 0, locals := 43 } : Room) s m args below meth c Q cX8_fitsFrom D y A0 .boolean o) {x0 : Nat} {x1 : Nat} {x2 : Int32} {t0 : Int32} {t1 : Int32} {S : ZS} {H : Heap} {locs : List Loc} {ls : Array Slot} (hf : f_X8_fitsFrom_126 x0 x1 x2 t0 t1 S = some o) (hM : zH D y A0 s H locs S) (hl : lv_has ls 4 [(0, .ref x0), (1, .ref x1), (2, .int x2)]) : W p l e ({ frames := 2, cells := 0, slots := 0, locals := 43 } : Room) s m args below meth c H locs 0 0 Q (F0 m 126 ls [.int t0, .int t1]) := by
  obtain ⟨hx, hb, hml, hown, hts⟩ := id X
  unfold f_X8_fitsFrom_126 at hf
  refine lv_icmp_ne (tgt := 157) hx hb dX8_fitsFrom_126 (by decide) (fun cc1 => ?_) (fun cc1 => ?_)
  · replace hf := m_ifF hf cc1
    exact w_X8_fitsFrom_157 X hret hf hM (lv_sub hl [] rfl)
  · replace hf := m_ifT hf cc1
    exact w_X8_fitsFrom_129 (x0 := x0) (x1 := x1) (x2 := x2) X hret hf hM (lv_sub hl [0, 1, 2] rfl)
def f_X8_fitsFrom_104 (x0 : Nat) (x1 : Nat) (x2 : Int32) (x3 : Int32) (S : ZS) : Option (Int32 × ZS) :=
  m_chk (x0 ∈ zL S ∧ zK S x0 = 8) (
  m_if ((zI S 8 x0) = (-1 : Int32)) (
  f_X8_fitsFrom_129 x0 x1 x2 S
  ) (
  m_chk (x0 ∈ zL S ∧ zK S x0 = 8) (
  m_if ((zI S 8 x0) = (1 : Int32)) (
  f_X8_fitsFrom_126 x0 x1 x2 (1 : Int32) x3 S
  ) (
  f_X8_fitsFrom_126 x0 x1 x2 (0 : Int32) x3 S
  ))
  ))

set_option maxRecDepth 100000 in
set_option maxHeartbeats 4000000 in
theorem w_X8_fitsFrom_104 {p : Program} {l : Launch} {e : Env} {s : State} {m : MethodId} {args : Array Value} {below : List Frame} {meth : Method} {c : Code} {Q : State → Prop} {D : va_G} {y : Nat → ClassId} {A0 : Nat → Prop} {o : Int32 × ZS} (X : CallFix p m c cX8_fitsFrom 4 s args wsX8_fitsFrom RX8) (hret : zRi p l e ({ frames := 2, cells := 0, slots := 0, locals := 43 } : Room) s m args below meth c Q cX8_fitsFrom D y A0 .boolean o) {x0 : Nat} {x1 : Nat} {x2 : Int32} {x3 : Int32} {S : ZS} {H : Heap} {locs : List Loc} {ls : Array Slot} (hf : f_X8_fitsFrom_104 x0 x1 x2 x3 S = some o) (hM : zH D y A0 s H locs S) (hl : lv_has ls 4 [(0, .ref x0), (1, .ref x1), (2, .int x2), (3, .int x3)]) : W p l e ({ frames := 2, cells := 0, slots := 0, locals := 43 } : Room) s m args below meth c H locs 0 0 Q (F0 m 104 ls []) := by
  obtain ⟨hx, hb, hml, hown, hts⟩ := id X
  unfold f_X8_fitsFrom_104 at hf
  refine lv_aload_n hx hb dX8_fitsFrom_104 rfl (lv_at hl 0 rfl) ?_
  obtain ⟨ca, hf⟩ := m_chkE hf
  refine z_get (k := 8) (j := 8) (C := RX8) (T := TX8) (N := 12) (fl := zf_8) (v := .int (zI S 8 x0)) X hw_X8_fitsFrom_8 hM rfl zc_8 ca (by decide) fl_X8_fitsFrom_8_8 rfl dX8_fitsFrom_105 ?_
  clear ca
  refine lv_iconst (v := (-1 : Int32)) hx hb dX8_fitsFrom_108 (by decide) ?_
  refine lv_icmp_eq (tgt := 129) hx hb dX8_fitsFrom_109 (by decide) (fun cc1 => ?_) (fun cc1 => ?_)
  · replace hf := m_ifT hf cc1
    exact w_X8_fitsFrom_129 (x0 := x0) (x1 := x1) (x2 := x2) X hret hf hM (lv_sub hl [0, 1, 2] rfl)
  · replace hf := m_ifF hf cc1
    refine lv_iload_n hx hb dX8_fitsFrom_112 rfl (lv_at hl 3 rfl) ?_
    refine lv_aload_n hx hb dX8_fitsFrom_113 rfl (lv_at hl 0 rfl) ?_
    obtain ⟨ca, hf⟩ := m_chkE hf
    refine z_get (k := 8) (j := 8) (C := RX8) (T := TX8) (N := 12) (fl := zf_8) (v := .int (zI S 8 x0)) X hw_X8_fitsFrom_8 hM rfl zc_8 ca (by decide) fl_X8_fitsFrom_8_8 rfl dX8_fitsFrom_114 ?_
    clear ca
    refine lv_iconst (v := (1 : Int32)) hx hb dX8_fitsFrom_117 (by decide) ?_
    refine lv_icmp_ne (tgt := 125) hx hb dX8_fitsFrom_118 (by decide) (fun cc1 => ?_) (fun cc1 => ?_)
    · replace hf := m_ifF hf cc1
      refine lv_iconst (v := (0 : Int32)) hx hb dX8_fitsFrom_125 (by decide) ?_
      exact w_X8_fitsFrom_126 (x0 := x0) (x1 := x1) (x2 := x2) (t0 := (0 : Int32)) (t1 := x3) X hret hf hM (lv_sub hl [0, 1, 2] rfl)
    · replace hf := m_ifT hf cc1
      refine lv_iconst (v := (1 : Int32)) hx hb dX8_fitsFrom_121 (by decide) ?_
      refine lv_goto (tgt := 126) hx hb dX8_fitsFrom_122 (by decide) ?_
      exact w_X8_fitsFrom_126 (x0 := x0) (x1 := x1) (x2 := x2) (t0 := (1 : Int32)) (t1 := x3) X hret hf hM (lv_sub hl [0, 1, 2] rfl)
def f_X8_fitsFrom_72 (x0 : Nat) (x1 : Nat) (x2 : Int32) (S : ZS) : Option (Int32 × ZS) :=
  m_chk (x0 ∈ zL S ∧ zK S x0 = 8) (
  m_chk (x1 ∈ zL S ∧ zK S x1 = 0) (
  m_cal (f_X0_takes x1 x2 (zI S 6 x0) S) (fun o1 =>
  m_chk (x0 ∈ zL o1.2 ∧ zK o1.2 x0 = 8) (
  m_if ((zI o1.2 3 x0) = (1 : Int32)) (
  m_if (o1.1 = 0) (
  f_X8_fitsFrom_104 x0 x1 x2 o1.1 o1.2
  ) (
  m_chk (x0 ∈ zL o1.2 ∧ zK o1.2 x0 = 8) (
  m_if ((zI o1.2 4 x0) = (-1 : Int32)) (
  m_chk (vp_nar .boolean (0 : Int32) = (0 : Int32)) (some ((0 : Int32), o1.2))
  ) (
  f_X8_fitsFrom_104 x0 x1 x2 o1.1 o1.2
  ))
  )
  ) (
  f_X8_fitsFrom_104 x0 x1 x2 o1.1 o1.2
  )))))

set_option maxRecDepth 100000 in
set_option maxHeartbeats 4000000 in
theorem w_X8_fitsFrom_72 {p : Program} {l : Launch} {e : Env} {s : State} {m : MethodId} {args : Array Value} {below : List Frame} {meth : Method} {c : Code} {Q : State → Prop} {D : va_G} {y : Nat → ClassId} {A0 : Nat → Prop} {o : Int32 × ZS} (X : CallFix p m c cX8_fitsFrom 4 s args wsX8_fitsFrom RX8) (hret : zRi p l e ({ frames := 2, cells := 0, slots := 0, locals := 43 } : Room) s m args below meth c Q cX8_fitsFrom D y A0 .boolean o) {x0 : Nat} {x1 : Nat} {x2 : Int32} {S : ZS} {H : Heap} {locs : List Loc} {ls : Array Slot} (hf : f_X8_fitsFrom_72 x0 x1 x2 S = some o) (hM : zH D y A0 s H locs S) (hl : lv_has ls 4 [(0, .ref x0), (1, .ref x1), (2, .int x2)]) : W p l e ({ frames := 2, cells := 0, slots := 0, locals := 43 } : Room) s m args below meth c H locs 0 0 Q (F0 m 72 ls []) := by
  obtain ⟨hx, hb, hml, hown, hts⟩ := id X
  unfold f_X8_fitsFrom_72 at hf
  refine lv_aload_n hx hb dX8_fitsFrom_72 rfl (lv_at hl 1 rfl) ?_
  refine lv_iload_n hx hb dX8_fitsFrom_73 rfl (lv_at hl 2 rfl) ?_
  refine lv_aload_n hx hb dX8_fitsFrom_74 rfl (lv_at hl 0 rfl) ?_
  obtain ⟨ca, hf⟩ := m_chkE hf
  refine z_get (k := 8) (j := 6) (C := RX8) (T := TX8) (N := 12) (fl := zf_8) (v := .int (zI S 6 x0)) X hw_X8_fitsFrom_8 hM rfl zc_8 ca (by decide) fl_X8_fitsFrom_8_6 rfl dX8_fitsFrom_75 ?_
  clear ca
  obtain ⟨ca, hf⟩ := m_chkE hf
  obtain ⟨o1, ho, hf⟩ := m_calE hf
  refine z_callVi (k := 0) (C := RX0) (T := TX0) (N := 7) (fl := zf_0) X hM rfl zc_0 ca (c_X0_takes ho) gX8_fitsFrom_X0_takes rfl ⟨rfl, rfl⟩ hd_X0_takes ⟨Nat.le_of_ble_eq_true rfl, Nat.le_of_ble_eq_true rfl⟩ rfl hl.1 rfl (Nat.le_of_ble_eq_true rfl) dX8_fitsFrom_78 (fun H locs hM => ?_)
  clear ho
  refine lv_istore_n (lv' := [(3, .int o1.1), (0, .ref x0), (1, .ref x1), (2, .int x2)]) hx hb dX8_fitsFrom_81 rfl hl (by decide) rfl (fun ls hl => ?_)
  refine lv_aload_n hx hb dX8_fitsFrom_82 rfl (lv_at hl 1 rfl) ?_
  obtain ⟨ca, hf⟩ := m_chkE hf
  refine z_get (k := 8) (j := 3) (C := RX8) (T := TX8) (N := 12) (fl := zf_8) (v := .int (zI o1.2 3 x0)) X hw_X8_fitsFrom_8 hM rfl zc_8 ca (by decide) fl_X8_fitsFrom_8_3 rfl dX8_fitsFrom_83 ?_
  clear ca
  refine lv_iconst (v := (1 : Int32)) hx hb dX8_fitsFrom_86 (by decide) ?_
  refine lv_icmp_ne (tgt := 104) hx hb dX8_fitsFrom_87 (by decide) (fun cc1 => ?_) (fun cc1 => ?_)
  · replace hf := m_ifF hf cc1
    exact w_X8_fitsFrom_104 (x0 := x0) (x1 := x1) (x2 := x2) (x3 := o1.1) X hret hf hM (lv_sub hl [1, 2, 3, 0] rfl)
  · replace hf := m_ifT hf cc1
    refine lv_iload_n hx hb dX8_fitsFrom_90 rfl (lv_at hl 0 rfl) ?_
    refine lv_if_eq (tgt := 104) hx hb dX8_fitsFrom_91 (by decide) (fun cc1 => ?_) (fun cc1 => ?_)
    · replace hf := m_ifT hf cc1
      exact w_X8_fitsFrom_104 (x0 := x0) (x1 := x1) (x2 := x2) (x3 := o1.1) X hret hf hM (lv_sub hl [1, 2, 3, 0] rfl)
    · replace hf := m_ifF hf cc1
      refine lv_aload_n hx hb dX8_fitsFrom_94 rfl (lv_at hl 1 rfl) ?_
      obtain ⟨ca, hf⟩ := m_chkE hf
      refine z_get (k := 8) (j := 4) (C := RX8) (T := TX8) (N := 12) (fl := zf_8) (v := .int (zI o1.2 4 x0)) X hw_X8_fitsFrom_8 hM rfl zc_8 ca (by decide) fl_X8_fitsFrom_8_4 rfl dX8_fitsFrom_95 ?_
      clear ca
      refine lv_iconst (v := (-1 : Int32)) hx hb dX8_fitsFrom_98 (by decide) ?_
      refine lv_icmp_ne (tgt := 104) hx hb dX8_fitsFrom_99 (by decide) (fun cc1 => ?_) (fun cc1 => ?_)
      · replace hf := m_ifF hf cc1
        exact w_X8_fitsFrom_104 (x0 := x0) (x1 := x1) (x2 := x2) (x3 := o1.1) X hret hf hM (lv_sub hl [1, 2, 3, 0] rfl)
      · replace hf := m_ifT hf cc1
        refine lv_iconst (v := (0 : Int32)) hx hb dX8_fitsFrom_102 (by decide) ?_
        obtain ⟨cd, hf⟩ := m_chkE hf
        cases hf
        exact hret H locs _ ls hM (m_nb cd) dX8_fitsFrom_103
def f_X8_fitsFrom_52 (x0 : Nat) (x1 : Nat) (x2 : Int32) (S : ZS) : Option (Int32 × ZS) :=
  m_chk (x0 ∈ zL S ∧ zK S x0 = 8) (
  m_if ((zI S 5 x0) = (-1 : Int32)) (
  f_X8_fitsFrom_72 x0 x1 x2 S
  ) (
  m_chk (x0 ∈ zL S ∧ zK S x0 = 8) (
  m_bnd (x2 >>> ((3 : Int32) &&& 31)) (fun v1 =>
  m_if ((zI S 5 x0) = v1) (
  f_X8_fitsFrom_72 x0 x1 x2 S
  ) (
  f_X8_fitsFrom_70  S
  )))
  ))

set_option maxRecDepth 100000 in
set_option maxHeartbeats 4000000 in
theorem w_X8_fitsFrom_52 {p : Program} {l : Launch} {e : Env} {s : State} {m : MethodId} {args : Array Value} {below : List Frame} {meth : Method} {c : Code} {Q : State → Prop} {D : va_G} {y : Nat → ClassId} {A0 : Nat → Prop} {o : Int32 × ZS} (X : CallFix p m c cX8_fitsFrom 4 s args wsX8_fitsFrom RX8) (hret : zRi p l e ({ frames := 2, cells := 0, slots := 0, locals := 43 } : Room) s m args below meth c Q cX8_fitsFrom D y A0 .boolean o) {x0 : Nat} {x1 : Nat} {x2 : Int32} {S : ZS} {H : Heap} {locs : List Loc} {ls : Array Slot} (hf : f_X8_fitsFrom_52 x0 x1 x2 S = some o) (hM : zH D y A0 s H locs S) (hl : lv_has ls 4 [(0, .ref x0), (1, .ref x1), (2, .int x2)]) : W p l e ({ frames := 2, cells := 0, slots := 0, locals := 43 } : Room) s m args below meth c H locs 0 0 Q (F0 m 52 ls []) := by
  obtain ⟨hx, hb, hml, hown, hts⟩ := id X
  unfold f_X8_fitsFrom_52 at hf
  refine lv_aload_n hx hb dX8_fitsFrom_52 rfl (lv_at hl 0 rfl) ?_
  obtain ⟨ca, hf⟩ := m_chkE hf
  refine z_get (k := 8) (j := 5) (C := RX8) (T := TX8) (N := 12) (fl := zf_8) (v := .int (zI S 5 x0)) X hw_X8_fitsFrom_8 hM rfl zc_8 ca (by decide) fl_X8_fitsFrom_8_5 rfl dX8_fitsFrom_53 ?_
  clear ca
  refine lv_iconst (v := (-1 : Int32)) hx hb dX8_fitsFrom_56 (by decide) ?_
  refine lv_icmp_eq (tgt := 72) hx hb dX8_fitsFrom_57 (by decide) (fun cc1 => ?_) (fun cc1 => ?_)
  · replace hf := m_ifT hf cc1
    exact w_X8_fitsFrom_72 (x0 := x0) (x1 := x1) (x2 := x2) X hret hf hM (lv_sub hl [0, 1, 2] rfl)
  · replace hf := m_ifF hf cc1
    refine lv_aload_n hx hb dX8_fitsFrom_60 rfl (lv_at hl 0 rfl) ?_
    obtain ⟨ca, hf⟩ := m_chkE hf
    refine z_get (k := 8) (j := 5) (C := RX8) (T := TX8) (N := 12) (fl := zf_8) (v := .int (zI S 5 x0)) X hw_X8_fitsFrom_8 hM rfl zc_8 ca (by decide) fl_X8_fitsFrom_8_5 rfl dX8_fitsFrom_61 ?_
    clear ca
    refine lv_iload_n hx hb dX8_fitsFrom_64 rfl (lv_at hl 2 rfl) ?_
    refine lv_iconst (v := (3 : Int32)) hx hb dX8_fitsFrom_65 (by decide) ?_
    refine lv_ishr hx hb dX8_fitsFrom_66 ?_
    obtain ⟨v1, ev, hf⟩ := m_bndE hf
    refine m_top ev ?_
    clear ev
    refine lv_icmp_eq (tgt := 72) hx hb dX8_fitsFrom_67 (by decide) (fun cc1 => ?_) (fun cc1 => ?_)
    · replace hf := m_ifT hf cc1
      exact w_X8_fitsFrom_72 (x0 := x0) (x1 := x1) (x2 := x2) X hret hf hM (lv_sub hl [0, 1, 2] rfl)
    · replace hf := m_ifF hf cc1
      exact w_X8_fitsFrom_70 X hret hf hM (lv_sub hl [] rfl)
def f_X8_fitsFrom_0 (x0 : Nat) (x1 : Nat) (x2 : Int32) (S : ZS) : Option (Int32 × ZS) :=
  m_chk (x1 ∈ zL S ∧ zK S x1 = 0) (
  m_cal (zP S 0 x1) (fun b1 =>
  m_chk (b1 ∈ zL S ∧ zK S b1 = 14) (
  m_chk (¬ (x2 < 0 ∨ zN S b1 ≤ (x2).toNatClampNeg)) (
  m_bnd (zA S b1 (x2).toNatClampNeg) (fun v2 =>
  m_chk (x0 ∈ zL S ∧ zK S x0 = 8) (
  m_chk (x1 ∈ zL S ∧ zK S x1 = 0) (
  m_bnd ((8 : Int32) * (zI S 3 x1)) (fun v3 =>
  m_bnd ((zI S 3 x0) + v3) (fun v4 =>
  m_if (v2 = v4) (
  m_chk (x0 ∈ zL S ∧ zK S x0 = 8) (
  m_chk (x1 ∈ zL S ∧ zK S x1 = 0) (
  m_cal (f_X0_castles x1 x2 (zI S 6 x0) S) (fun o5 =>
  m_if (o5.1 = 0) (
  m_chk (x0 ∈ zL o5.2 ∧ zK o5.2 x0 = 8) (
  m_if ((zI o5.2 4 x0) = (-1 : Int32)) (
  f_X8_fitsFrom_52 x0 x1 x2 o5.2
  ) (
  m_chk (x0 ∈ zL o5.2 ∧ zK o5.2 x0 = 8) (
  m_bnd (x2 &&& (7 : Int32)) (fun v6 =>
  m_if ((zI o5.2 4 x0) = v6) (
  f_X8_fitsFrom_52 x0 x1 x2 o5.2
  ) (
  f_X8_fitsFrom_70  o5.2
  )))
  ))
  ) (
  f_X8_fitsFrom_70  o5.2
  ))))
  ) (
  f_X8_fitsFrom_70  S
  ))))))))))

set_option maxRecDepth 100000 in
set_option maxHeartbeats 4000000 in
theorem w_X8_fitsFrom_0 {p : Program} {l : Launch} {e : Env} {s : State} {m : MethodId} {args : Array Value} {below : List Frame} {meth : Method} {c : Code} {Q : State → Prop} {D : va_G} {y : Nat → ClassId} {A0 : Nat → Prop} {o : Int32 × ZS} (X : CallFix p m c cX8_fitsFrom 4 s args wsX8_fitsFrom RX8) (hret : zRi p l e ({ frames := 2, cells := 0, slots := 0, locals := 43 } : Room) s m args below meth c Q cX8_fitsFrom D y A0 .boolean o) {x0 : Nat} {x1 : Nat} {x2 : Int32} {S : ZS} {H : Heap} {locs : List Loc} {ls : Array Slot} (hf : f_X8_fitsFrom_0 x0 x1 x2 S = some o) (hM : zH D y A0 s H locs S) (hl : lv_has ls 4 [(0, .ref x0), (1, .ref x1), (2, .int x2)]) : W p l e ({ frames := 2, cells := 0, slots := 0, locals := 43 } : Room) s m args below meth c H locs 0 0 Q (F0 m 0 ls []) := by
  obtain ⟨hx, hb, hml, hown, hts⟩ := id X
  unfold f_X8_fitsFrom_0 at hf
  refine lv_aload_n hx hb dX8_fitsFrom_0 rfl (lv_at hl 1 rfl) ?_
  obtain ⟨ca, hf⟩ := m_chkE hf
  refine z_get (k := 0) (j := 0) (C := RX0) (T := TX0) (N := 7) (fl := zf_0) (v := va_rf (zP S 0 x1)) X hw_X8_fitsFrom_0 hM rfl zc_0 ca (by decide) fl_X8_fitsFrom_0_0 rfl dX8_fitsFrom_1 ?_
  clear ca
  obtain ⟨b1, hb9, hf⟩ := m_calE hf
  refine z_topr hb9 ?_
  clear hb9
  refine lv_iload_n hx hb dX8_fitsFrom_4 rfl (lv_at hl 2 rfl) ?_
  obtain ⟨ca, hf⟩ := m_chkE hf
  obtain ⟨cd, hf⟩ := m_chkE hf
  refine z_iald X hM ca cd dX8_fitsFrom_5 ?_
  clear ca cd
  obtain ⟨v2, ev, hf⟩ := m_bndE hf
  refine m_top ev ?_
  clear ev
  refine lv_aload_n hx hb dX8_fitsFrom_6 rfl (lv_at hl 0 rfl) ?_
  obtain ⟨ca, hf⟩ := m_chkE hf
  refine z_get (k := 8) (j := 3) (C := RX8) (T := TX8) (N := 12) (fl := zf_8) (v := .int (zI S 3 x0)) X hw_X8_fitsFrom_8 hM rfl zc_8 ca (by decide) fl_X8_fitsFrom_8_3 rfl dX8_fitsFrom_7 ?_
  clear ca
  refine lv_bipush (v := (8 : Int32)) hx hb dX8_fitsFrom_10 (by decide) ?_
  refine lv_aload_n hx hb dX8_fitsFrom_12 rfl (lv_at hl 1 rfl) ?_
  obtain ⟨ca, hf⟩ := m_chkE hf
  refine z_get (k := 0) (j := 3) (C := RX0) (T := TX0) (N := 7) (fl := zf_0) (v := .int (zI S 3 x1)) X hw_X8_fitsFrom_0 hM rfl zc_0 ca (by decide) fl_X8_fitsFrom_0_3 rfl dX8_fitsFrom_13 ?_
  clear ca
  refine lv_imul hx hb dX8_fitsFrom_16 ?_
  obtain ⟨v3, ev, hf⟩ := m_bndE hf
  refine m_top ev ?_
  clear ev
  refine lv_iadd hx hb dX8_fitsFrom_17 ?_
  obtain ⟨v4, ev, hf⟩ := m_bndE hf
  refine m_top ev ?_
  clear ev
  refine lv_icmp_ne (tgt := 70) hx hb dX8_fitsFrom_18 (by decide) (fun cc1 => ?_) (fun cc1 => ?_)
  · replace hf := m_ifF hf cc1
    exact w_X8_fitsFrom_70 X hret hf hM (lv_sub hl [] rfl)
  · replace hf := m_ifT hf cc1
    refine lv_aload_n hx hb dX8_fitsFrom_21 rfl (lv_at hl 1 rfl) ?_
    refine lv_iload_n hx hb dX8_fitsFrom_22 rfl (lv_at hl 2 rfl) ?_
    refine lv_aload_n hx hb dX8_fitsFrom_23 rfl (lv_at hl 0 rfl) ?_
    obtain ⟨ca, hf⟩ := m_chkE hf
    refine z_get (k := 8) (j := 6) (C := RX8) (T := TX8) (N := 12) (fl := zf_8) (v := .int (zI S 6 x0)) X hw_X8_fitsFrom_8 hM rfl zc_8 ca (by decide) fl_X8_fitsFrom_8_6 rfl dX8_fitsFrom_24 ?_
    clear ca
    obtain ⟨ca, hf⟩ := m_chkE hf
    obtain ⟨o5, ho, hf⟩ := m_calE hf
    refine z_callVi (k := 0) (C := RX0) (T := TX0) (N := 7) (fl := zf_0) X hM rfl zc_0 ca (c_X0_castles ho) gX8_fitsFrom_X0_castles rfl ⟨rfl, rfl⟩ hd_X0_castles ⟨Nat.le_of_ble_eq_true rfl, Nat.le_of_ble_eq_true rfl⟩ rfl hl.1 rfl (Nat.le_of_ble_eq_true rfl) dX8_fitsFrom_27 (fun H locs hM => ?_)
    clear ho
    refine lv_if_ne (tgt := 70) hx hb dX8_fitsFrom_30 (by decide) (fun cc1 => ?_) (fun cc1 => ?_)
    · replace hf := m_ifF hf cc1
      exact w_X8_fitsFrom_70 X hret hf hM (lv_sub hl [] rfl)
    · replace hf := m_ifT hf cc1
      refine lv_aload_n hx hb dX8_fitsFrom_33 rfl (lv_at hl 0 rfl) ?_
      obtain ⟨ca, hf⟩ := m_chkE hf
      refine z_get (k := 8) (j := 4) (C := RX8) (T := TX8) (N := 12) (fl := zf_8) (v := .int (zI o5.2 4 x0)) X hw_X8_fitsFrom_8 hM rfl zc_8 ca (by decide) fl_X8_fitsFrom_8_4 rfl dX8_fitsFrom_34 ?_
      clear ca
      refine lv_iconst (v := (-1 : Int32)) hx hb dX8_fitsFrom_37 (by decide) ?_
      refine lv_icmp_eq (tgt := 52) hx hb dX8_fitsFrom_38 (by decide) (fun cc1 => ?_) (fun cc1 => ?_)
      · replace hf := m_ifT hf cc1
        exact w_X8_fitsFrom_52 (x0 := x0) (x1 := x1) (x2 := x2) X hret hf hM (lv_sub hl [0, 1, 2] rfl)
      · replace hf := m_ifF hf cc1
        refine lv_aload_n hx hb dX8_fitsFrom_41 rfl (lv_at hl 0 rfl) ?_
        obtain ⟨ca, hf⟩ := m_chkE hf
        refine z_get (k := 8) (j := 4) (C := RX8) (T := TX8) (N := 12) (fl := zf_8) (v := .int (zI o5.2 4 x0)) X hw_X8_fitsFrom_8 hM rfl zc_8 ca (by decide) fl_X8_fitsFrom_8_4 rfl dX8_fitsFrom_42 ?_
        clear ca
        refine lv_iload_n hx hb dX8_fitsFrom_45 rfl (lv_at hl 2 rfl) ?_
        refine lv_bipush (v := (7 : Int32)) hx hb dX8_fitsFrom_46 (by decide) ?_
        refine lv_iand hx hb dX8_fitsFrom_48 ?_
        obtain ⟨v6, ev, hf⟩ := m_bndE hf
        refine m_top ev ?_
        clear ev
        refine lv_icmp_ne (tgt := 70) hx hb dX8_fitsFrom_49 (by decide) (fun cc1 => ?_) (fun cc1 => ?_)
        · replace hf := m_ifF hf cc1
          exact w_X8_fitsFrom_70 X hret hf hM (lv_sub hl [] rfl)
        · replace hf := m_ifT hf cc1
          exact w_X8_fitsFrom_52 (x0 := x0) (x1 := x1) (x2 := x2) X hret hf hM (lv_sub hl [0, 1, 2] rfl)
def f_X8_fitsFrom (x0 : Nat) (x1 : Nat) (x2 : Int32) (S : ZS) : Option (Int32 × ZS) := f_X8_fitsFrom_0 x0 x1 x2 S
theorem c_X8_fitsFrom {l : Launch} {D : va_G} {y : Nat → ClassId} {x0 : Nat} {x1 : Nat} {x2 : Int32} {S : ZS} {o : Int32 × ZS} (hf : f_X8_fitsFrom x0 x1 x2 S = some o) : zMi l yX8_fitsFrom wsX8_fitsFrom ({ frames := 2, cells := 0, slots := 0, locals := 43 } : Room) [.ref x0, .ref x1, .int x2] D y S o :=
  z_entryI (own := RX8) (cc := cX8_fitsFrom) (maxL := 4) (by decide) rfl rfl (Nat.le_of_ble_eq_true rfl) (fun p e s m args below meth c A0 Q H locs ls X hret hM hl => w_X8_fitsFrom_0 X hret hf hM (lv_sub hl [0, 1, 2] rfl))
theorem hd_X8_fitsFrom : yX8_fitsFrom.cls = RX8 ∧ yX8_fitsFrom.cls ≠ "java/lang/invoke/MethodHandle" ∧ yX8_fitsFrom.cls ≠ "java/lang/invoke/VarHandle" ∧ (parseMethodDescriptor yX8_fitsFrom.desc).map (fun d => d.parameters.length) = some 2 := by decide +kernel
