theorem hd_X7_isLegal : yX7_isLegal.cls = RX7 ∧ yX7_isLegal.cls ≠ "java/lang/invoke/MethodHandle" ∧ yX7_isLegal.cls ≠ "java/lang/invoke/VarHandle" ∧ (parseMethodDescriptor yX7_isLegal.desc).map (fun d => d.parameters.length) = some 2 := by decide +kernel
def f_X7_isLegal_47 (S : ZS) : Option (Int32 × ZS) :=
  m_chk (vp_nar .boolean (0 : Int32) = (0 : Int32)) (some ((0 : Int32), S))

set_option maxRecDepth 100000 in
set_option maxHeartbeats 4000000 in
theorem w_X7_isLegal_47 {p : Program} {l : Launch} {e : Env} {s : State} {m : MethodId} {args : Array Value} {below : List Frame} {meth : Method} {c : Code} {Q : State → Prop} {D : va_G} {y : Nat → ClassId} {A0 : Nat → Prop} {o : Int32 × ZS} (X : CallFix p m c cX7_isLegal 6 s args wsX7_isLegal RX7) (hret : zRi p l e ({ frames := 3, cells := 0, slots := 0, locals := 106 } : Room) s m args below meth c Q cX7_isLegal D y A0 .boolean o) {S : ZS} {H : Heap} {locs : List Loc} {ls : Array Slot} (hf : f_X7_isLegal_47  S = some o) (hM : zH D y A0 s H locs S) (hl : lv_has ls 6 []) : W p l e ({ frames := 3, cells := 0, slots := 0, locals := 106 } : Room) s m args below meth c H locs 0 0 Q (F0 m 47 ls []) := by
  obtain ⟨hx, hb, hml, hown, hts⟩ := id X
  unfold f_X7_isLegal_47 at hf
  refine lv_iconst (v := (0 : Int32)) hx hb dX7_isLegal_47 (by decide) ?_
  obtain ⟨cd, hf⟩ := m_chkE hf
  cases hf
  exact hret H locs _ ls hM (m_nb cd) dX7_isLegal_48
def f_X7_isLegal_83 (t0 : Int32) (S : ZS) : Option (Int32 × ZS) :=
  m_chk (vp_nar .boolean t0 = t0) (some (t0, S))

set_option maxRecDepth 100000 in
set_option maxHeartbeats 4000000 in
theorem w_X7_isLegal_83 {p : Program} {l : Launch} {e : Env} {s : State} {m : MethodId} {args : Array Value} {below : List Frame} {meth : Method} {c : Code} {Q : State → Prop} {D : va_G} {y : Nat → ClassId} {A0 : Nat → Prop} {o : Int32 × ZS} (X : CallFix p m c cX7_isLegal 6 s args wsX7_isLegal RX7) (hret : zRi p l e ({ frames := 3, cells := 0, slots := 0, locals := 106 } : Room) s m args below meth c Q cX7_isLegal D y A0 .boolean o) {t0 : Int32} {S : ZS} {H : Heap} {locs : List Loc} {ls : Array Slot} (hf : f_X7_isLegal_83 t0 S = some o) (hM : zH D y A0 s H locs S) (hl : lv_has ls 6 []) : W p l e ({ frames := 3, cells := 0, slots := 0, locals := 106 } : Room) s m args below meth c H locs 0 0 Q (F0 m 83 ls [.int t0]) := by
  obtain ⟨hx, hb, hml, hown, hts⟩ := id X
  unfold f_X7_isLegal_83 at hf
  obtain ⟨cd, hf⟩ := m_chkE hf
  cases hf
  exact hret H locs _ ls hM (m_nb cd) dX7_isLegal_83
def f_X7_isLegal_82 (S : ZS) : Option (Int32 × ZS) :=
  f_X7_isLegal_83 (0 : Int32) S

set_option maxRecDepth 100000 in
set_option maxHeartbeats 4000000 in
theorem w_X7_isLegal_82 {p : Program} {l : Launch} {e : Env} {s : State} {m : MethodId} {args : Array Value} {below : List Frame} {meth : Method} {c : Code} {Q : State → Prop} {D : va_G} {y : Nat → ClassId} {A0 : Nat → Prop} {o : Int32 × ZS} (X : CallFix p m c cX7_isLegal 6 s args wsX7_isLegal RX7) (hret : zRi p l e ({ frames := 3, cells := 0, slots := 0, locals := 106 } : Room) s m args below meth c Q cX7_isLegal D y A0 .boolean o) {S : ZS} {H : Heap} {locs : List Loc} {ls : Array Slot} (hf : f_X7_isLegal_82  S = some o) (hM : zH D y A0 s H locs S) (hl : lv_has ls 6 []) : W p l e ({ frames := 3, cells := 0, slots := 0, locals := 106 } : Room) s m args below meth c H locs 0 0 Q (F0 m 82 ls []) := by
  obtain ⟨hx, hb, hml, hown, hts⟩ := id X
  unfold f_X7_isLegal_82 at hf
  refine lv_iconst (v := (0 : Int32)) hx hb dX7_isLegal_82 (by decide) ?_
  exact w_X7_isLegal_83 (t0 := (0 : Int32)) X hret hf hM (lv_sub hl [] rfl)
def f_X7_isLegal_66 (x0 : Nat) (x1 : Nat) (x2 : Int32) (t0 : Int32) (t1 : Int32) (S : ZS) : Option (Int32 × ZS) :=
  m_if (t1 = t0) (
  m_chk (zK S x0 = 7) (
  m_cal (f_X7_isSafe x0 x1 x2 S) (fun o1 =>
  m_if (o1.1 = 0) (
  f_X7_isLegal_82  o1.2
  ) (
  f_X7_isLegal_83 (1 : Int32) o1.2
  )))
  ) (
  f_X7_isLegal_82  S
  )

set_option maxRecDepth 100000 in
set_option maxHeartbeats 4000000 in
theorem w_X7_isLegal_66 {p : Program} {l : Launch} {e : Env} {s : State} {m : MethodId} {args : Array Value} {below : List Frame} {meth : Method} {c : Code} {Q : State → Prop} {D : va_G} {y : Nat → ClassId} {A0 : Nat → Prop} {o : Int32 × ZS} (X : CallFix p m c cX7_isLegal 6 s args wsX7_isLegal RX7) (hret : zRi p l e ({ frames := 3, cells := 0, slots := 0, locals := 106 } : Room) s m args below meth c Q cX7_isLegal D y A0 .boolean o) {x0 : Nat} {x1 : Nat} {x2 : Int32} {t0 : Int32} {t1 : Int32} {S : ZS} {H : Heap} {locs : List Loc} {ls : Array Slot} (hf : f_X7_isLegal_66 x0 x1 x2 t0 t1 S = some o) (hM : zH D y A0 s H locs S) (hl : lv_has ls 6 [(0, .ref (zh y x0)), (1, .ref (zh y x1)), (2, .int x2)]) : W p l e ({ frames := 3, cells := 0, slots := 0, locals := 106 } : Room) s m args below meth c H locs 0 0 Q (F0 m 66 ls [.int t0, .int t1]) := by
  obtain ⟨hx, hb, hml, hown, hts⟩ := id X
  unfold f_X7_isLegal_66 at hf
  refine lv_icmp_ne (tgt := 82) hx hb dX7_isLegal_66 (by decide) (fun cc1 => ?_) (fun cc1 => ?_)
  · replace hf := m_ifF hf cc1
    exact w_X7_isLegal_82 X hret hf hM (lv_sub hl [] rfl)
  · replace hf := m_ifT hf cc1
    refine lv_aload_n hx hb dX7_isLegal_69 rfl (lv_at hl 0 rfl) ?_
    refine lv_aload_n hx hb dX7_isLegal_70 rfl (lv_at hl 1 rfl) ?_
    refine lv_iload_n hx hb dX7_isLegal_71 rfl (lv_at hl 2 rfl) ?_
    obtain ⟨ca, hf⟩ := m_chkE hf
    replace ca := z_in hM (by decide) ca
    obtain ⟨o1, ho, hf⟩ := m_calE hf
    refine z_callVi (k := 7) (C := RX7) (T := TX7) (N := 2) (fl := zf_7) X hM rfl zc_7 ca (c_X7_isSafe ho) gX7_isLegal_X7_isSafe rfl ⟨rfl, rfl⟩ hd_X7_isSafe ⟨Nat.le_of_ble_eq_true rfl, Nat.le_of_ble_eq_true rfl⟩ rfl hl.1 rfl (Nat.le_of_ble_eq_true rfl) dX7_isLegal_72 (fun H locs hM => ?_)
    clear ho
    refine lv_if_eq (tgt := 82) hx hb dX7_isLegal_75 (by decide) (fun cc1 => ?_) (fun cc1 => ?_)
    · replace hf := m_ifT hf cc1
      exact w_X7_isLegal_82 X hret hf hM (lv_sub hl [] rfl)
    · replace hf := m_ifF hf cc1
      refine lv_iconst (v := (1 : Int32)) hx hb dX7_isLegal_78 (by decide) ?_
      refine lv_goto (tgt := 83) hx hb dX7_isLegal_79 (by decide) ?_
      exact w_X7_isLegal_83 (t0 := (1 : Int32)) X hret hf hM (lv_sub hl [] rfl)
def f_X7_isLegal_0 (x0 : Nat) (x1 : Nat) (x2 : Int32) (S : ZS) : Option (Int32 × ZS) :=
  m_bnd (x2 &&& (63 : Int32)) (fun v1 =>
  m_bnd (x2 >>> ((6 : Int32) &&& 31)) (fun v2 =>
  m_bnd (v2 &&& (63 : Int32)) (fun v3 =>
  m_bnd (x2 >>> ((12 : Int32) &&& 31)) (fun v4 =>
  m_if (v4 < 0) (
  f_X7_isLegal_47  S
  ) (
  m_if (v4 = (1 : Int32)) (
  f_X7_isLegal_47  S
  ) (
  m_if ((5 : Int32) < v4) (
  f_X7_isLegal_47  S
  ) (
  m_chk (zK S x1 = 0) (
  m_cal (f_X0_reaches x1 v1 v3 S) (fun o5 =>
  m_if (o5.1 = 0) (
  f_X7_isLegal_47  o5.2
  ) (
  m_chk (zK o5.2 x1 = 0) (
  m_cal (f_X0_becomesAnother x1 v1 v3 o5.2) (fun o6 =>
  m_if (v4 = 0) (
  f_X7_isLegal_66 x0 x1 x2 (0 : Int32) o6.1 o6.2
  ) (
  f_X7_isLegal_66 x0 x1 x2 (1 : Int32) o6.1 o6.2
  )))
  )))
  )
  )
  )))))

set_option maxRecDepth 100000 in
set_option maxHeartbeats 4000000 in
theorem w_X7_isLegal_0 {p : Program} {l : Launch} {e : Env} {s : State} {m : MethodId} {args : Array Value} {below : List Frame} {meth : Method} {c : Code} {Q : State → Prop} {D : va_G} {y : Nat → ClassId} {A0 : Nat → Prop} {o : Int32 × ZS} (X : CallFix p m c cX7_isLegal 6 s args wsX7_isLegal RX7) (hret : zRi p l e ({ frames := 3, cells := 0, slots := 0, locals := 106 } : Room) s m args below meth c Q cX7_isLegal D y A0 .boolean o) {x0 : Nat} {x1 : Nat} {x2 : Int32} {S : ZS} {H : Heap} {locs : List Loc} {ls : Array Slot} (hf : f_X7_isLegal_0 x0 x1 x2 S = some o) (hM : zH D y A0 s H locs S) (hl : lv_has ls 6 [(0, .ref (zh y x0)), (1, .ref (zh y x1)), (2, .int x2)]) : W p l e ({ frames := 3, cells := 0, slots := 0, locals := 106 } : Room) s m args below meth c H locs 0 0 Q (F0 m 0 ls []) := by
  obtain ⟨hx, hb, hml, hown, hts⟩ := id X
  unfold f_X7_isLegal_0 at hf
  refine lv_iload_n hx hb dX7_isLegal_0 rfl (lv_at hl 2 rfl) ?_
  refine lv_bipush (v := (63 : Int32)) hx hb dX7_isLegal_1 (by decide) ?_
  refine lv_iand hx hb dX7_isLegal_3 ?_
  obtain ⟨v1, ev, hf⟩ := m_bndE hf
  refine m_top ev ?_
  clear ev
  refine lv_istore_n (lv' := [(3, .int v1), (0, .ref (zh y x0)), (1, .ref (zh y x1)), (2, .int x2)]) hx hb dX7_isLegal_4 rfl hl (by decide) rfl (fun ls hl => ?_)
  refine lv_iload_n hx hb dX7_isLegal_5 rfl (lv_at hl 3 rfl) ?_
  refine lv_bipush (v := (6 : Int32)) hx hb dX7_isLegal_6 (by decide) ?_
  refine lv_ishr hx hb dX7_isLegal_8 ?_
  obtain ⟨v2, ev, hf⟩ := m_bndE hf
  refine m_top ev ?_
  clear ev
  refine lv_bipush (v := (63 : Int32)) hx hb dX7_isLegal_9 (by decide) ?_
  refine lv_iand hx hb dX7_isLegal_11 ?_
  obtain ⟨v3, ev, hf⟩ := m_bndE hf
  refine m_top ev ?_
  clear ev
  refine lv_istore (lv' := [(4, .int v3), (3, .int v1), (0, .ref (zh y x0)), (1, .ref (zh y x1)), (2, .int x2)]) hx hb dX7_isLegal_12 hl (by decide) rfl (fun ls hl => ?_)
  refine lv_iload_n hx hb dX7_isLegal_14 rfl (lv_at hl 4 rfl) ?_
  refine lv_bipush (v := (12 : Int32)) hx hb dX7_isLegal_15 (by decide) ?_
  refine lv_ishr hx hb dX7_isLegal_17 ?_
  obtain ⟨v4, ev, hf⟩ := m_bndE hf
  refine m_top ev ?_
  clear ev
  refine lv_istore (lv' := [(5, .int v4), (4, .int v3), (3, .int v1), (0, .ref (zh y x0)), (1, .ref (zh y x1)), (2, .int x2)]) hx hb dX7_isLegal_18 hl (by decide) rfl (fun ls hl => ?_)
  refine lv_iload hx hb dX7_isLegal_20 (lv_at hl 0 rfl) ?_
  refine lv_if_lt (tgt := 47) hx hb dX7_isLegal_22 (by decide) (fun cc1 => ?_) (fun cc1 => ?_)
  · replace hf := m_ifT hf cc1
    exact w_X7_isLegal_47 X hret hf hM (lv_sub hl [] rfl)
  · replace hf := m_ifF hf cc1
    refine lv_iload hx hb dX7_isLegal_25 (lv_at hl 0 rfl) ?_
    refine lv_iconst (v := (1 : Int32)) hx hb dX7_isLegal_27 (by decide) ?_
    refine lv_icmp_eq (tgt := 47) hx hb dX7_isLegal_28 (by decide) (fun cc1 => ?_) (fun cc1 => ?_)
    · replace hf := m_ifT hf cc1
      exact w_X7_isLegal_47 X hret hf hM (lv_sub hl [] rfl)
    · replace hf := m_ifF hf cc1
      refine lv_iload hx hb dX7_isLegal_31 (lv_at hl 0 rfl) ?_
      refine lv_iconst (v := (5 : Int32)) hx hb dX7_isLegal_33 (by decide) ?_
      refine lv_icmp_gt (tgt := 47) hx hb dX7_isLegal_34 (by decide) (fun cc1 => ?_) (fun cc1 => ?_)
      · replace hf := m_ifT hf cc1
        exact w_X7_isLegal_47 X hret hf hM (lv_sub hl [] rfl)
      · replace hf := m_ifF hf cc1
        refine lv_aload_n hx hb dX7_isLegal_37 rfl (lv_at hl 4 rfl) ?_
        refine lv_iload_n hx hb dX7_isLegal_38 rfl (lv_at hl 2 rfl) ?_
        refine lv_iload hx hb dX7_isLegal_39 (lv_at hl 1 rfl) ?_
        obtain ⟨ca, hf⟩ := m_chkE hf
        replace ca := z_in hM (by decide) ca
        obtain ⟨o5, ho, hf⟩ := m_calE hf
        refine z_callVi (k := 0) (C := RX0) (T := TX0) (N := 7) (fl := zf_0) X hM rfl zc_0 ca (c_X0_reaches ho) gX7_isLegal_X0_reaches rfl ⟨rfl, rfl⟩ hd_X0_reaches ⟨Nat.le_of_ble_eq_true rfl, Nat.le_of_ble_eq_true rfl⟩ rfl hl.1 rfl (Nat.le_of_ble_eq_true rfl) dX7_isLegal_41 (fun H locs hM => ?_)
        clear ho
        refine lv_if_ne (tgt := 49) hx hb dX7_isLegal_44 (by decide) (fun cc1 => ?_) (fun cc1 => ?_)
        · replace hf := m_ifF hf cc1
          refine lv_aload_n hx hb dX7_isLegal_49 rfl (lv_at hl 4 rfl) ?_
          refine lv_iload_n hx hb dX7_isLegal_50 rfl (lv_at hl 2 rfl) ?_
          refine lv_iload hx hb dX7_isLegal_51 (lv_at hl 1 rfl) ?_
          obtain ⟨ca, hf⟩ := m_chkE hf
          replace ca := z_in hM (by decide) ca
          obtain ⟨o6, ho, hf⟩ := m_calE hf
          refine z_callVi (k := 0) (C := RX0) (T := TX0) (N := 7) (fl := zf_0) X hM rfl zc_0 ca (c_X0_becomesAnother ho) gX7_isLegal_X0_becomesAnother rfl ⟨rfl, rfl⟩ hd_X0_becomesAnother ⟨Nat.le_of_ble_eq_true rfl, Nat.le_of_ble_eq_true rfl⟩ rfl hl.1 rfl (Nat.le_of_ble_eq_true rfl) dX7_isLegal_53 (fun H locs hM => ?_)
          clear ho
          refine lv_iload hx hb dX7_isLegal_56 (lv_at hl 0 rfl) ?_
          refine lv_if_eq (tgt := 65) hx hb dX7_isLegal_58 (by decide) (fun cc1 => ?_) (fun cc1 => ?_)
          · replace hf := m_ifT hf cc1
            refine lv_iconst (v := (0 : Int32)) hx hb dX7_isLegal_65 (by decide) ?_
            exact w_X7_isLegal_66 (x0 := x0) (x1 := x1) (x2 := x2) (t0 := (0 : Int32)) (t1 := o6.1) X hret hf hM (lv_sub hl [3, 4, 5] rfl)
          · replace hf := m_ifF hf cc1
            refine lv_iconst (v := (1 : Int32)) hx hb dX7_isLegal_61 (by decide) ?_
            refine lv_goto (tgt := 66) hx hb dX7_isLegal_62 (by decide) ?_
            exact w_X7_isLegal_66 (x0 := x0) (x1 := x1) (x2 := x2) (t0 := (1 : Int32)) (t1 := o6.1) X hret hf hM (lv_sub hl [3, 4, 5] rfl)
        · replace hf := m_ifT hf cc1
          exact w_X7_isLegal_47 X hret hf hM (lv_sub hl [] rfl)
def f_X7_isLegal (x0 : Nat) (x1 : Nat) (x2 : Int32) (S : ZS) : Option (Int32 × ZS) := f_X7_isLegal_0 x0 x1 x2 S
theorem c_X7_isLegal {l : Launch} {D : va_G} {y : Nat → ClassId} {x0 : Nat} {x1 : Nat} {x2 : Int32} {S : ZS} {o : Int32 × ZS} (hf : f_X7_isLegal x0 x1 x2 S = some o) : zMi l yX7_isLegal wsX7_isLegal ({ frames := 3, cells := 0, slots := 0, locals := 106 } : Room) [.ref (zh y x0), .ref (zh y x1), .int x2] D y S o :=
  z_entryI (own := RX7) (cc := cX7_isLegal) (maxL := 6) (by decide) rfl rfl (Nat.le_of_ble_eq_true rfl) (fun p e s m args below meth c A0 Q H locs ls X hret hM hl => w_X7_isLegal_0 X hret hf hM (lv_sub hl [0, 1, 2] rfl))
theorem hd_X7_legalMove : yX7_legalMove.cls = RX7 ∧ yX7_legalMove.cls ≠ "java/lang/invoke/MethodHandle" ∧ yX7_legalMove.cls ≠ "java/lang/invoke/VarHandle" ∧ (parseMethodDescriptor yX7_legalMove.desc).map (fun d => d.parameters.length) = some 2 := by decide +kernel
def f_X7_legalMove_110 (self11 : Nat → Nat → Int32 → Int32 → ZS → Option (Int32 × ZS)) (self21 : Nat → Nat → Int32 → Int32 → Int32 → ZS → Option (Int32 × ZS)) (x0 : Nat) (x1 : Nat) (x3 : Int32) (x4 : Int32) (x5 : Int32) (S : ZS) : Option (Int32 × ZS) :=
  m_bnd (x5 + (1 : Int32)) (fun v1 =>
  self21 x0 x1 x3 x4 v1 S)

set_option maxRecDepth 100000 in
set_option maxHeartbeats 4000000 in
theorem w_X7_legalMove_110 {p : Program} {l : Launch} {e : Env} {s : State} {m : MethodId} {args : Array Value} {below : List Frame} {meth : Method} {c : Code} {Q : State → Prop} {D : va_G} {y : Nat → ClassId} {A0 : Nat → Prop} {o : Int32 × ZS} (X : CallFix p m c cX7_legalMove 8 s args wsX7_legalMove RX7) (hret : zRi p l e ({ frames := 3, cells := 0, slots := 0, locals := 106 } : Room) s m args below meth c Q cX7_legalMove D y A0 .int o) {self11 : Nat → Nat → Int32 → Int32 → ZS → Option (Int32 × ZS)} (hself11 : ∀ (x0 : Nat) (x1 : Nat) (x3 : Int32) (x4 : Int32) (S : ZS) (H : Heap) (locs : List Loc) (ls : Array Slot), self11 x0 x1 x3 x4 S = some o → zH D y A0 s H locs S → lv_has ls 8 [(0, .ref (zh y x0)), (1, .ref (zh y x1)), (3, .int x3), (4, .int x4)] → W p l e ({ frames := 3, cells := 0, slots := 0, locals := 106 } : Room) s m args below meth c H locs 0 0 Q (F0 m 11 ls [])) {self21 : Nat → Nat → Int32 → Int32 → Int32 → ZS → Option (Int32 × ZS)} (hself21 : ∀ (x0 : Nat) (x1 : Nat) (x3 : Int32) (x4 : Int32) (x5 : Int32) (S : ZS) (H : Heap) (locs : List Loc) (ls : Array Slot), self21 x0 x1 x3 x4 x5 S = some o → zH D y A0 s H locs S → lv_has ls 8 [(0, .ref (zh y x0)), (1, .ref (zh y x1)), (3, .int x3), (4, .int x4), (5, .int x5)] → W p l e ({ frames := 3, cells := 0, slots := 0, locals := 106 } : Room) s m args below meth c H locs 0 0 Q (F0 m 21 ls [])) {x0 : Nat} {x1 : Nat} {x3 : Int32} {x4 : Int32} {x5 : Int32} {S : ZS} {H : Heap} {locs : List Loc} {ls : Array Slot} (hf : f_X7_legalMove_110 self11 self21 x0 x1 x3 x4 x5 S = some o) (hM : zH D y A0 s H locs S) (hl : lv_has ls 8 [(0, .ref (zh y x0)), (1, .ref (zh y x1)), (3, .int x3), (4, .int x4), (5, .int x5)]) : W p l e ({ frames := 3, cells := 0, slots := 0, locals := 106 } : Room) s m args below meth c H locs 0 0 Q (F0 m 110 ls []) := by
  obtain ⟨hx, hb, hml, hown, hts⟩ := id X
  unfold f_X7_legalMove_110 at hf
  obtain ⟨v1, ev, hf⟩ := m_bndE hf
  refine lv_iinc (v := v1) (lv' := [(5, .int v1), (0, .ref (zh y x0)), (1, .ref (zh y x1)), (3, .int x3), (4, .int x4)]) hx hb dX7_legalMove_110 hl (k := 4) rfl (by rw [ev]; rfl) (by decide) rfl (fun ls hl => ?_)
  clear ev
  refine lv_goto (tgt := 21) hx hb dX7_legalMove_113 (by decide) ?_
  exact hself21 x0 x1 x3 x4 v1 _ _ _ _ hf hM (lv_sub hl [1, 2, 3, 4, 0] rfl)
def f_X7_legalMove_104 (t0 : Int32) (S : ZS) : Option (Int32 × ZS) :=
  some (t0, S)

set_option maxRecDepth 100000 in
set_option maxHeartbeats 4000000 in
theorem w_X7_legalMove_104 {p : Program} {l : Launch} {e : Env} {s : State} {m : MethodId} {args : Array Value} {below : List Frame} {meth : Method} {c : Code} {Q : State → Prop} {D : va_G} {y : Nat → ClassId} {A0 : Nat → Prop} {o : Int32 × ZS} (X : CallFix p m c cX7_legalMove 8 s args wsX7_legalMove RX7) (hret : zRi p l e ({ frames := 3, cells := 0, slots := 0, locals := 106 } : Room) s m args below meth c Q cX7_legalMove D y A0 .int o) {t0 : Int32} {S : ZS} {H : Heap} {locs : List Loc} {ls : Array Slot} (hf : f_X7_legalMove_104 t0 S = some o) (hM : zH D y A0 s H locs S) (hl : lv_has ls 8 []) : W p l e ({ frames := 3, cells := 0, slots := 0, locals := 106 } : Room) s m args below meth c H locs 0 0 Q (F0 m 104 ls [.int t0]) := by
  obtain ⟨hx, hb, hml, hown, hts⟩ := id X
  unfold f_X7_legalMove_104 at hf
  cases hf
  exact hret H locs _ ls hM rfl dX7_legalMove_104
def f_X7_legalMove_75 (self11 : Nat → Nat → Int32 → Int32 → ZS → Option (Int32 × ZS)) (self21 : Nat → Nat → Int32 → Int32 → Int32 → ZS → Option (Int32 × ZS)) (x0 : Nat) (x1 : Nat) (x3 : Int32) (x4 : Int32) (x5 : Int32) (x6 : Int32) (t0 : Int32) (S : ZS) : Option (Int32 × ZS) :=
  m_if (t0 ≤ x3) (
  m_bnd (x3 - t0) (fun v1 =>
  f_X7_legalMove_110 self11 self21 x0 x1 v1 x4 x5 S)
  ) (
  m_if (t0 = (1 : Int32)) (
  f_X7_legalMove_104 x6 S
  ) (
  m_bnd ((2 : Int32) + x3) (fun v2 =>
  m_bnd ((4096 : Int32) * v2) (fun v3 =>
  m_bnd (x6 + v3) (fun v4 =>
  f_X7_legalMove_104 v4 S)))
  )
  )

set_option maxRecDepth 100000 in
set_option maxHeartbeats 4000000 in
theorem w_X7_legalMove_75 {p : Program} {l : Launch} {e : Env} {s : State} {m : MethodId} {args : Array Value} {below : List Frame} {meth : Method} {c : Code} {Q : State → Prop} {D : va_G} {y : Nat → ClassId} {A0 : Nat → Prop} {o : Int32 × ZS} (X : CallFix p m c cX7_legalMove 8 s args wsX7_legalMove RX7) (hret : zRi p l e ({ frames := 3, cells := 0, slots := 0, locals := 106 } : Room) s m args below meth c Q cX7_legalMove D y A0 .int o) {self11 : Nat → Nat → Int32 → Int32 → ZS → Option (Int32 × ZS)} (hself11 : ∀ (x0 : Nat) (x1 : Nat) (x3 : Int32) (x4 : Int32) (S : ZS) (H : Heap) (locs : List Loc) (ls : Array Slot), self11 x0 x1 x3 x4 S = some o → zH D y A0 s H locs S → lv_has ls 8 [(0, .ref (zh y x0)), (1, .ref (zh y x1)), (3, .int x3), (4, .int x4)] → W p l e ({ frames := 3, cells := 0, slots := 0, locals := 106 } : Room) s m args below meth c H locs 0 0 Q (F0 m 11 ls [])) {self21 : Nat → Nat → Int32 → Int32 → Int32 → ZS → Option (Int32 × ZS)} (hself21 : ∀ (x0 : Nat) (x1 : Nat) (x3 : Int32) (x4 : Int32) (x5 : Int32) (S : ZS) (H : Heap) (locs : List Loc) (ls : Array Slot), self21 x0 x1 x3 x4 x5 S = some o → zH D y A0 s H locs S → lv_has ls 8 [(0, .ref (zh y x0)), (1, .ref (zh y x1)), (3, .int x3), (4, .int x4), (5, .int x5)] → W p l e ({ frames := 3, cells := 0, slots := 0, locals := 106 } : Room) s m args below meth c H locs 0 0 Q (F0 m 21 ls [])) {x0 : Nat} {x1 : Nat} {x3 : Int32} {x4 : Int32} {x5 : Int32} {x6 : Int32} {t0 : Int32} {S : ZS} {H : Heap} {locs : List Loc} {ls : Array Slot} (hf : f_X7_legalMove_75 self11 self21 x0 x1 x3 x4 x5 x6 t0 S = some o) (hM : zH D y A0 s H locs S) (hl : lv_has ls 8 [(0, .ref (zh y x0)), (1, .ref (zh y x1)), (3, .int x3), (4, .int x4), (5, .int x5), (6, .int x6)]) : W p l e ({ frames := 3, cells := 0, slots := 0, locals := 106 } : Room) s m args below meth c H locs 0 0 Q (F0 m 75 ls [.int t0]) := by
  obtain ⟨hx, hb, hml, hown, hts⟩ := id X
  unfold f_X7_legalMove_75 at hf
  refine lv_istore (lv' := [(7, .int t0), (0, .ref (zh y x0)), (1, .ref (zh y x1)), (3, .int x3), (4, .int x4), (5, .int x5), (6, .int x6)]) hx hb dX7_legalMove_75 hl (by decide) rfl (fun ls hl => ?_)
  refine lv_iload_n hx hb dX7_legalMove_77 rfl (lv_at hl 3 rfl) ?_
  refine lv_iload hx hb dX7_legalMove_78 (lv_at hl 0 rfl) ?_
  refine lv_icmp_ge (tgt := 105) hx hb dX7_legalMove_80 (by decide) (fun cc1 => ?_) (fun cc1 => ?_)
  · replace hf := m_ifT hf cc1
    refine lv_iload_n hx hb dX7_legalMove_105 rfl (lv_at hl 3 rfl) ?_
    refine lv_iload hx hb dX7_legalMove_106 (lv_at hl 0 rfl) ?_
    refine lv_isub hx hb dX7_legalMove_108 ?_
    obtain ⟨v1, ev, hf⟩ := m_bndE hf
    refine m_top ev ?_
    clear ev
    refine lv_istore_n (lv' := [(3, .int v1), (7, .int t0), (0, .ref (zh y x0)), (1, .ref (zh y x1)), (4, .int x4), (5, .int x5), (6, .int x6)]) hx hb dX7_legalMove_109 rfl hl (by decide) rfl (fun ls hl => ?_)
    exact w_X7_legalMove_110 (x0 := x0) (x1 := x1) (x3 := v1) (x4 := x4) (x5 := x5) X hret hself11 hself21 hf hM (lv_sub hl [2, 3, 0, 4, 5] rfl)
  · replace hf := m_ifF hf cc1
    refine lv_iload hx hb dX7_legalMove_83 (lv_at hl 0 rfl) ?_
    refine lv_iconst (v := (1 : Int32)) hx hb dX7_legalMove_85 (by decide) ?_
    refine lv_icmp_ne (tgt := 94) hx hb dX7_legalMove_86 (by decide) (fun cc1 => ?_) (fun cc1 => ?_)
    · replace hf := m_ifF hf cc1
      refine lv_iload hx hb dX7_legalMove_94 (lv_at hl 6 rfl) ?_
      refine lv_sipush (v := (4096 : Int32)) hx hb dX7_legalMove_96 (by decide) ?_
      refine lv_iconst (v := (2 : Int32)) hx hb dX7_legalMove_99 (by decide) ?_
      refine lv_iload_n hx hb dX7_legalMove_100 rfl (lv_at hl 3 rfl) ?_
      refine lv_iadd hx hb dX7_legalMove_101 ?_
      obtain ⟨v2, ev, hf⟩ := m_bndE hf
      refine m_top ev ?_
      clear ev
      refine lv_imul hx hb dX7_legalMove_102 ?_
      obtain ⟨v3, ev, hf⟩ := m_bndE hf
      refine m_top ev ?_
      clear ev
      refine lv_iadd hx hb dX7_legalMove_103 ?_
      obtain ⟨v4, ev, hf⟩ := m_bndE hf
      refine m_top ev ?_
      clear ev
      exact w_X7_legalMove_104 (t0 := v4) X hret hf hM (lv_sub hl [] rfl)
    · replace hf := m_ifT hf cc1
      refine lv_iload hx hb dX7_legalMove_89 (lv_at hl 6 rfl) ?_
      refine lv_goto (tgt := 104) hx hb dX7_legalMove_91 (by decide) ?_
      exact w_X7_legalMove_104 (t0 := x6) X hret hf hM (lv_sub hl [] rfl)
def f_X7_legalMove_21s (self11 : Nat → Nat → Int32 → Int32 → ZS → Option (Int32 × ZS)) (self21 : Nat → Nat → Int32 → Int32 → Int32 → ZS → Option (Int32 × ZS)) (x0 : Nat) (x1 : Nat) (x3 : Int32) (x4 : Int32) (x5 : Int32) (S : ZS) : Option (Int32 × ZS) :=
  m_if ((64 : Int32) ≤ x5) (
  m_bnd (x4 + (1 : Int32)) (fun v1 =>
  self11 x0 x1 x3 v1 S)
  ) (
  m_bnd ((64 : Int32) * x5) (fun v2 =>
  m_bnd (x4 + v2) (fun v3 =>
  m_chk (zK S x1 = 0) (
  m_cal (f_X0_reaches x1 x4 x5 S) (fun o4 =>
  m_if (o4.1 = 0) (
  f_X7_legalMove_110 self11 self21 x0 x1 x3 x4 x5 o4.2
  ) (
  m_chk (zK o4.2 x0 = 7) (
  m_cal (f_X7_isSafe x0 x1 v3 o4.2) (fun o5 =>
  m_if (o5.1 = 0) (
  f_X7_legalMove_110 self11 self21 x0 x1 x3 x4 x5 o5.2
  ) (
  m_chk (zK o5.2 x1 = 0) (
  m_cal (f_X0_becomesAnother x1 x4 x5 o5.2) (fun o6 =>
  m_if (o6.1 = 0) (
  f_X7_legalMove_75 self11 self21 x0 x1 x3 x4 x5 v3 (1 : Int32) o6.2
  ) (
  f_X7_legalMove_75 self11 self21 x0 x1 x3 x4 x5 v3 (4 : Int32) o6.2
  )))
  )))
  )))))
  )

set_option maxRecDepth 100000 in
set_option maxHeartbeats 4000000 in
theorem ws_X7_legalMove_21 {p : Program} {l : Launch} {e : Env} {s : State} {m : MethodId} {args : Array Value} {below : List Frame} {meth : Method} {c : Code} {Q : State → Prop} {D : va_G} {y : Nat → ClassId} {A0 : Nat → Prop} {o : Int32 × ZS} (X : CallFix p m c cX7_legalMove 8 s args wsX7_legalMove RX7) (hret : zRi p l e ({ frames := 3, cells := 0, slots := 0, locals := 106 } : Room) s m args below meth c Q cX7_legalMove D y A0 .int o) {self11 : Nat → Nat → Int32 → Int32 → ZS → Option (Int32 × ZS)} (hself11 : ∀ (x0 : Nat) (x1 : Nat) (x3 : Int32) (x4 : Int32) (S : ZS) (H : Heap) (locs : List Loc) (ls : Array Slot), self11 x0 x1 x3 x4 S = some o → zH D y A0 s H locs S → lv_has ls 8 [(0, .ref (zh y x0)), (1, .ref (zh y x1)), (3, .int x3), (4, .int x4)] → W p l e ({ frames := 3, cells := 0, slots := 0, locals := 106 } : Room) s m args below meth c H locs 0 0 Q (F0 m 11 ls [])) {self21 : Nat → Nat → Int32 → Int32 → Int32 → ZS → Option (Int32 × ZS)} (hself21 : ∀ (x0 : Nat) (x1 : Nat) (x3 : Int32) (x4 : Int32) (x5 : Int32) (S : ZS) (H : Heap) (locs : List Loc) (ls : Array Slot), self21 x0 x1 x3 x4 x5 S = some o → zH D y A0 s H locs S → lv_has ls 8 [(0, .ref (zh y x0)), (1, .ref (zh y x1)), (3, .int x3), (4, .int x4), (5, .int x5)] → W p l e ({ frames := 3, cells := 0, slots := 0, locals := 106 } : Room) s m args below meth c H locs 0 0 Q (F0 m 21 ls [])) {x0 : Nat} {x1 : Nat} {x3 : Int32} {x4 : Int32} {x5 : Int32} {S : ZS} {H : Heap} {locs : List Loc} {ls : Array Slot} (hf : f_X7_legalMove_21s self11 self21 x0 x1 x3 x4 x5 S = some o) (hM : zH D y A0 s H locs S) (hl : lv_has ls 8 [(0, .ref (zh y x0)), (1, .ref (zh y x1)), (3, .int x3), (4, .int x4), (5, .int x5)]) : W p l e ({ frames := 3, cells := 0, slots := 0, locals := 106 } : Room) s m args below meth c H locs 0 0 Q (F0 m 21 ls []) := by
  obtain ⟨hx, hb, hml, hown, hts⟩ := id X
  unfold f_X7_legalMove_21s at hf
  refine lv_iload hx hb dX7_legalMove_21 (lv_at hl 4 rfl) ?_
  refine lv_bipush (v := (64 : Int32)) hx hb dX7_legalMove_23 (by decide) ?_
  refine lv_icmp_ge (tgt := 116) hx hb dX7_legalMove_25 (by decide) (fun cc1 => ?_) (fun cc1 => ?_)
  · replace hf := m_ifT hf cc1
    obtain ⟨v1, ev, hf⟩ := m_bndE hf
    refine lv_iinc (v := v1) (lv' := [(4, .int v1), (0, .ref (zh y x0)), (1, .ref (zh y x1)), (3, .int x3), (5, .int x5)]) hx hb dX7_legalMove_116 hl (k := 3) rfl (by rw [ev]; rfl) (by decide) rfl (fun ls hl => ?_)
    clear ev
    refine lv_goto (tgt := 11) hx hb dX7_legalMove_119 (by decide) ?_
    exact hself11 x0 x1 x3 v1 _ _ _ _ hf hM (lv_sub hl [1, 2, 3, 0] rfl)
  · replace hf := m_ifF hf cc1
    refine lv_iload hx hb dX7_legalMove_28 (lv_at hl 3 rfl) ?_
    refine lv_bipush (v := (64 : Int32)) hx hb dX7_legalMove_30 (by decide) ?_
    refine lv_iload hx hb dX7_legalMove_32 (lv_at hl 4 rfl) ?_
    refine lv_imul hx hb dX7_legalMove_34 ?_
    obtain ⟨v2, ev, hf⟩ := m_bndE hf
    refine m_top ev ?_
    clear ev
    refine lv_iadd hx hb dX7_legalMove_35 ?_
    obtain ⟨v3, ev, hf⟩ := m_bndE hf
    refine m_top ev ?_
    clear ev
    refine lv_istore (lv' := [(6, .int v3), (0, .ref (zh y x0)), (1, .ref (zh y x1)), (3, .int x3), (4, .int x4), (5, .int x5)]) hx hb dX7_legalMove_36 hl (by decide) rfl (fun ls hl => ?_)
    refine lv_aload_n hx hb dX7_legalMove_38 rfl (lv_at hl 2 rfl) ?_
    refine lv_iload hx hb dX7_legalMove_39 (lv_at hl 4 rfl) ?_
    refine lv_iload hx hb dX7_legalMove_41 (lv_at hl 5 rfl) ?_
    obtain ⟨ca, hf⟩ := m_chkE hf
    replace ca := z_in hM (by decide) ca
    obtain ⟨o4, ho, hf⟩ := m_calE hf
    refine z_callVi (k := 0) (C := RX0) (T := TX0) (N := 7) (fl := zf_0) X hM rfl zc_0 ca (c_X0_reaches ho) gX7_legalMove_X0_reaches rfl ⟨rfl, rfl⟩ hd_X0_reaches ⟨Nat.le_of_ble_eq_true rfl, Nat.le_of_ble_eq_true rfl⟩ rfl hl.1 rfl (Nat.le_of_ble_eq_true rfl) dX7_legalMove_43 (fun H locs hM => ?_)
    clear ho
    refine lv_if_eq (tgt := 110) hx hb dX7_legalMove_46 (by decide) (fun cc1 => ?_) (fun cc1 => ?_)
    · replace hf := m_ifT hf cc1
      exact w_X7_legalMove_110 (x0 := x0) (x1 := x1) (x3 := x3) (x4 := x4) (x5 := x5) X hret hself11 hself21 hf hM (lv_sub hl [1, 2, 3, 4, 5] rfl)
    · replace hf := m_ifF hf cc1
      refine lv_aload_n hx hb dX7_legalMove_49 rfl (lv_at hl 1 rfl) ?_
      refine lv_aload_n hx hb dX7_legalMove_50 rfl (lv_at hl 2 rfl) ?_
      refine lv_iload hx hb dX7_legalMove_51 (lv_at hl 0 rfl) ?_
      obtain ⟨ca, hf⟩ := m_chkE hf
      replace ca := z_in hM (by decide) ca
      obtain ⟨o5, ho, hf⟩ := m_calE hf
      refine z_callVi (k := 7) (C := RX7) (T := TX7) (N := 2) (fl := zf_7) X hM rfl zc_7 ca (c_X7_isSafe ho) gX7_legalMove_X7_isSafe rfl ⟨rfl, rfl⟩ hd_X7_isSafe ⟨Nat.le_of_ble_eq_true rfl, Nat.le_of_ble_eq_true rfl⟩ rfl hl.1 rfl (Nat.le_of_ble_eq_true rfl) dX7_legalMove_53 (fun H locs hM => ?_)
      clear ho
      refine lv_if_eq (tgt := 110) hx hb dX7_legalMove_56 (by decide) (fun cc1 => ?_) (fun cc1 => ?_)
      · replace hf := m_ifT hf cc1
        exact w_X7_legalMove_110 (x0 := x0) (x1 := x1) (x3 := x3) (x4 := x4) (x5 := x5) X hret hself11 hself21 hf hM (lv_sub hl [1, 2, 3, 4, 5] rfl)
      · replace hf := m_ifF hf cc1
        refine lv_aload_n hx hb dX7_legalMove_59 rfl (lv_at hl 2 rfl) ?_
        refine lv_iload hx hb dX7_legalMove_60 (lv_at hl 4 rfl) ?_
        refine lv_iload hx hb dX7_legalMove_62 (lv_at hl 5 rfl) ?_
        obtain ⟨ca, hf⟩ := m_chkE hf
        replace ca := z_in hM (by decide) ca
        obtain ⟨o6, ho, hf⟩ := m_calE hf
        refine z_callVi (k := 0) (C := RX0) (T := TX0) (N := 7) (fl := zf_0) X hM rfl zc_0 ca (c_X0_becomesAnother ho) gX7_legalMove_X0_becomesAnother rfl ⟨rfl, rfl⟩ hd_X0_becomesAnother ⟨Nat.le_of_ble_eq_true rfl, Nat.le_of_ble_eq_true rfl⟩ rfl hl.1 rfl (Nat.le_of_ble_eq_true rfl) dX7_legalMove_64 (fun H locs hM => ?_)
        clear ho
        refine lv_if_eq (tgt := 74) hx hb dX7_legalMove_67 (by decide) (fun cc1 => ?_) (fun cc1 => ?_)
        · replace hf := m_ifT hf cc1
          refine lv_iconst (v := (1 : Int32)) hx hb dX7_legalMove_74 (by decide) ?_
          exact w_X7_legalMove_75 (x0 := x0) (x1 := x1) (x3 := x3) (x4 := x4) (x5 := x5) (x6 := v3) (t0 := (1 : Int32)) X hret hself11 hself21 hf hM (lv_sub hl [1, 2, 3, 4, 5, 0] rfl)
        · replace hf := m_ifF hf cc1
          refine lv_iconst (v := (4 : Int32)) hx hb dX7_legalMove_70 (by decide) ?_
          refine lv_goto (tgt := 75) hx hb dX7_legalMove_71 (by decide) ?_
          exact w_X7_legalMove_75 (x0 := x0) (x1 := x1) (x3 := x3) (x4 := x4) (x5 := x5) (x6 := v3) (t0 := (4 : Int32)) X hret hself11 hself21 hf hM (lv_sub hl [1, 2, 3, 4, 5, 0] rfl)
def f_X7_legalMove_21 (self11 : Nat → Nat → Int32 → Int32 → ZS → Option (Int32 × ZS)) : Nat → Nat → Nat → Int32 → Int32 → Int32 → ZS → Option (Int32 × ZS)
  | 0 => fun _ _ _ _ _ _ => none
  | n + 1 => f_X7_legalMove_21s self11 (f_X7_legalMove_21 self11 n)
theorem w_X7_legalMove_21 {p : Program} {l : Launch} {e : Env} {s : State} {m : MethodId} {args : Array Value} {below : List Frame} {meth : Method} {c : Code} {Q : State → Prop} {D : va_G} {y : Nat → ClassId} {A0 : Nat → Prop} {o : Int32 × ZS} (X : CallFix p m c cX7_legalMove 8 s args wsX7_legalMove RX7) (hret : zRi p l e ({ frames := 3, cells := 0, slots := 0, locals := 106 } : Room) s m args below meth c Q cX7_legalMove D y A0 .int o) {self11 : Nat → Nat → Int32 → Int32 → ZS → Option (Int32 × ZS)} (hself11 : ∀ (x0 : Nat) (x1 : Nat) (x3 : Int32) (x4 : Int32) (S : ZS) (H : Heap) (locs : List Loc) (ls : Array Slot), self11 x0 x1 x3 x4 S = some o → zH D y A0 s H locs S → lv_has ls 8 [(0, .ref (zh y x0)), (1, .ref (zh y x1)), (3, .int x3), (4, .int x4)] → W p l e ({ frames := 3, cells := 0, slots := 0, locals := 106 } : Room) s m args below meth c H locs 0 0 Q (F0 m 11 ls [])) (n : Nat) : ∀ (x0 : Nat) (x1 : Nat) (x3 : Int32) (x4 : Int32) (x5 : Int32) (S : ZS) (H : Heap) (locs : List Loc) (ls : Array Slot), f_X7_legalMove_21 self11 n x0 x1 x3 x4 x5 S = some o → zH D y A0 s H locs S → lv_has ls 8 [(0, .ref (zh y x0)), (1, .ref (zh y x1)), (3, .int x3), (4, .int x4), (5, .int x5)] → W p l e ({ frames := 3, cells := 0, slots := 0, locals := 106 } : Room) s m args below meth c H locs 0 0 Q (F0 m 21 ls []) := by
  induction n with
  | zero => intro x0 x1 x3 x4 x5 S H locs ls hf; cases hf
  | succ n ih => intro x0 x1 x3 x4 x5 S H locs ls hf hM hl; exact ws_X7_legalMove_21 X hret hself11 (self21 := f_X7_legalMove_21 self11 n) ih hf hM hl
def f_X7_legalMove_11s (self11 : Nat → Nat → Int32 → Int32 → ZS → Option (Int32 × ZS)) (x0 : Nat) (x1 : Nat) (x3 : Int32) (x4 : Int32) (S : ZS) : Option (Int32 × ZS) :=
  m_if ((64 : Int32) ≤ x4) (
  some ((-1 : Int32), S)
  ) (
  f_X7_legalMove_21 self11 mFuel x0 x1 x3 x4 (0 : Int32) S
  )

set_option maxRecDepth 100000 in
set_option maxHeartbeats 4000000 in
theorem ws_X7_legalMove_11 {p : Program} {l : Launch} {e : Env} {s : State} {m : MethodId} {args : Array Value} {below : List Frame} {meth : Method} {c : Code} {Q : State → Prop} {D : va_G} {y : Nat → ClassId} {A0 : Nat → Prop} {o : Int32 × ZS} (X : CallFix p m c cX7_legalMove 8 s args wsX7_legalMove RX7) (hret : zRi p l e ({ frames := 3, cells := 0, slots := 0, locals := 106 } : Room) s m args below meth c Q cX7_legalMove D y A0 .int o) {self11 : Nat → Nat → Int32 → Int32 → ZS → Option (Int32 × ZS)} (hself11 : ∀ (x0 : Nat) (x1 : Nat) (x3 : Int32) (x4 : Int32) (S : ZS) (H : Heap) (locs : List Loc) (ls : Array Slot), self11 x0 x1 x3 x4 S = some o → zH D y A0 s H locs S → lv_has ls 8 [(0, .ref (zh y x0)), (1, .ref (zh y x1)), (3, .int x3), (4, .int x4)] → W p l e ({ frames := 3, cells := 0, slots := 0, locals := 106 } : Room) s m args below meth c H locs 0 0 Q (F0 m 11 ls [])) {x0 : Nat} {x1 : Nat} {x3 : Int32} {x4 : Int32} {S : ZS} {H : Heap} {locs : List Loc} {ls : Array Slot} (hf : f_X7_legalMove_11s self11 x0 x1 x3 x4 S = some o) (hM : zH D y A0 s H locs S) (hl : lv_has ls 8 [(0, .ref (zh y x0)), (1, .ref (zh y x1)), (3, .int x3), (4, .int x4)]) : W p l e ({ frames := 3, cells := 0, slots := 0, locals := 106 } : Room) s m args below meth c H locs 0 0 Q (F0 m 11 ls []) := by
  obtain ⟨hx, hb, hml, hown, hts⟩ := id X
  unfold f_X7_legalMove_11s at hf
  refine lv_iload hx hb dX7_legalMove_11 (lv_at hl 3 rfl) ?_
  refine lv_bipush (v := (64 : Int32)) hx hb dX7_legalMove_13 (by decide) ?_
  refine lv_icmp_ge (tgt := 122) hx hb dX7_legalMove_15 (by decide) (fun cc1 => ?_) (fun cc1 => ?_)
  · replace hf := m_ifT hf cc1
    refine lv_iconst (v := (-1 : Int32)) hx hb dX7_legalMove_122 (by decide) ?_
    cases hf
    exact hret H locs _ ls hM rfl dX7_legalMove_123
  · replace hf := m_ifF hf cc1
    refine lv_iconst (v := (0 : Int32)) hx hb dX7_legalMove_18 (by decide) ?_
    refine lv_istore (lv' := [(5, .int (0 : Int32)), (0, .ref (zh y x0)), (1, .ref (zh y x1)), (3, .int x3), (4, .int x4)]) hx hb dX7_legalMove_19 hl (by decide) rfl (fun ls hl => ?_)
    exact w_X7_legalMove_21 X hret hself11 _ x0 x1 x3 x4 (0 : Int32) _ _ _ _ hf hM (lv_sub hl [1, 2, 3, 4, 0] rfl)
def f_X7_legalMove_11 : Nat → Nat → Nat → Int32 → Int32 → ZS → Option (Int32 × ZS)
  | 0 => fun _ _ _ _ _ => none
  | n + 1 => f_X7_legalMove_11s (f_X7_legalMove_11 n)
theorem w_X7_legalMove_11 {p : Program} {l : Launch} {e : Env} {s : State} {m : MethodId} {args : Array Value} {below : List Frame} {meth : Method} {c : Code} {Q : State → Prop} {D : va_G} {y : Nat → ClassId} {A0 : Nat → Prop} {o : Int32 × ZS} (X : CallFix p m c cX7_legalMove 8 s args wsX7_legalMove RX7) (hret : zRi p l e ({ frames := 3, cells := 0, slots := 0, locals := 106 } : Room) s m args below meth c Q cX7_legalMove D y A0 .int o) (n : Nat) : ∀ (x0 : Nat) (x1 : Nat) (x3 : Int32) (x4 : Int32) (S : ZS) (H : Heap) (locs : List Loc) (ls : Array Slot), f_X7_legalMove_11 n x0 x1 x3 x4 S = some o → zH D y A0 s H locs S → lv_has ls 8 [(0, .ref (zh y x0)), (1, .ref (zh y x1)), (3, .int x3), (4, .int x4)] → W p l e ({ frames := 3, cells := 0, slots := 0, locals := 106 } : Room) s m args below meth c H locs 0 0 Q (F0 m 11 ls []) := by
  induction n with
  | zero => intro x0 x1 x3 x4 S H locs ls hf; cases hf
  | succ n ih => intro x0 x1 x3 x4 S H locs ls hf hM hl; exact ws_X7_legalMove_11 X hret (self11 := f_X7_legalMove_11 n) ih hf hM hl
def f_X7_legalMove_0 (x0 : Nat) (x1 : Nat) (x2 : Int32) (S : ZS) : Option (Int32 × ZS) :=
  m_if (0 ≤ x2) (
  f_X7_legalMove_11 mFuel x0 x1 x2 (0 : Int32) S
  ) (
  some ((-1 : Int32), S)
  )

set_option maxRecDepth 100000 in
set_option maxHeartbeats 4000000 in
theorem w_X7_legalMove_0 {p : Program} {l : Launch} {e : Env} {s : State} {m : MethodId} {args : Array Value} {below : List Frame} {meth : Method} {c : Code} {Q : State → Prop} {D : va_G} {y : Nat → ClassId} {A0 : Nat → Prop} {o : Int32 × ZS} (X : CallFix p m c cX7_legalMove 8 s args wsX7_legalMove RX7) (hret : zRi p l e ({ frames := 3, cells := 0, slots := 0, locals := 106 } : Room) s m args below meth c Q cX7_legalMove D y A0 .int o) {x0 : Nat} {x1 : Nat} {x2 : Int32} {S : ZS} {H : Heap} {locs : List Loc} {ls : Array Slot} (hf : f_X7_legalMove_0 x0 x1 x2 S = some o) (hM : zH D y A0 s H locs S) (hl : lv_has ls 8 [(0, .ref (zh y x0)), (1, .ref (zh y x1)), (2, .int x2)]) : W p l e ({ frames := 3, cells := 0, slots := 0, locals := 106 } : Room) s m args below meth c H locs 0 0 Q (F0 m 0 ls []) := by
  obtain ⟨hx, hb, hml, hown, hts⟩ := id X
  unfold f_X7_legalMove_0 at hf
  refine lv_iload_n hx hb dX7_legalMove_0 rfl (lv_at hl 2 rfl) ?_
  refine lv_if_ge (tgt := 6) hx hb dX7_legalMove_1 (by decide) (fun cc1 => ?_) (fun cc1 => ?_)
  · replace hf := m_ifT hf cc1
    refine lv_iload_n hx hb dX7_legalMove_6 rfl (lv_at hl 2 rfl) ?_
    refine lv_istore_n (lv' := [(3, .int x2), (0, .ref (zh y x0)), (1, .ref (zh y x1)), (2, .int x2)]) hx hb dX7_legalMove_7 rfl hl (by decide) rfl (fun ls hl => ?_)
    refine lv_iconst (v := (0 : Int32)) hx hb dX7_legalMove_8 (by decide) ?_
    refine lv_istore (lv' := [(4, .int (0 : Int32)), (3, .int x2), (0, .ref (zh y x0)), (1, .ref (zh y x1)), (2, .int x2)]) hx hb dX7_legalMove_9 hl (by decide) rfl (fun ls hl => ?_)
    exact w_X7_legalMove_11 X hret _ x0 x1 x2 (0 : Int32) _ _ _ _ hf hM (lv_sub hl [2, 3, 1, 0] rfl)
  · replace hf := m_ifF hf cc1
    refine lv_iconst (v := (-1 : Int32)) hx hb dX7_legalMove_4 (by decide) ?_
    cases hf
    exact hret H locs _ ls hM rfl dX7_legalMove_5
def f_X7_legalMove (x0 : Nat) (x1 : Nat) (x2 : Int32) (S : ZS) : Option (Int32 × ZS) := f_X7_legalMove_0 x0 x1 x2 S
theorem c_X7_legalMove {l : Launch} {D : va_G} {y : Nat → ClassId} {x0 : Nat} {x1 : Nat} {x2 : Int32} {S : ZS} {o : Int32 × ZS} (hf : f_X7_legalMove x0 x1 x2 S = some o) : zMi l yX7_legalMove wsX7_legalMove ({ frames := 3, cells := 0, slots := 0, locals := 106 } : Room) [.ref (zh y x0), .ref (zh y x1), .int x2] D y S o :=
  z_entryI (own := RX7) (cc := cX7_legalMove) (maxL := 8) (by decide) rfl rfl (Nat.le_of_ble_eq_true rfl) (fun p e s m args below meth c A0 Q H locs ls X hret hM hl => w_X7_legalMove_0 X hret hf hM (lv_sub hl [0, 1, 2] rfl))
theorem hd_X11_init : yX11_init.cls = RX11 ∧ yX11_init.cls ≠ "java/lang/invoke/MethodHandle" ∧ yX11_init.cls ≠ "java/lang/invoke/VarHandle" ∧ (parseMethodDescriptor yX11_init.desc).map (fun d => d.parameters.length) = some 0 := by decide +kernel
theorem fl_X11_init_11_0 : Cond.fieldLink RX11 10 "MoveTexts" "text" "LMoveTexts$Row;" ∈ wsX11_init := by decide +kernel
theorem fl_X11_init_11_1 : Cond.fieldLink RX11 16 "MoveTexts" "out" "LMoveTexts$Row;" ∈ wsX11_init := by decide +kernel
theorem fl_X11_init_11_2 : Cond.fieldLink RX11 22 "MoveTexts" "rules" "LMoveTexts$Rules;" ∈ wsX11_init := by decide +kernel
theorem fl_X11_init_11_3 : Cond.fieldLink RX11 29 "MoveTexts" "signReader" "LMoveTexts$SignReader;" ∈ wsX11_init := by decide +kernel
theorem fl_X11_init_11_4 : Cond.fieldLink RX11 36 "MoveTexts" "signWriter" "LMoveTexts$SignWriter;" ∈ wsX11_init := by decide +kernel
theorem fl_X11_init_11_5 : Cond.fieldLink RX11 43 "MoveTexts" "gameReader" "LMoveTexts$GameReader;" ∈ wsX11_init := by decide +kernel
theorem fl_X11_init_11_6 : Cond.fieldLink RX11 50 "MoveTexts" "gameWriter" "LMoveTexts$GameWriter;" ∈ wsX11_init := by decide +kernel
theorem fl_X11_init_11_7 : Cond.fieldLink RX11 57 "MoveTexts" "game" "LMoveTexts$Game;" ∈ wsX11_init := by decide +kernel
theorem fl_X11_init_11_8 : Cond.fieldLink RX11 61 "MoveTexts" "here" "I" ∈ wsX11_init := by decide +kernel
theorem fl_X11_init_11_9 : Cond.fieldLink RX11 68 "MoveTexts" "board" "LMoveTexts$Board;" ∈ wsX11_init := by decide +kernel
theorem hw_X11_init_0 : ∀ w ∈ wsX00, w ∈ wsX11_init := by decide +kernel
theorem hw_X11_init_1 : ∀ w ∈ wsX10, w ∈ wsX11_init := by decide +kernel
theorem hw_X11_init_11 : ∀ w ∈ wsX110, w ∈ wsX11_init := by decide +kernel
theorem hw_X11_init_2 : ∀ w ∈ wsX20, w ∈ wsX11_init := by decide +kernel
theorem hw_X11_init_3 : ∀ w ∈ wsX30, w ∈ wsX11_init := by decide +kernel
theorem hw_X11_init_6 : ∀ w ∈ wsX60, w ∈ wsX11_init := by decide +kernel
theorem hw_X11_init_7 : ∀ w ∈ wsX70, w ∈ wsX11_init := by decide +kernel
theorem hw_X11_init_8 : ∀ w ∈ wsX80, w ∈ wsX11_init := by decide +kernel
theorem hw_X11_init_9 : ∀ w ∈ wsX90, w ∈ wsX11_init := by decide +kernel
theorem ii_X11_init_21 : (RX11, 21, yX7_init, "MoveTexts") ∈ zNW ∧ Cond.initialized yX7_init.cls ∈ wsX11_init ∧ Cond.instanceMethod yX7_init ∈ wsX11_init := by decide +kernel
theorem ii_X11_init_28 : (RX11, 28, yX8_init, "MoveTexts") ∈ zNW ∧ Cond.initialized yX8_init.cls ∈ wsX11_init ∧ Cond.instanceMethod yX8_init ∈ wsX11_init := by decide +kernel
theorem ii_X11_init_35 : (RX11, 35, yX9_init, "MoveTexts") ∈ zNW ∧ Cond.initialized yX9_init.cls ∈ wsX11_init ∧ Cond.instanceMethod yX9_init ∈ wsX11_init := by decide +kernel
theorem ii_X11_init_42 : Cond.methodLink RX11 42 yX2_init ∈ wsX11_init ∧ Cond.initialized yX2_init.cls ∈ wsX11_init ∧ Cond.instanceMethod yX2_init ∈ wsX11_init := by decide +kernel
theorem ii_X11_init_49 : Cond.methodLink RX11 49 yX3_init ∈ wsX11_init ∧ Cond.initialized yX3_init.cls ∈ wsX11_init ∧ Cond.instanceMethod yX3_init ∈ wsX11_init := by decide +kernel
theorem ii_X11_init_56 : Cond.methodLink RX11 56 yX1_init ∈ wsX11_init ∧ Cond.initialized yX1_init.cls ∈ wsX11_init ∧ Cond.instanceMethod yX1_init ∈ wsX11_init := by decide +kernel
theorem ii_X11_init_67 : (RX11, 67, yX0_init, "MoveTexts") ∈ zNW ∧ Cond.initialized yX0_init.cls ∈ wsX11_init ∧ Cond.instanceMethod yX0_init ∈ wsX11_init := by decide +kernel
theorem ii_X11_init_9 : (RX11, 9, yX6_init, "MoveTexts") ∈ zNW ∧ Cond.initialized yX6_init.cls ∈ wsX11_init ∧ Cond.instanceMethod yX6_init ∈ wsX11_init := by decide +kernel
theorem nw_X11_init_19 : Cond.classLink RX11 19 RX7 ∈ wsX11_init ∧ Cond.instantiable RX7 2 ∈ wsX11_init ∧ Cond.initialized RX7 ∈ wsX11_init := by decide +kernel
theorem nw_X11_init_26 : Cond.classLink RX11 26 RX8 ∈ wsX11_init ∧ Cond.instantiable RX8 12 ∈ wsX11_init ∧ Cond.initialized RX8 ∈ wsX11_init := by decide +kernel
theorem nw_X11_init_33 : Cond.classLink RX11 33 RX9 ∈ wsX11_init ∧ Cond.instantiable RX9 1 ∈ wsX11_init ∧ Cond.initialized RX9 ∈ wsX11_init := by decide +kernel
theorem nw_X11_init_40 : Cond.classLink RX11 40 RX2 ∈ wsX11_init ∧ Cond.instantiable RX2 12 ∈ wsX11_init ∧ Cond.initialized RX2 ∈ wsX11_init := by decide +kernel
theorem nw_X11_init_47 : Cond.classLink RX11 47 RX3 ∈ wsX11_init ∧ Cond.instantiable RX3 2 ∈ wsX11_init ∧ Cond.initialized RX3 ∈ wsX11_init := by decide +kernel
theorem nw_X11_init_54 : Cond.classLink RX11 54 RX1 ∈ wsX11_init ∧ Cond.instantiable RX1 8 ∈ wsX11_init ∧ Cond.initialized RX1 ∈ wsX11_init := by decide +kernel
theorem nw_X11_init_65 : Cond.classLink RX11 65 RX0 ∈ wsX11_init ∧ Cond.instantiable RX0 7 ∈ wsX11_init ∧ Cond.initialized RX0 ∈ wsX11_init := by decide +kernel
theorem nw_X11_init_7 : Cond.classLink RX11 7 RX6 ∈ wsX11_init ∧ Cond.instantiable RX6 2 ∈ wsX11_init ∧ Cond.initialized RX6 ∈ wsX11_init := by decide +kernel
theorem ob_X11_init : (Cond.methodLink RX11 1 objectInit ∈ wsX11_init ∧ Cond.instanceMethod objectInit ∈ wsX11_init) ∧ Cond.code objectInit ⟨#[0xb1]⟩ 1 none ∈ wsX11_init := by decide +kernel
def g_X11_init_0 (Pw : Int32 → ZS → Prop) (x0 : Nat) (S : ZS) (C T : Nat) : Prop :=
  m_newP (C) (T) 2 (zt S) (fun q1 C3 T4 =>
  m_bndP (zsNewO S q1 6 2) (fun S2 =>
  m_calP (f_X6_init q1 S2) (fun o5 =>
  m_chkQ (zK o5.2 x0 = 11) (
  m_bndP (zsP o5.2 0 x0 (some q1)) (fun S6 =>
  m_newP (C3) (T4) 2 (zt S6) (fun q7 C9 T10 =>
  m_bndP (zsNewO S6 q7 6 2) (fun S8 =>
  m_calP (f_X6_init q7 S8) (fun o11 =>
  m_chkQ (zK o11.2 x0 = 11) (
  m_bndP (zsP o11.2 1 x0 (some q7)) (fun S12 =>
  m_newP (C9) (T10) 2 (zt S12) (fun q13 C15 T16 =>
  m_bndP (zsNewO S12 q13 7 2) (fun S14 =>
  m_gal (C15) (T16) (fun mc ms Pw => g_X7_init q13 S14 mc ms Pw) (fun r18 S19 C20 T21 =>
  m_chkQ (zK S19 x0 = 11) (
  m_bndP (zsP S19 2 x0 (some q13)) (fun S22 =>
  m_newP (C20) (T21) 12 (zt S22) (fun q23 C25 T26 =>
  m_bndP (zsNewO S22 q23 8 12) (fun S24 =>
  m_gal (C25) (T26) (fun mc ms Pw => g_X8_init q23 S24 mc ms Pw) (fun r28 S29 C30 T31 =>
  m_chkQ (zK S29 x0 = 11) (
  m_bndP (zsP S29 3 x0 (some q23)) (fun S32 =>
  m_newP (C30) (T31) 1 (zt S32) (fun q33 C35 T36 =>
  m_bndP (zsNewO S32 q33 9 1) (fun S34 =>
  m_gal (C35) (T36) (fun mc ms Pw => g_X9_init q33 S34 mc ms Pw) (fun r38 S39 C40 T41 =>
  m_chkQ (zK S39 x0 = 11) (
  m_bndP (zsP S39 4 x0 (some q33)) (fun S42 =>
  m_newP (C40) (T41) 12 (zt S42) (fun q43 C45 T46 =>
  m_bndP (zsNewO S42 q43 2 12) (fun S44 =>
  m_gal (C45) (T46) (fun mc ms Pw => g_X2_init q43 S44 mc ms Pw) (fun r48 S49 C50 T51 =>
  m_chkQ (zK S49 x0 = 11) (
  m_bndP (zsP S49 5 x0 (some q43)) (fun S52 =>
  m_newP (C50) (T51) 2 (zt S52) (fun q53 C55 T56 =>
  m_bndP (zsNewO S52 q53 3 2) (fun S54 =>
  m_gal (C55) (T56) (fun mc ms Pw => g_X3_init q53 S54 mc ms Pw) (fun r58 S59 C60 T61 =>
  m_chkQ (zK S59 x0 = 11) (
  m_bndP (zsP S59 6 x0 (some q53)) (fun S62 =>
  m_newP (C60) (T61) 8 (zt S62) (fun q63 C65 T66 =>
  m_bndP (zsNewO S62 q63 1 8) (fun S64 =>
  m_gal (C65) (T66) (fun mc ms Pw => g_X1_init q63 S64 mc ms Pw) (fun r68 S69 C70 T71 =>
  m_chkQ (zK S69 x0 = 11) (
  m_bndP (zsP S69 7 x0 (some q63)) (fun S72 =>
  m_chkQ (zK S72 x0 = 11) (
  m_bndP (zsI S72 8 x0 (0 : Int32)) (fun S73 =>
  m_newP (C70) (T71) 7 (zt S73) (fun q74 C76 T77 =>
  m_bndP (zsNewO S73 q74 0 7) (fun S75 =>
  m_gal (C76) (T77) (fun mc ms Pw => g_X0_init q74 S75 mc ms Pw) (fun r79 S80 C81 T82 =>
  m_chkQ (zK S80 x0 = 11) (
  m_bndP (zsP S80 9 x0 (some q74)) (fun S83 =>
  m_chkQ (zK S83 x0 = 11) (
  m_calP (zP S83 9 x0) (fun b84 =>
  m_chkQ (zK S83 b84 = 0) (
  m_calP (f_X0_setUp b84 S83) (fun o85 =>
  Pw 0 o85.2)))))))))))))))))))))))))))))))))))))))))))))))))))

set_option maxRecDepth 100000 in
set_option maxHeartbeats 4000000 in
theorem w_X11_init_0 {p : Program} {l : Launch} {e : Env} {s : State} {m : MethodId} {args : Array Value} {below : List Frame} {meth : Method} {c : Code} {Q : State → Prop} {D : va_G} {y : Nat → ClassId} {A0 : Nat → Prop} {kc kt : Nat} {Pw : Int32 → ZS → Prop} (X : CallFix p m c cX11_init 1 s args wsX11_init RX11) (hin : meth.name = "<init>") (hret : zQv p l e ({ frames := 5, cells := kc, slots := kt, locals := 105 } : Room) s m args below meth c Q cX11_init D y A0 Pw) {x0 : Nat} {S : ZS} {C T : Nat} {H : Heap} {locs : List Loc} {ls : Array Slot} (hf : g_X11_init_0 Pw x0 S C T) (hCT : C ≤ kc ∧ T ≤ kt) (hM : zH D y A0 s H locs S) (hl : lv_has ls 1 [(0, .ref (zh y x0))]) : W p l e ({ frames := 5, cells := kc, slots := kt, locals := 105 } : Room) s m args below meth c H locs (kc - C) (kt - T) Q (F0 m 0 ls []) := by
  obtain ⟨hx, hb, hml, hown, hts⟩ := id X
  unfold g_X11_init_0 at hf
  refine lv_aload_n hx hb dX11_init_0 rfl (lv_at hl 0 rfl) ?_
  refine z_obj X (by rw [hml]; exact hl.1.symm) ob_X11_init.1 ob_X11_init.2 (Nat.le_of_ble_eq_true rfl) (Nat.le_of_ble_eq_true rfl) dX11_init_1 ?_
  refine lv_aload_n hx hb dX11_init_4 rfl (lv_at hl 0 rfl) ?_
  obtain ⟨hcm, ho⟩ := hf
  refine z_newO (k := 6) (C := RX6) (T := TX6) (N := 2) (fl := zf_6) X hw_X11_init_6 tyX6_ok hM rfl zc_6 nw_X11_init_7 zd_6 ⟨by show kc - (C) + 1 ≤ kc; omega, by show kt - (T) + 2 ≤ kt; omega⟩ dX11_init_5 (fun q1 H hq hM => ?_)
  replace hf := ho q1 hq
  refine z_eqCS (c2 := kc - (C - 1)) (t2 := kt - (T - 2)) (by omega) (by omega) ?_
  replace hCT : C - 1 ≤ kc ∧ T - 2 ≤ kt := by omega
  generalize C - 1 = C3 at hf hCT ⊢
  generalize T - 2 = T4 at hf hCT ⊢
  obtain ⟨S2, ev, hf⟩ := m_bndPE hf
  replace hM := z_hS hM ev
  clear ev ho hcm hq
  refine lv_dup hx hb dX11_init_8 rfl ?_
  obtain ⟨o5, ho, hf⟩ := m_calPE hf
  refine z_gcallINv X hM (c_X6_init ho) gX11_init_X6_init_n9 ii_X11_init_9.1 ii_X11_init_9.2.1 ii_X11_init_9.2.2 rfl rfl ⟨rfl, rfl⟩ hd_X6_init.2 ⟨Nat.le_of_ble_eq_true rfl, Nat.le_of_ble_eq_true rfl⟩ rfl hl.1 rfl ⟨Nat.sub_le _ _, Nat.sub_le _ _⟩ (Nat.le_of_ble_eq_true rfl) dX11_init_9 (fun H locs hM => ?_)
  clear ho
  obtain ⟨ca, hf⟩ := m_chkPE hf
  replace ca := z_in hM (by decide) ca
  refine z_putPF (k := 11) (j := 0) (C := RX11) (T := TX11) (N := 10) (fl := zf_11) (ty := tyX11 0) X hw_X11_init_11 tyX11_ok nmX11 hM rfl zc_11 ca (by decide) fl_X11_init_11_0 rfl hin rfl (tyX11_ok 0 (by decide)) rfl rfl zp_11_0 (Nat.le_of_ble_eq_true rfl) dX11_init_12 (fun H locs hM => ?_)
  clear ca
  obtain ⟨S6, ev, hf⟩ := m_bndPE hf
  replace hM := z_hS hM ev
  clear ev
  refine lv_aload_n hx hb dX11_init_15 rfl (lv_at hl 0 rfl) ?_
  obtain ⟨hcm, ho⟩ := hf
  refine z_newO (k := 6) (C := RX6) (T := TX6) (N := 2) (fl := zf_6) X hw_X11_init_6 tyX6_ok hM rfl zc_6 nw_X11_init_7 zd_6 ⟨by show kc - (C3) + 1 ≤ kc; omega, by show kt - (T4) + 2 ≤ kt; omega⟩ dX11_init_16 (fun q7 H hq hM => ?_)
  replace hf := ho q7 hq
  refine z_eqCS (c2 := kc - (C3 - 1)) (t2 := kt - (T4 - 2)) (by omega) (by omega) ?_
  replace hCT : C3 - 1 ≤ kc ∧ T4 - 2 ≤ kt := by omega
  generalize C3 - 1 = C9 at hf hCT ⊢
  generalize T4 - 2 = T10 at hf hCT ⊢
  obtain ⟨S8, ev, hf⟩ := m_bndPE hf
  replace hM := z_hS hM ev
  clear ev ho hcm hq
  refine lv_dup hx hb dX11_init_19 rfl ?_
  obtain ⟨o11, ho, hf⟩ := m_calPE hf
  refine z_gcallINv X hM (c_X6_init ho) gX11_init_X6_init_n9 ii_X11_init_9.1 ii_X11_init_9.2.1 ii_X11_init_9.2.2 rfl rfl ⟨rfl, rfl⟩ hd_X6_init.2 ⟨Nat.le_of_ble_eq_true rfl, Nat.le_of_ble_eq_true rfl⟩ rfl hl.1 rfl ⟨Nat.sub_le _ _, Nat.sub_le _ _⟩ (Nat.le_of_ble_eq_true rfl) dX11_init_20 (fun H locs hM => ?_)
  clear ho
  obtain ⟨ca, hf⟩ := m_chkPE hf
  replace ca := z_in hM (by decide) ca
  refine z_putPF (k := 11) (j := 1) (C := RX11) (T := TX11) (N := 10) (fl := zf_11) (ty := tyX11 1) X hw_X11_init_11 tyX11_ok nmX11 hM rfl zc_11 ca (by decide) fl_X11_init_11_1 rfl hin rfl (tyX11_ok 1 (by decide)) rfl rfl zp_11_1 (Nat.le_of_ble_eq_true rfl) dX11_init_23 (fun H locs hM => ?_)
  clear ca
  obtain ⟨S12, ev, hf⟩ := m_bndPE hf
  replace hM := z_hS hM ev
  clear ev
  refine lv_aload_n hx hb dX11_init_26 rfl (lv_at hl 0 rfl) ?_
  obtain ⟨hcm, ho⟩ := hf
  refine z_newO (k := 7) (C := RX7) (T := TX7) (N := 2) (fl := zf_7) X hw_X11_init_7 tyX7_ok hM rfl zc_7 nw_X11_init_19 zd_7 ⟨by show kc - (C9) + 1 ≤ kc; omega, by show kt - (T10) + 2 ≤ kt; omega⟩ dX11_init_27 (fun q13 H hq hM => ?_)
  replace hf := ho q13 hq
  refine z_eqCS (c2 := kc - (C9 - 1)) (t2 := kt - (T10 - 2)) (by omega) (by omega) ?_
  replace hCT : C9 - 1 ≤ kc ∧ T10 - 2 ≤ kt := by omega
  generalize C9 - 1 = C15 at hf hCT ⊢
  generalize T10 - 2 = T16 at hf hCT ⊢
  obtain ⟨S14, ev, hf⟩ := m_bndPE hf
  replace hM := z_hS hM ev
  clear ev ho hcm hq
  refine lv_dup hx hb dX11_init_30 rfl ?_
  obtain ⟨mc, ms, hcm, ho⟩ := m_galE hf
  refine z_wcallINv X hM (c_X7_init ho) gX11_init_X7_init_n21 ii_X11_init_21.1 ii_X11_init_21.2.1 ii_X11_init_21.2.2 rfl rfl ⟨rfl, rfl⟩ ⟨by show kc - (C15) + mc ≤ kc; omega, by show kt - (T16) + ms ≤ kt; omega⟩ hd_X7_init.2 ⟨Nat.le_of_ble_eq_true rfl, Nat.le_of_ble_eq_true rfl⟩ rfl hl.1 rfl (Nat.le_of_ble_eq_true rfl) dX11_init_31 (fun S19 H locs hf hM => ?_)
  refine z_eqCS (c2 := kc - (C15 - mc)) (t2 := kt - (T16 - ms)) (by omega) (by omega) ?_
  replace hCT : C15 - mc ≤ kc ∧ T16 - ms ≤ kt := by omega
  generalize C15 - mc = C20 at hf hCT ⊢
  generalize T16 - ms = T21 at hf hCT ⊢
  clear ho hcm
  obtain ⟨ca, hf⟩ := m_chkPE hf
  replace ca := z_in hM (by decide) ca
  refine z_putPF (k := 11) (j := 2) (C := RX11) (T := TX11) (N := 10) (fl := zf_11) (ty := tyX11 2) X hw_X11_init_11 tyX11_ok nmX11 hM rfl zc_11 ca (by decide) fl_X11_init_11_2 rfl hin rfl (tyX11_ok 2 (by decide)) rfl rfl zp_11_2 (Nat.le_of_ble_eq_true rfl) dX11_init_34 (fun H locs hM => ?_)
  clear ca
  obtain ⟨S22, ev, hf⟩ := m_bndPE hf
  replace hM := z_hS hM ev
  clear ev
  refine lv_aload_n hx hb dX11_init_37 rfl (lv_at hl 0 rfl) ?_
  obtain ⟨hcm, ho⟩ := hf
  refine z_newO (k := 8) (C := RX8) (T := TX8) (N := 12) (fl := zf_8) X hw_X11_init_8 tyX8_ok hM rfl zc_8 nw_X11_init_26 zd_8 ⟨by show kc - (C20) + 1 ≤ kc; omega, by show kt - (T21) + 12 ≤ kt; omega⟩ dX11_init_38 (fun q23 H hq hM => ?_)
  replace hf := ho q23 hq
  refine z_eqCS (c2 := kc - (C20 - 1)) (t2 := kt - (T21 - 12)) (by omega) (by omega) ?_
  replace hCT : C20 - 1 ≤ kc ∧ T21 - 12 ≤ kt := by omega
  generalize C20 - 1 = C25 at hf hCT ⊢
  generalize T21 - 12 = T26 at hf hCT ⊢
  obtain ⟨S24, ev, hf⟩ := m_bndPE hf
  replace hM := z_hS hM ev
  clear ev ho hcm hq
  refine lv_dup hx hb dX11_init_41 rfl ?_
  obtain ⟨mc, ms, hcm, ho⟩ := m_galE hf
  refine z_wcallINv X hM (c_X8_init ho) gX11_init_X8_init_n28 ii_X11_init_28.1 ii_X11_init_28.2.1 ii_X11_init_28.2.2 rfl rfl ⟨rfl, rfl⟩ ⟨by show kc - (C25) + mc ≤ kc; omega, by show kt - (T26) + ms ≤ kt; omega⟩ hd_X8_init.2 ⟨Nat.le_of_ble_eq_true rfl, Nat.le_of_ble_eq_true rfl⟩ rfl hl.1 rfl (Nat.le_of_ble_eq_true rfl) dX11_init_42 (fun S29 H locs hf hM => ?_)
  refine z_eqCS (c2 := kc - (C25 - mc)) (t2 := kt - (T26 - ms)) (by omega) (by omega) ?_
  replace hCT : C25 - mc ≤ kc ∧ T26 - ms ≤ kt := by omega
  generalize C25 - mc = C30 at hf hCT ⊢
  generalize T26 - ms = T31 at hf hCT ⊢
  clear ho hcm
  obtain ⟨ca, hf⟩ := m_chkPE hf
  replace ca := z_in hM (by decide) ca
  refine z_putPF (k := 11) (j := 3) (C := RX11) (T := TX11) (N := 10) (fl := zf_11) (ty := tyX11 3) X hw_X11_init_11 tyX11_ok nmX11 hM rfl zc_11 ca (by decide) fl_X11_init_11_3 rfl hin rfl (tyX11_ok 3 (by decide)) rfl rfl zp_11_3 (Nat.le_of_ble_eq_true rfl) dX11_init_45 (fun H locs hM => ?_)
  clear ca
  obtain ⟨S32, ev, hf⟩ := m_bndPE hf
  replace hM := z_hS hM ev
  clear ev
  refine lv_aload_n hx hb dX11_init_48 rfl (lv_at hl 0 rfl) ?_
  obtain ⟨hcm, ho⟩ := hf
  refine z_newO (k := 9) (C := RX9) (T := TX9) (N := 1) (fl := zf_9) X hw_X11_init_9 tyX9_ok hM rfl zc_9 nw_X11_init_33 zd_9 ⟨by show kc - (C30) + 1 ≤ kc; omega, by show kt - (T31) + 1 ≤ kt; omega⟩ dX11_init_49 (fun q33 H hq hM => ?_)
  replace hf := ho q33 hq
  refine z_eqCS (c2 := kc - (C30 - 1)) (t2 := kt - (T31 - 1)) (by omega) (by omega) ?_
  replace hCT : C30 - 1 ≤ kc ∧ T31 - 1 ≤ kt := by omega
  generalize C30 - 1 = C35 at hf hCT ⊢
  generalize T31 - 1 = T36 at hf hCT ⊢
  obtain ⟨S34, ev, hf⟩ := m_bndPE hf
  replace hM := z_hS hM ev
  clear ev ho hcm hq
  refine lv_dup hx hb dX11_init_52 rfl ?_
  obtain ⟨mc, ms, hcm, ho⟩ := m_galE hf
  refine z_wcallINv X hM (c_X9_init ho) gX11_init_X9_init_n35 ii_X11_init_35.1 ii_X11_init_35.2.1 ii_X11_init_35.2.2 rfl rfl ⟨rfl, rfl⟩ ⟨by show kc - (C35) + mc ≤ kc; omega, by show kt - (T36) + ms ≤ kt; omega⟩ hd_X9_init.2 ⟨Nat.le_of_ble_eq_true rfl, Nat.le_of_ble_eq_true rfl⟩ rfl hl.1 rfl (Nat.le_of_ble_eq_true rfl) dX11_init_53 (fun S39 H locs hf hM => ?_)
  refine z_eqCS (c2 := kc - (C35 - mc)) (t2 := kt - (T36 - ms)) (by omega) (by omega) ?_
  replace hCT : C35 - mc ≤ kc ∧ T36 - ms ≤ kt := by omega
  generalize C35 - mc = C40 at hf hCT ⊢
  generalize T36 - ms = T41 at hf hCT ⊢
  clear ho hcm
  obtain ⟨ca, hf⟩ := m_chkPE hf
  replace ca := z_in hM (by decide) ca
  refine z_putPF (k := 11) (j := 4) (C := RX11) (T := TX11) (N := 10) (fl := zf_11) (ty := tyX11 4) X hw_X11_init_11 tyX11_ok nmX11 hM rfl zc_11 ca (by decide) fl_X11_init_11_4 rfl hin rfl (tyX11_ok 4 (by decide)) rfl rfl zp_11_4 (Nat.le_of_ble_eq_true rfl) dX11_init_56 (fun H locs hM => ?_)
  clear ca
  obtain ⟨S42, ev, hf⟩ := m_bndPE hf
  replace hM := z_hS hM ev
  clear ev
  refine lv_aload_n hx hb dX11_init_59 rfl (lv_at hl 0 rfl) ?_
  obtain ⟨hcm, ho⟩ := hf
  refine z_newO (k := 2) (C := RX2) (T := TX2) (N := 12) (fl := zf_2) X hw_X11_init_2 tyX2_ok hM rfl zc_2 nw_X11_init_40 zd_2 ⟨by show kc - (C40) + 1 ≤ kc; omega, by show kt - (T41) + 12 ≤ kt; omega⟩ dX11_init_60 (fun q43 H hq hM => ?_)
  replace hf := ho q43 hq
  refine z_eqCS (c2 := kc - (C40 - 1)) (t2 := kt - (T41 - 12)) (by omega) (by omega) ?_
  replace hCT : C40 - 1 ≤ kc ∧ T41 - 12 ≤ kt := by omega
  generalize C40 - 1 = C45 at hf hCT ⊢
  generalize T41 - 12 = T46 at hf hCT ⊢
  obtain ⟨S44, ev, hf⟩ := m_bndPE hf
  replace hM := z_hS hM ev
  clear ev ho hcm hq
  refine lv_dup hx hb dX11_init_63 rfl ?_
  obtain ⟨mc, ms, hcm, ho⟩ := m_galE hf
  refine z_wcallIv X hM (c_X2_init ho) gX11_init_X2_init ii_X11_init_42.1 ii_X11_init_42.2.1 ii_X11_init_42.2.2 rfl rfl ⟨rfl, rfl⟩ ⟨by show kc - (C45) + mc ≤ kc; omega, by show kt - (T46) + ms ≤ kt; omega⟩ hd_X2_init.2 ⟨Nat.le_of_ble_eq_true rfl, Nat.le_of_ble_eq_true rfl⟩ rfl hl.1 rfl (Nat.le_of_ble_eq_true rfl) dX11_init_64 (fun S49 H locs hf hM => ?_)
  refine z_eqCS (c2 := kc - (C45 - mc)) (t2 := kt - (T46 - ms)) (by omega) (by omega) ?_
  replace hCT : C45 - mc ≤ kc ∧ T46 - ms ≤ kt := by omega
  generalize C45 - mc = C50 at hf hCT ⊢
  generalize T46 - ms = T51 at hf hCT ⊢
  clear ho hcm
  obtain ⟨ca, hf⟩ := m_chkPE hf
  replace ca := z_in hM (by decide) ca
  refine z_putPF (k := 11) (j := 5) (C := RX11) (T := TX11) (N := 10) (fl := zf_11) (ty := tyX11 5) X hw_X11_init_11 tyX11_ok nmX11 hM rfl zc_11 ca (by decide) fl_X11_init_11_5 rfl hin rfl (tyX11_ok 5 (by decide)) rfl rfl zp_11_5 (Nat.le_of_ble_eq_true rfl) dX11_init_67 (fun H locs hM => ?_)
  clear ca
  obtain ⟨S52, ev, hf⟩ := m_bndPE hf
  replace hM := z_hS hM ev
  clear ev
  refine lv_aload_n hx hb dX11_init_70 rfl (lv_at hl 0 rfl) ?_
  obtain ⟨hcm, ho⟩ := hf
  refine z_newO (k := 3) (C := RX3) (T := TX3) (N := 2) (fl := zf_3) X hw_X11_init_3 tyX3_ok hM rfl zc_3 nw_X11_init_47 zd_3 ⟨by show kc - (C50) + 1 ≤ kc; omega, by show kt - (T51) + 2 ≤ kt; omega⟩ dX11_init_71 (fun q53 H hq hM => ?_)
  replace hf := ho q53 hq
  refine z_eqCS (c2 := kc - (C50 - 1)) (t2 := kt - (T51 - 2)) (by omega) (by omega) ?_
  replace hCT : C50 - 1 ≤ kc ∧ T51 - 2 ≤ kt := by omega
  generalize C50 - 1 = C55 at hf hCT ⊢
  generalize T51 - 2 = T56 at hf hCT ⊢
  obtain ⟨S54, ev, hf⟩ := m_bndPE hf
  replace hM := z_hS hM ev
  clear ev ho hcm hq
  refine lv_dup hx hb dX11_init_74 rfl ?_
  obtain ⟨mc, ms, hcm, ho⟩ := m_galE hf
  refine z_wcallIv X hM (c_X3_init ho) gX11_init_X3_init ii_X11_init_49.1 ii_X11_init_49.2.1 ii_X11_init_49.2.2 rfl rfl ⟨rfl, rfl⟩ ⟨by show kc - (C55) + mc ≤ kc; omega, by show kt - (T56) + ms ≤ kt; omega⟩ hd_X3_init.2 ⟨Nat.le_of_ble_eq_true rfl, Nat.le_of_ble_eq_true rfl⟩ rfl hl.1 rfl (Nat.le_of_ble_eq_true rfl) dX11_init_75 (fun S59 H locs hf hM => ?_)
  refine z_eqCS (c2 := kc - (C55 - mc)) (t2 := kt - (T56 - ms)) (by omega) (by omega) ?_
  replace hCT : C55 - mc ≤ kc ∧ T56 - ms ≤ kt := by omega
  generalize C55 - mc = C60 at hf hCT ⊢
  generalize T56 - ms = T61 at hf hCT ⊢
  clear ho hcm
  obtain ⟨ca, hf⟩ := m_chkPE hf
  replace ca := z_in hM (by decide) ca
  refine z_putPF (k := 11) (j := 6) (C := RX11) (T := TX11) (N := 10) (fl := zf_11) (ty := tyX11 6) X hw_X11_init_11 tyX11_ok nmX11 hM rfl zc_11 ca (by decide) fl_X11_init_11_6 rfl hin rfl (tyX11_ok 6 (by decide)) rfl rfl zp_11_6 (Nat.le_of_ble_eq_true rfl) dX11_init_78 (fun H locs hM => ?_)
  clear ca
  obtain ⟨S62, ev, hf⟩ := m_bndPE hf
  replace hM := z_hS hM ev
  clear ev
  refine lv_aload_n hx hb dX11_init_81 rfl (lv_at hl 0 rfl) ?_
  obtain ⟨hcm, ho⟩ := hf
  refine z_newO (k := 1) (C := RX1) (T := TX1) (N := 8) (fl := zf_1) X hw_X11_init_1 tyX1_ok hM rfl zc_1 nw_X11_init_54 zd_1 ⟨by show kc - (C60) + 1 ≤ kc; omega, by show kt - (T61) + 8 ≤ kt; omega⟩ dX11_init_82 (fun q63 H hq hM => ?_)
  replace hf := ho q63 hq
  refine z_eqCS (c2 := kc - (C60 - 1)) (t2 := kt - (T61 - 8)) (by omega) (by omega) ?_
  replace hCT : C60 - 1 ≤ kc ∧ T61 - 8 ≤ kt := by omega
  generalize C60 - 1 = C65 at hf hCT ⊢
  generalize T61 - 8 = T66 at hf hCT ⊢
  obtain ⟨S64, ev, hf⟩ := m_bndPE hf
  replace hM := z_hS hM ev
  clear ev ho hcm hq
  refine lv_dup hx hb dX11_init_85 rfl ?_
  obtain ⟨mc, ms, hcm, ho⟩ := m_galE hf
  refine z_wcallIv X hM (c_X1_init ho) gX11_init_X1_init ii_X11_init_56.1 ii_X11_init_56.2.1 ii_X11_init_56.2.2 rfl rfl ⟨rfl, rfl⟩ ⟨by show kc - (C65) + mc ≤ kc; omega, by show kt - (T66) + ms ≤ kt; omega⟩ hd_X1_init.2 ⟨Nat.le_of_ble_eq_true rfl, Nat.le_of_ble_eq_true rfl⟩ rfl hl.1 rfl (Nat.le_of_ble_eq_true rfl) dX11_init_86 (fun S69 H locs hf hM => ?_)
  refine z_eqCS (c2 := kc - (C65 - mc)) (t2 := kt - (T66 - ms)) (by omega) (by omega) ?_
  replace hCT : C65 - mc ≤ kc ∧ T66 - ms ≤ kt := by omega
  generalize C65 - mc = C70 at hf hCT ⊢
  generalize T66 - ms = T71 at hf hCT ⊢
  clear ho hcm
  obtain ⟨ca, hf⟩ := m_chkPE hf
  replace ca := z_in hM (by decide) ca
  refine z_putP (k := 11) (j := 7) (C := RX11) (T := TX11) (N := 10) (fl := zf_11) (ty := tyX11 7) X hw_X11_init_11 tyX11_ok nmX11 hM rfl zc_11 ca (by decide) fl_X11_init_11_7 rfl (tyX11_ok 7 (by decide)) rfl rfl zp_11_7 (Nat.le_of_ble_eq_true rfl) dX11_init_89 (fun H locs hM => ?_)
  clear ca
  obtain ⟨S72, ev, hf⟩ := m_bndPE hf
  replace hM := z_hS hM ev
  clear ev
  refine lv_aload_n hx hb dX11_init_92 rfl (lv_at hl 0 rfl) ?_
  refine lv_iconst (v := (0 : Int32)) hx hb dX11_init_93 (by decide) ?_
  obtain ⟨ca, hf⟩ := m_chkPE hf
  replace ca := z_in hM (by decide) ca
  refine z_putI (k := 11) (j := 8) (C := RX11) (T := TX11) (N := 10) (fl := zf_11) (ty := .int) X hw_X11_init_11 tyX11_ok nmX11 hM rfl zc_11 ca (by decide) fl_X11_init_11_8 rfl (tyX11_ok 8 (by decide)) rfl rfl zi_11_8 (Nat.le_of_ble_eq_true rfl) dX11_init_94 (fun H locs hM => ?_)
  clear ca
  obtain ⟨S73, ev, hf⟩ := m_bndPE hf
  replace hM := z_hS hM ev
  clear ev
  refine lv_aload_n hx hb dX11_init_97 rfl (lv_at hl 0 rfl) ?_
  obtain ⟨hcm, ho⟩ := hf
  refine z_newO (k := 0) (C := RX0) (T := TX0) (N := 7) (fl := zf_0) X hw_X11_init_0 tyX0_ok hM rfl zc_0 nw_X11_init_65 zd_0 ⟨by show kc - (C70) + 1 ≤ kc; omega, by show kt - (T71) + 7 ≤ kt; omega⟩ dX11_init_98 (fun q74 H hq hM => ?_)
  replace hf := ho q74 hq
  refine z_eqCS (c2 := kc - (C70 - 1)) (t2 := kt - (T71 - 7)) (by omega) (by omega) ?_
  replace hCT : C70 - 1 ≤ kc ∧ T71 - 7 ≤ kt := by omega
  generalize C70 - 1 = C76 at hf hCT ⊢
  generalize T71 - 7 = T77 at hf hCT ⊢
  obtain ⟨S75, ev, hf⟩ := m_bndPE hf
  replace hM := z_hS hM ev
  clear ev ho hcm hq
  refine lv_dup hx hb dX11_init_101 rfl ?_
  obtain ⟨mc, ms, hcm, ho⟩ := m_galE hf
  refine z_wcallINv X hM (c_X0_init ho) gX11_init_X0_init_n67 ii_X11_init_67.1 ii_X11_init_67.2.1 ii_X11_init_67.2.2 rfl rfl ⟨rfl, rfl⟩ ⟨by show kc - (C76) + mc ≤ kc; omega, by show kt - (T77) + ms ≤ kt; omega⟩ hd_X0_init.2 ⟨Nat.le_of_ble_eq_true rfl, Nat.le_of_ble_eq_true rfl⟩ rfl hl.1 rfl (Nat.le_of_ble_eq_true rfl) dX11_init_102 (fun S80 H locs hf hM => ?_)
  refine z_eqCS (c2 := kc - (C76 - mc)) (t2 := kt - (T77 - ms)) (by omega) (by omega) ?_
  replace hCT : C76 - mc ≤ kc ∧ T77 - ms ≤ kt := by omega
  generalize C76 - mc = C81 at hf hCT ⊢
  generalize T77 - ms = T82 at hf hCT ⊢
  clear ho hcm
  obtain ⟨ca, hf⟩ := m_chkPE hf
  replace ca := z_in hM (by decide) ca
  refine z_putPF (k := 11) (j := 9) (C := RX11) (T := TX11) (N := 10) (fl := zf_11) (ty := tyX11 9) X hw_X11_init_11 tyX11_ok nmX11 hM rfl zc_11 ca (by decide) fl_X11_init_11_9 rfl hin rfl (tyX11_ok 9 (by decide)) rfl rfl zp_11_9 (Nat.le_of_ble_eq_true rfl) dX11_init_105 (fun H locs hM => ?_)
  clear ca
  obtain ⟨S83, ev, hf⟩ := m_bndPE hf
  replace hM := z_hS hM ev
  clear ev
  refine lv_aload_n hx hb dX11_init_108 rfl (lv_at hl 0 rfl) ?_
  obtain ⟨ca, hf⟩ := m_chkPE hf
  replace ca := z_in hM (by decide) ca
  refine z_get (k := 11) (j := 9) (C := RX11) (T := TX11) (N := 10) (fl := zf_11) (v := va_rf ((zP S83 9 x0).map (zh y))) X hw_X11_init_11 hM rfl zc_11 ca (by decide) fl_X11_init_11_9 rfl dX11_init_109 ?_
  clear ca
  obtain ⟨b84, hb9, hf⟩ := m_calPE hf
  refine z_topr hb9 ?_
  clear hb9
  obtain ⟨ca, hf⟩ := m_chkPE hf
  replace ca := z_in hM (by decide) ca
  obtain ⟨o85, ho, hf⟩ := m_calPE hf
  refine z_gcallVv (k := 0) (C := RX0) (T := TX0) (N := 7) (fl := zf_0) X hM rfl zc_0 ca (c_X0_setUp ho) gX11_init_X0_setUp rfl ⟨rfl, rfl⟩ hd_X0_setUp ⟨Nat.le_of_ble_eq_true rfl, Nat.le_of_ble_eq_true rfl⟩ rfl hl.1 rfl ⟨Nat.sub_le _ _, Nat.sub_le _ _⟩ (Nat.le_of_ble_eq_true rfl) dX11_init_112 (fun H locs hM => ?_)
  clear ho
  exact hret _ _ _ H locs _ ls hf hM dX11_init_115
def g_X11_init (x0 : Nat) (S : ZS) (mc ms : Nat) (Pw : Int32 → ZS → Prop) : Prop := g_X11_init_0 Pw x0 S mc ms
theorem c_X11_init {l : Launch} {D : va_G} {y : Nat → ClassId} {x0 : Nat} {S : ZS} {kc kt : Nat} {Pw : Int32 → ZS → Prop} (hf : g_X11_init x0 S kc kt Pw) : zWv l yX11_init wsX11_init ({ frames := 5, cells := kc, slots := kt, locals := 105 } : Room) [.ref (zh y x0)] D y S kc kt Pw :=
  z_wentC (own := RX11) (cc := cX11_init) (maxL := 1) (by decide) rfl rfl (Nat.le_of_ble_eq_true rfl) ⟨rfl, rfl⟩ rfl (fun p e s m args below meth c A0 Q H locs ls X hin hret hM hl => w_X11_init_0 X hin hret hf ⟨Nat.le_refl _, Nat.le_refl _⟩ hM (lv_sub hl [0] rfl))
theorem hd_X11_byteOf : yX11_byteOf.cls ≠ "java/lang/invoke/MethodHandle" ∧ yX11_byteOf.cls ≠ "java/lang/invoke/VarHandle" ∧ (parseMethodDescriptor yX11_byteOf.desc).map (fun d => d.parameters.length) = some 2 := by decide +kernel
theorem cl_X11_byteOf_277 : Cond.constantLong RX11 277 (255) ∈ wsX11_byteOf := by decide +kernel
def f_X11_byteOf_0 (x0 : Int64) (x2 : Int32) (S : ZS) : Option (Int32 × ZS) :=
  m_bnd ((8 : Int32) * x2) (fun v1 =>
  m_bnd (((x0).toUInt64 >>> ((v1).toInt64.toUInt64 &&& Int64.toUInt64 63)).toInt64) (fun v2 =>
  m_bnd (v2 &&& (255 : Int64)) (fun v3 =>
  m_bnd ((v3).toInt32) (fun v4 =>
  m_bnd ((v4.toUInt32 % 65536).toInt32) (fun v5 =>
  m_chk (vp_nar .char v5 = v5) (some (v5, S)))))))

set_option maxRecDepth 100000 in
set_option maxHeartbeats 4000000 in
theorem w_X11_byteOf_0 {p : Program} {l : Launch} {e : Env} {s : State} {m : MethodId} {args : Array Value} {below : List Frame} {meth : Method} {c : Code} {Q : State → Prop} {D : va_G} {y : Nat → ClassId} {A0 : Nat → Prop} {o : Int32 × ZS} (X : CallFix p m c cX11_byteOf 3 s args wsX11_byteOf RX11) (hret : zRi p l e ({ frames := 0, cells := 0, slots := 0, locals := 0 } : Room) s m args below meth c Q cX11_byteOf D y A0 .char o) {x0 : Int64} {x2 : Int32} {S : ZS} {H : Heap} {locs : List Loc} {ls : Array Slot} (hf : f_X11_byteOf_0 x0 x2 S = some o) (hM : zH D y A0 s H locs S) (hl : lv_has ls 3 [(0, .long x0), (2, .int x2)]) : W p l e ({ frames := 0, cells := 0, slots := 0, locals := 0 } : Room) s m args below meth c H locs 0 0 Q (F0 m 0 ls []) := by
  obtain ⟨hx, hb, hml, hown, hts⟩ := id X
  unfold f_X11_byteOf_0 at hf
  refine lv_lload_n hx hb dX11_byteOf_0 rfl (lv_at hl 0 rfl) ?_
  refine lv_bipush (v := (8 : Int32)) hx hb dX11_byteOf_1 (by decide) ?_
  refine lv_iload_n hx hb dX11_byteOf_3 rfl (lv_at hl 1 rfl) ?_
  refine lv_imul hx hb dX11_byteOf_4 ?_
  obtain ⟨v1, ev, hf⟩ := m_bndE hf
  refine m_top ev ?_
  clear ev
  refine lv_lushr (v := ((x0).toUInt64 >>> ((v1).toInt64.toUInt64 &&& Int64.toUInt64 63)).toInt64) hx hb dX11_byteOf_5 rfl ?_
  obtain ⟨v2, ev, hf⟩ := m_bndE hf
  refine m_topl ev ?_
  clear ev
  refine lv_ldc2 (v := (255 : Int64)) hx hb hown (hts _ cl_X11_byteOf_277) dX11_byteOf_6 ?_
  refine lv_land hx hb dX11_byteOf_9 ?_
  obtain ⟨v3, ev, hf⟩ := m_bndE hf
  refine m_topl ev ?_
  clear ev
  refine lv_l2i (v := (v3).toInt32) hx hb dX11_byteOf_10 rfl ?_
  obtain ⟨v4, ev, hf⟩ := m_bndE hf
  refine m_top ev ?_
  clear ev
  refine lv_i2c (v := (v4.toUInt32 % 65536).toInt32) hx hb dX11_byteOf_11 rfl ?_
  obtain ⟨v5, ev, hf⟩ := m_bndE hf
  refine m_top ev ?_
  clear ev
  obtain ⟨cd, hf⟩ := m_chkE hf
  cases hf
  exact hret H locs _ ls hM (m_nc cd) dX11_byteOf_12
def f_X11_byteOf (x0 : Int64) (x2 : Int32) (S : ZS) : Option (Int32 × ZS) := f_X11_byteOf_0 x0 x2 S
theorem c_X11_byteOf {l : Launch} {D : va_G} {y : Nat → ClassId} {x0 : Int64} {x2 : Int32} {S : ZS} {o : Int32 × ZS} (hf : f_X11_byteOf x0 x2 S = some o) : zMi l yX11_byteOf wsX11_byteOf ({ frames := 0, cells := 0, slots := 0, locals := 0 } : Room) [.long x0, .int x2] D y S o :=
  z_entryI (own := RX11) (cc := cX11_byteOf) (maxL := 3) (by decide) rfl rfl (Nat.le_of_ble_eq_true rfl) (fun p e s m args below meth c A0 Q H locs ls X hret hM hl => w_X11_byteOf_0 X hret hf hM (lv_sub hl [0, 1] rfl))
theorem hd_X11_type : yX11_type.cls = RX11 ∧ yX11_type.cls ≠ "java/lang/invoke/MethodHandle" ∧ yX11_type.cls ≠ "java/lang/invoke/VarHandle" ∧ (parseMethodDescriptor yX11_type.desc).map (fun d => d.parameters.length) = some 2 := by decide +kernel
theorem fl_X11_type_11_0 : Cond.fieldLink RX11 10 "MoveTexts" "text" "LMoveTexts$Row;" ∈ wsX11_type := by decide +kernel
theorem hw_X11_type_11 : ∀ w ∈ wsX110, w ∈ wsX11_type := by decide +kernel
def g_X11_type_26 (Pw : Int32 → ZS → Prop) (S : ZS) (C T : Nat) : Prop :=
  m_chkQ (vp_nar .boolean (0 : Int32) = (0 : Int32)) (Pw (0 : Int32) S)

set_option maxRecDepth 100000 in
set_option maxHeartbeats 4000000 in
theorem w_X11_type_26 {p : Program} {l : Launch} {e : Env} {s : State} {m : MethodId} {args : Array Value} {below : List Frame} {meth : Method} {c : Code} {Q : State → Prop} {D : va_G} {y : Nat → ClassId} {A0 : Nat → Prop} {kc kt : Nat} {Pw : Int32 → ZS → Prop} (X : CallFix p m c cX11_type 6 s args wsX11_type RX11) (hret : zQi p l e ({ frames := 2, cells := kc, slots := kt, locals := 82 } : Room) s m args below meth c Q cX11_type D y A0 .boolean Pw) {S : ZS} {C T : Nat} {H : Heap} {locs : List Loc} {ls : Array Slot} (hf : g_X11_type_26 Pw  S C T) (hCT : C ≤ kc ∧ T ≤ kt) (hM : zH D y A0 s H locs S) (hl : lv_has ls 6 []) : W p l e ({ frames := 2, cells := kc, slots := kt, locals := 82 } : Room) s m args below meth c H locs (kc - C) (kt - T) Q (F0 m 26 ls []) := by
  obtain ⟨hx, hb, hml, hown, hts⟩ := id X
  unfold g_X11_type_26 at hf
  refine lv_iconst (v := (0 : Int32)) hx hb dX11_type_26 (by decide) ?_
  obtain ⟨cd, hf⟩ := m_chkPE hf
  exact hret _ _ _ _ H locs _ ls hf hM (m_nb cd) dX11_type_27
def g_X11_type_77s (Pw : Int32 → ZS → Prop) (self77 : Nat → Int64 → Int32 → Int32 → ZS → Nat → Nat → Prop) (x0 : Nat) (x1 : Int64) (x3 : Int32) (x4 : Int32) (S : ZS) (C T : Nat) : Prop :=
  m_ifQ (x3 ≤ x4) (
  m_chkQ (vp_nar .boolean (1 : Int32) = (1 : Int32)) (Pw (1 : Int32) S)
  ) (
  m_chkQ (zK S x0 = 11) (
  m_calP (zP S 0 x0) (fun b1 =>
  m_calP (f_X11_byteOf x1 x4 S) (fun o2 =>
  m_chkQ (zK o2.2 b1 = 6) (
  m_gal (C) (T) (fun mc ms Pw => g_X6_put b1 o2.1 o2.2 mc ms Pw) (fun r4 S5 C6 T7 =>
  m_bndP (x4 + (1 : Int32)) (fun v8 =>
  self77 x0 x1 x3 v8 S5 (C6) (T7)))))))
  )

set_option maxRecDepth 100000 in
set_option maxHeartbeats 4000000 in
theorem ws_X11_type_77 {p : Program} {l : Launch} {e : Env} {s : State} {m : MethodId} {args : Array Value} {below : List Frame} {meth : Method} {c : Code} {Q : State → Prop} {D : va_G} {y : Nat → ClassId} {A0 : Nat → Prop} {kc kt : Nat} {Pw : Int32 → ZS → Prop} (X : CallFix p m c cX11_type 6 s args wsX11_type RX11) (hret : zQi p l e ({ frames := 2, cells := kc, slots := kt, locals := 82 } : Room) s m args below meth c Q cX11_type D y A0 .boolean Pw) {self77 : Nat → Int64 → Int32 → Int32 → ZS → Nat → Nat → Prop} (hself77 : ∀ (x0 : Nat) (x1 : Int64) (x3 : Int32) (x4 : Int32) (S : ZS) (C T : Nat) (H : Heap) (locs : List Loc) (ls : Array Slot), self77 x0 x1 x3 x4 S C T → C ≤ kc ∧ T ≤ kt → zH D y A0 s H locs S → lv_has ls 6 [(0, .ref (zh y x0)), (1, .long x1), (3, .int x3), (4, .int x4)] → W p l e ({ frames := 2, cells := kc, slots := kt, locals := 82 } : Room) s m args below meth c H locs (kc - C) (kt - T) Q (F0 m 77 ls [])) {x0 : Nat} {x1 : Int64} {x3 : Int32} {x4 : Int32} {S : ZS} {C T : Nat} {H : Heap} {locs : List Loc} {ls : Array Slot} (hf : g_X11_type_77s Pw self77 x0 x1 x3 x4 S C T) (hCT : C ≤ kc ∧ T ≤ kt) (hM : zH D y A0 s H locs S) (hl : lv_has ls 6 [(0, .ref (zh y x0)), (1, .long x1), (3, .int x3), (4, .int x4)]) : W p l e ({ frames := 2, cells := kc, slots := kt, locals := 82 } : Room) s m args below meth c H locs (kc - C) (kt - T) Q (F0 m 77 ls []) := by
  obtain ⟨hx, hb, hml, hown, hts⟩ := id X
  unfold g_X11_type_77s at hf
  refine lv_iload hx hb dX11_type_77 (lv_at hl 3 rfl) ?_
  refine lv_iload_n hx hb dX11_type_79 rfl (lv_at hl 2 rfl) ?_
  refine lv_icmp_ge (tgt := 102) hx hb dX11_type_80 (by decide) (fun cc1 => ?_) (fun cc1 => ?_)
  · replace hf := m_ifPT hf cc1
    refine lv_iconst (v := (1 : Int32)) hx hb dX11_type_102 (by decide) ?_
    obtain ⟨cd, hf⟩ := m_chkPE hf
    exact hret _ _ _ _ H locs _ ls hf hM (m_nb cd) dX11_type_103
  · replace hf := m_ifPF hf cc1
    refine lv_aload_n hx hb dX11_type_83 rfl (lv_at hl 0 rfl) ?_
    obtain ⟨ca, hf⟩ := m_chkPE hf
    replace ca := z_in hM (by decide) ca
    refine z_get (k := 11) (j := 0) (C := RX11) (T := TX11) (N := 10) (fl := zf_11) (v := va_rf ((zP S 0 x0).map (zh y))) X hw_X11_type_11 hM rfl zc_11 ca (by decide) fl_X11_type_11_0 rfl dX11_type_84 ?_
    clear ca
    obtain ⟨b1, hb9, hf⟩ := m_calPE hf
    refine z_topr hb9 ?_
    clear hb9
    refine lv_lload_n hx hb dX11_type_87 rfl (lv_at hl 1 rfl) ?_
    refine lv_iload hx hb dX11_type_88 (lv_at hl 3 rfl) ?_
    obtain ⟨o2, ho, hf⟩ := m_calPE hf
    refine z_gcallSi X hM (c_X11_byteOf ho) gX11_type_X11_byteOf rfl ⟨rfl, rfl⟩ hd_X11_byteOf ⟨Nat.le_of_ble_eq_true rfl, Nat.le_of_ble_eq_true rfl⟩ rfl hl.1 rfl ⟨Nat.sub_le _ _, Nat.sub_le _ _⟩ (Nat.le_of_ble_eq_true rfl) dX11_type_90 (fun H locs hM => ?_)
    clear ho
    obtain ⟨ca, hf⟩ := m_chkPE hf
    replace ca := z_in hM (by decide) ca
    obtain ⟨mc, ms, hcm, ho⟩ := m_galE hf
    refine z_wcallVv (k := 6) (C := RX6) (T := TX6) (N := 2) (fl := zf_6) X hM rfl zc_6 ca (c_X6_put ho) gX11_type_X6_put rfl ⟨rfl, rfl⟩ ⟨by show kc - (C) + mc ≤ kc; omega, by show kt - (T) + ms ≤ kt; omega⟩ hd_X6_put ⟨Nat.le_of_ble_eq_true rfl, Nat.le_of_ble_eq_true rfl⟩ rfl hl.1 rfl (Nat.le_of_ble_eq_true rfl) dX11_type_93 (fun S5 H locs hf hM => ?_)
    refine z_eqCS (c2 := kc - (C - mc)) (t2 := kt - (T - ms)) (by omega) (by omega) ?_
    replace hCT : C - mc ≤ kc ∧ T - ms ≤ kt := by omega
    generalize C - mc = C6 at hf hCT ⊢
    generalize T - ms = T7 at hf hCT ⊢
    clear ho hcm
    obtain ⟨v8, ev, hf⟩ := m_bndPE hf
    refine lv_iinc (v := v8) (lv' := [(4, .int v8), (0, .ref (zh y x0)), (1, .long x1), (3, .int x3)]) hx hb dX11_type_96 hl (k := 3) rfl (by rw [ev]; rfl) (by decide) rfl (fun ls hl => ?_)
    clear ev
    refine lv_goto (tgt := 77) hx hb dX11_type_99 (by decide) ?_
    exact hself77 x0 x1 x3 v8 _ _ _ _ _ _ hf hCT hM (lv_sub hl [1, 2, 3, 0] rfl)
def g_X11_type_77 (Pw : Int32 → ZS → Prop) : Nat → Nat → Int64 → Int32 → Int32 → ZS → Nat → Nat → Prop
  | 0 => fun _ _ _ _ _ _ _ => False
  | n + 1 => g_X11_type_77s Pw (g_X11_type_77 Pw n)
theorem w_X11_type_77 {p : Program} {l : Launch} {e : Env} {s : State} {m : MethodId} {args : Array Value} {below : List Frame} {meth : Method} {c : Code} {Q : State → Prop} {D : va_G} {y : Nat → ClassId} {A0 : Nat → Prop} {kc kt : Nat} {Pw : Int32 → ZS → Prop} (X : CallFix p m c cX11_type 6 s args wsX11_type RX11) (hret : zQi p l e ({ frames := 2, cells := kc, slots := kt, locals := 82 } : Room) s m args below meth c Q cX11_type D y A0 .boolean Pw) (n : Nat) : ∀ (x0 : Nat) (x1 : Int64) (x3 : Int32) (x4 : Int32) (S : ZS) (C T : Nat) (H : Heap) (locs : List Loc) (ls : Array Slot), g_X11_type_77 Pw n x0 x1 x3 x4 S C T → C ≤ kc ∧ T ≤ kt → zH D y A0 s H locs S → lv_has ls 6 [(0, .ref (zh y x0)), (1, .long x1), (3, .int x3), (4, .int x4)] → W p l e ({ frames := 2, cells := kc, slots := kt, locals := 82 } : Room) s m args below meth c H locs (kc - C) (kt - T) Q (F0 m 77 ls []) := by
  induction n with
  | zero => intro x0 x1 x3 x4 S C T H locs ls hf; exact absurd hf id
  | succ n ih => intro x0 x1 x3 x4 S C T H locs ls hf hCT hM hl; exact ws_X11_type_77 X hret (self77 := g_X11_type_77 Pw n) ih hf hCT hM hl
def g_X11_type_68 (Pw : Int32 → ZS → Prop) (self31 : Nat → Int64 → Int32 → Int32 → ZS → Nat → Nat → Prop) (x0 : Nat) (x1 : Int64) (x3 : Int32) (x4 : Int32) (S : ZS) (C T : Nat) : Prop :=
  m_bndP (x4 + (1 : Int32)) (fun v1 =>
  self31 x0 x1 x3 v1 S (C) (T))

set_option maxRecDepth 100000 in
set_option maxHeartbeats 4000000 in
theorem w_X11_type_68 {p : Program} {l : Launch} {e : Env} {s : State} {m : MethodId} {args : Array Value} {below : List Frame} {meth : Method} {c : Code} {Q : State → Prop} {D : va_G} {y : Nat → ClassId} {A0 : Nat → Prop} {kc kt : Nat} {Pw : Int32 → ZS → Prop} (X : CallFix p m c cX11_type 6 s args wsX11_type RX11) (hret : zQi p l e ({ frames := 2, cells := kc, slots := kt, locals := 82 } : Room) s m args below meth c Q cX11_type D y A0 .boolean Pw) {self31 : Nat → Int64 → Int32 → Int32 → ZS → Nat → Nat → Prop} (hself31 : ∀ (x0 : Nat) (x1 : Int64) (x3 : Int32) (x4 : Int32) (S : ZS) (C T : Nat) (H : Heap) (locs : List Loc) (ls : Array Slot), self31 x0 x1 x3 x4 S C T → C ≤ kc ∧ T ≤ kt → zH D y A0 s H locs S → lv_has ls 6 [(0, .ref (zh y x0)), (1, .long x1), (3, .int x3), (4, .int x4)] → W p l e ({ frames := 2, cells := kc, slots := kt, locals := 82 } : Room) s m args below meth c H locs (kc - C) (kt - T) Q (F0 m 31 ls [])) {x0 : Nat} {x1 : Int64} {x3 : Int32} {x4 : Int32} {S : ZS} {C T : Nat} {H : Heap} {locs : List Loc} {ls : Array Slot} (hf : g_X11_type_68 Pw self31 x0 x1 x3 x4 S C T) (hCT : C ≤ kc ∧ T ≤ kt) (hM : zH D y A0 s H locs S) (hl : lv_has ls 6 [(0, .ref (zh y x0)), (1, .long x1), (3, .int x3), (4, .int x4)]) : W p l e ({ frames := 2, cells := kc, slots := kt, locals := 82 } : Room) s m args below meth c H locs (kc - C) (kt - T) Q (F0 m 68 ls []) := by
  obtain ⟨hx, hb, hml, hown, hts⟩ := id X
  unfold g_X11_type_68 at hf
  obtain ⟨v1, ev, hf⟩ := m_bndPE hf
  refine lv_iinc (v := v1) (lv' := [(4, .int v1), (0, .ref (zh y x0)), (1, .long x1), (3, .int x3)]) hx hb dX11_type_68 hl (k := 3) rfl (by rw [ev]; rfl) (by decide) rfl (fun ls hl => ?_)
  clear ev
  refine lv_goto (tgt := 31) hx hb dX11_type_71 (by decide) ?_
  exact hself31 x0 x1 x3 v1 _ _ _ _ _ _ hf hCT hM (lv_sub hl [1, 2, 3, 0] rfl)
def g_X11_type_66 (Pw : Int32 → ZS → Prop) (S : ZS) (C T : Nat) : Prop :=
  m_chkQ (vp_nar .boolean (0 : Int32) = (0 : Int32)) (Pw (0 : Int32) S)

set_option maxRecDepth 100000 in
set_option maxHeartbeats 4000000 in
theorem w_X11_type_66 {p : Program} {l : Launch} {e : Env} {s : State} {m : MethodId} {args : Array Value} {below : List Frame} {meth : Method} {c : Code} {Q : State → Prop} {D : va_G} {y : Nat → ClassId} {A0 : Nat → Prop} {kc kt : Nat} {Pw : Int32 → ZS → Prop} (X : CallFix p m c cX11_type 6 s args wsX11_type RX11) (hret : zQi p l e ({ frames := 2, cells := kc, slots := kt, locals := 82 } : Room) s m args below meth c Q cX11_type D y A0 .boolean Pw) {S : ZS} {C T : Nat} {H : Heap} {locs : List Loc} {ls : Array Slot} (hf : g_X11_type_66 Pw  S C T) (hCT : C ≤ kc ∧ T ≤ kt) (hM : zH D y A0 s H locs S) (hl : lv_has ls 6 []) : W p l e ({ frames := 2, cells := kc, slots := kt, locals := 82 } : Room) s m args below meth c H locs (kc - C) (kt - T) Q (F0 m 66 ls []) := by
  obtain ⟨hx, hb, hml, hown, hts⟩ := id X
  unfold g_X11_type_66 at hf
  refine lv_iconst (v := (0 : Int32)) hx hb dX11_type_66 (by decide) ?_
  obtain ⟨cd, hf⟩ := m_chkPE hf
  exact hret _ _ _ _ H locs _ ls hf hM (m_nb cd) dX11_type_67
def g_X11_type_31s (Pw : Int32 → ZS → Prop) (self31 : Nat → Int64 → Int32 → Int32 → ZS → Nat → Nat → Prop) (x0 : Nat) (x1 : Int64) (x3 : Int32) (x4 : Int32) (S : ZS) (C T : Nat) : Prop :=
  m_ifQ (x3 ≤ x4) (
  g_X11_type_77 Pw mFuel x0 x1 x3 (0 : Int32) S (C) (T)
  ) (
  m_calP (f_X11_byteOf x1 x4 S) (fun o1 =>
  m_ifQ (o1.1 = (10 : Int32)) (
  g_X11_type_68 Pw self31 x0 x1 x3 x4 o1.2 (C) (T)
  ) (
  m_ifQ (o1.1 < (32 : Int32)) (
  g_X11_type_66 Pw  o1.2 (C) (T)
  ) (
  m_ifQ (o1.1 ≤ (126 : Int32)) (
  g_X11_type_68 Pw self31 x0 x1 x3 x4 o1.2 (C) (T)
  ) (
  g_X11_type_66 Pw  o1.2 (C) (T)
  )
  )
  ))
  )

set_option maxRecDepth 100000 in
set_option maxHeartbeats 4000000 in
theorem ws_X11_type_31 {p : Program} {l : Launch} {e : Env} {s : State} {m : MethodId} {args : Array Value} {below : List Frame} {meth : Method} {c : Code} {Q : State → Prop} {D : va_G} {y : Nat → ClassId} {A0 : Nat → Prop} {kc kt : Nat} {Pw : Int32 → ZS → Prop} (X : CallFix p m c cX11_type 6 s args wsX11_type RX11) (hret : zQi p l e ({ frames := 2, cells := kc, slots := kt, locals := 82 } : Room) s m args below meth c Q cX11_type D y A0 .boolean Pw) {self31 : Nat → Int64 → Int32 → Int32 → ZS → Nat → Nat → Prop} (hself31 : ∀ (x0 : Nat) (x1 : Int64) (x3 : Int32) (x4 : Int32) (S : ZS) (C T : Nat) (H : Heap) (locs : List Loc) (ls : Array Slot), self31 x0 x1 x3 x4 S C T → C ≤ kc ∧ T ≤ kt → zH D y A0 s H locs S → lv_has ls 6 [(0, .ref (zh y x0)), (1, .long x1), (3, .int x3), (4, .int x4)] → W p l e ({ frames := 2, cells := kc, slots := kt, locals := 82 } : Room) s m args below meth c H locs (kc - C) (kt - T) Q (F0 m 31 ls [])) {x0 : Nat} {x1 : Int64} {x3 : Int32} {x4 : Int32} {S : ZS} {C T : Nat} {H : Heap} {locs : List Loc} {ls : Array Slot} (hf : g_X11_type_31s Pw self31 x0 x1 x3 x4 S C T) (hCT : C ≤ kc ∧ T ≤ kt) (hM : zH D y A0 s H locs S) (hl : lv_has ls 6 [(0, .ref (zh y x0)), (1, .long x1), (3, .int x3), (4, .int x4)]) : W p l e ({ frames := 2, cells := kc, slots := kt, locals := 82 } : Room) s m args below meth c H locs (kc - C) (kt - T) Q (F0 m 31 ls []) := by
  obtain ⟨hx, hb, hml, hown, hts⟩ := id X
  unfold g_X11_type_31s at hf
  refine lv_iload hx hb dX11_type_31 (lv_at hl 3 rfl) ?_
  refine lv_iload_n hx hb dX11_type_33 rfl (lv_at hl 2 rfl) ?_
  refine lv_icmp_ge (tgt := 74) hx hb dX11_type_34 (by decide) (fun cc1 => ?_) (fun cc1 => ?_)
  · replace hf := m_ifPT hf cc1
    refine lv_iconst (v := (0 : Int32)) hx hb dX11_type_74 (by decide) ?_
    refine lv_istore (lv' := [(4, .int (0 : Int32)), (0, .ref (zh y x0)), (1, .long x1), (3, .int x3)]) hx hb dX11_type_75 hl (by decide) rfl (fun ls hl => ?_)
    exact w_X11_type_77 X hret _ x0 x1 x3 (0 : Int32) _ _ _ _ _ _ hf hCT hM (lv_sub hl [1, 2, 3, 0] rfl)
  · replace hf := m_ifPF hf cc1
    refine lv_lload_n hx hb dX11_type_37 rfl (lv_at hl 1 rfl) ?_
    refine lv_iload hx hb dX11_type_38 (lv_at hl 3 rfl) ?_
    obtain ⟨o1, ho, hf⟩ := m_calPE hf
    refine z_gcallSi X hM (c_X11_byteOf ho) gX11_type_X11_byteOf rfl ⟨rfl, rfl⟩ hd_X11_byteOf ⟨Nat.le_of_ble_eq_true rfl, Nat.le_of_ble_eq_true rfl⟩ rfl hl.1 rfl ⟨Nat.sub_le _ _, Nat.sub_le _ _⟩ (Nat.le_of_ble_eq_true rfl) dX11_type_40 (fun H locs hM => ?_)
    clear ho
    refine lv_istore (lv' := [(5, .int o1.1), (0, .ref (zh y x0)), (1, .long x1), (3, .int x3), (4, .int x4)]) hx hb dX11_type_43 hl (by decide) rfl (fun ls hl => ?_)
    refine lv_iload hx hb dX11_type_45 (lv_at hl 0 rfl) ?_
    refine lv_bipush (v := (10 : Int32)) hx hb dX11_type_47 (by decide) ?_
    refine lv_icmp_eq (tgt := 68) hx hb dX11_type_49 (by decide) (fun cc1 => ?_) (fun cc1 => ?_)
    · replace hf := m_ifPT hf cc1
      exact w_X11_type_68 (x0 := x0) (x1 := x1) (x3 := x3) (x4 := x4) X hret hself31 hf hCT hM (lv_sub hl [1, 2, 3, 4] rfl)
    · replace hf := m_ifPF hf cc1
      refine lv_iload hx hb dX11_type_52 (lv_at hl 0 rfl) ?_
      refine lv_bipush (v := (32 : Int32)) hx hb dX11_type_54 (by decide) ?_
      refine lv_icmp_lt (tgt := 66) hx hb dX11_type_56 (by decide) (fun cc1 => ?_) (fun cc1 => ?_)
      · replace hf := m_ifPT hf cc1
        exact w_X11_type_66 X hret hf hCT hM (lv_sub hl [] rfl)
      · replace hf := m_ifPF hf cc1
        refine lv_iload hx hb dX11_type_59 (lv_at hl 0 rfl) ?_
        refine lv_bipush (v := (126 : Int32)) hx hb dX11_type_61 (by decide) ?_
        refine lv_icmp_le (tgt := 68) hx hb dX11_type_63 (by decide) (fun cc1 => ?_) (fun cc1 => ?_)
        · replace hf := m_ifPT hf cc1
          exact w_X11_type_68 (x0 := x0) (x1 := x1) (x3 := x3) (x4 := x4) X hret hself31 hf hCT hM (lv_sub hl [1, 2, 3, 4] rfl)
        · replace hf := m_ifPF hf cc1
          exact w_X11_type_66 X hret hf hCT hM (lv_sub hl [] rfl)
def g_X11_type_31 (Pw : Int32 → ZS → Prop) : Nat → Nat → Int64 → Int32 → Int32 → ZS → Nat → Nat → Prop
  | 0 => fun _ _ _ _ _ _ _ => False
  | n + 1 => g_X11_type_31s Pw (g_X11_type_31 Pw n)
theorem w_X11_type_31 {p : Program} {l : Launch} {e : Env} {s : State} {m : MethodId} {args : Array Value} {below : List Frame} {meth : Method} {c : Code} {Q : State → Prop} {D : va_G} {y : Nat → ClassId} {A0 : Nat → Prop} {kc kt : Nat} {Pw : Int32 → ZS → Prop} (X : CallFix p m c cX11_type 6 s args wsX11_type RX11) (hret : zQi p l e ({ frames := 2, cells := kc, slots := kt, locals := 82 } : Room) s m args below meth c Q cX11_type D y A0 .boolean Pw) (n : Nat) : ∀ (x0 : Nat) (x1 : Int64) (x3 : Int32) (x4 : Int32) (S : ZS) (C T : Nat) (H : Heap) (locs : List Loc) (ls : Array Slot), g_X11_type_31 Pw n x0 x1 x3 x4 S C T → C ≤ kc ∧ T ≤ kt → zH D y A0 s H locs S → lv_has ls 6 [(0, .ref (zh y x0)), (1, .long x1), (3, .int x3), (4, .int x4)] → W p l e ({ frames := 2, cells := kc, slots := kt, locals := 82 } : Room) s m args below meth c H locs (kc - C) (kt - T) Q (F0 m 31 ls []) := by
  induction n with
  | zero => intro x0 x1 x3 x4 S C T H locs ls hf; exact absurd hf id
  | succ n ih => intro x0 x1 x3 x4 S C T H locs ls hf hCT hM hl; exact ws_X11_type_31 X hret (self31 := g_X11_type_31 Pw n) ih hf hCT hM hl
def g_X11_type_0 (Pw : Int32 → ZS → Prop) (x0 : Nat) (x1 : Int64) (x3 : Int32) (S : ZS) (C T : Nat) : Prop :=
  m_ifQ (x3 < (1 : Int32)) (
  g_X11_type_26 Pw  S (C) (T)
  ) (
  m_ifQ ((8 : Int32) < x3) (
  g_X11_type_26 Pw  S (C) (T)
  ) (
  m_chkQ (zK S x0 = 11) (
  m_calP (zP S 0 x0) (fun b1 =>
  m_chkQ (zK S b1 = 6) (
  m_calP (f_X6_size b1 S) (fun o2 =>
  m_bndP (o2.1 + x3) (fun v3 =>
  m_ifQ (v3 ≤ (2000 : Int32)) (
  g_X11_type_31 Pw mFuel x0 x1 x3 (0 : Int32) o2.2 (C) (T)
  ) (
  g_X11_type_26 Pw  o2.2 (C) (T)
  ))))))
  )
  )

set_option maxRecDepth 100000 in
set_option maxHeartbeats 4000000 in
theorem w_X11_type_0 {p : Program} {l : Launch} {e : Env} {s : State} {m : MethodId} {args : Array Value} {below : List Frame} {meth : Method} {c : Code} {Q : State → Prop} {D : va_G} {y : Nat → ClassId} {A0 : Nat → Prop} {kc kt : Nat} {Pw : Int32 → ZS → Prop} (X : CallFix p m c cX11_type 6 s args wsX11_type RX11) (hret : zQi p l e ({ frames := 2, cells := kc, slots := kt, locals := 82 } : Room) s m args below meth c Q cX11_type D y A0 .boolean Pw) {x0 : Nat} {x1 : Int64} {x3 : Int32} {S : ZS} {C T : Nat} {H : Heap} {locs : List Loc} {ls : Array Slot} (hf : g_X11_type_0 Pw x0 x1 x3 S C T) (hCT : C ≤ kc ∧ T ≤ kt) (hM : zH D y A0 s H locs S) (hl : lv_has ls 6 [(0, .ref (zh y x0)), (1, .long x1), (3, .int x3)]) : W p l e ({ frames := 2, cells := kc, slots := kt, locals := 82 } : Room) s m args below meth c H locs (kc - C) (kt - T) Q (F0 m 0 ls []) := by
  obtain ⟨hx, hb, hml, hown, hts⟩ := id X
  unfold g_X11_type_0 at hf
  refine lv_iload_n hx hb dX11_type_0 rfl (lv_at hl 2 rfl) ?_
  refine lv_iconst (v := (1 : Int32)) hx hb dX11_type_1 (by decide) ?_
  refine lv_icmp_lt (tgt := 26) hx hb dX11_type_2 (by decide) (fun cc1 => ?_) (fun cc1 => ?_)
  · replace hf := m_ifPT hf cc1
    exact w_X11_type_26 X hret hf hCT hM (lv_sub hl [] rfl)
  · replace hf := m_ifPF hf cc1
    refine lv_iload_n hx hb dX11_type_5 rfl (lv_at hl 2 rfl) ?_
    refine lv_bipush (v := (8 : Int32)) hx hb dX11_type_6 (by decide) ?_
    refine lv_icmp_gt (tgt := 26) hx hb dX11_type_8 (by decide) (fun cc1 => ?_) (fun cc1 => ?_)
    · replace hf := m_ifPT hf cc1
      exact w_X11_type_26 X hret hf hCT hM (lv_sub hl [] rfl)
    · replace hf := m_ifPF hf cc1
      refine lv_aload_n hx hb dX11_type_11 rfl (lv_at hl 0 rfl) ?_
      obtain ⟨ca, hf⟩ := m_chkPE hf
      replace ca := z_in hM (by decide) ca
      refine z_get (k := 11) (j := 0) (C := RX11) (T := TX11) (N := 10) (fl := zf_11) (v := va_rf ((zP S 0 x0).map (zh y))) X hw_X11_type_11 hM rfl zc_11 ca (by decide) fl_X11_type_11_0 rfl dX11_type_12 ?_
      clear ca
      obtain ⟨b1, hb9, hf⟩ := m_calPE hf
      refine z_topr hb9 ?_
      clear hb9
      obtain ⟨ca, hf⟩ := m_chkPE hf
      replace ca := z_in hM (by decide) ca
      obtain ⟨o2, ho, hf⟩ := m_calPE hf
      refine z_gcallVi (k := 6) (C := RX6) (T := TX6) (N := 2) (fl := zf_6) X hM rfl zc_6 ca (c_X6_size ho) gX11_type_X6_size rfl ⟨rfl, rfl⟩ hd_X6_size ⟨Nat.le_of_ble_eq_true rfl, Nat.le_of_ble_eq_true rfl⟩ rfl hl.1 rfl ⟨Nat.sub_le _ _, Nat.sub_le _ _⟩ (Nat.le_of_ble_eq_true rfl) dX11_type_15 (fun H locs hM => ?_)
      clear ho
      refine lv_iload_n hx hb dX11_type_18 rfl (lv_at hl 2 rfl) ?_
      refine lv_iadd hx hb dX11_type_19 ?_
      obtain ⟨v3, ev, hf⟩ := m_bndPE hf
      refine m_top ev ?_
      clear ev
      refine lv_sipush (v := (2000 : Int32)) hx hb dX11_type_20 (by decide) ?_
      refine lv_icmp_le (tgt := 28) hx hb dX11_type_23 (by decide) (fun cc1 => ?_) (fun cc1 => ?_)
      · replace hf := m_ifPT hf cc1
        refine lv_iconst (v := (0 : Int32)) hx hb dX11_type_28 (by decide) ?_
        refine lv_istore (lv' := [(4, .int (0 : Int32)), (0, .ref (zh y x0)), (1, .long x1), (3, .int x3)]) hx hb dX11_type_29 hl (by decide) rfl (fun ls hl => ?_)
        exact w_X11_type_31 X hret _ x0 x1 x3 (0 : Int32) _ _ _ _ _ _ hf hCT hM (lv_sub hl [1, 2, 3, 0] rfl)
      · replace hf := m_ifPF hf cc1
        exact w_X11_type_26 X hret hf hCT hM (lv_sub hl [] rfl)
def g_X11_type (x0 : Nat) (x1 : Int64) (x3 : Int32) (S : ZS) (mc ms : Nat) (Pw : Int32 → ZS → Prop) : Prop := g_X11_type_0 Pw x0 x1 x3 S mc ms
theorem c_X11_type {l : Launch} {D : va_G} {y : Nat → ClassId} {x0 : Nat} {x1 : Int64} {x3 : Int32} {S : ZS} {kc kt : Nat} {Pw : Int32 → ZS → Prop} (hf : g_X11_type x0 x1 x3 S kc kt Pw) : zWi l yX11_type wsX11_type ({ frames := 2, cells := kc, slots := kt, locals := 82 } : Room) [.ref (zh y x0), .long x1, .int x3] D y S kc kt Pw :=
  z_wentI (own := RX11) (cc := cX11_type) (maxL := 6) (by decide) rfl rfl (Nat.le_of_ble_eq_true rfl) ⟨rfl, rfl⟩ (fun p e s m args below meth c A0 Q H locs ls X hret hM hl => w_X11_type_0 X hret hf ⟨Nat.le_refl _, Nat.le_refl _⟩ hM (lv_sub hl [0, 1, 2] rfl))
theorem hd_X11_cut : yX11_cut.cls = RX11 ∧ yX11_cut.cls ≠ "java/lang/invoke/MethodHandle" ∧ yX11_cut.cls ≠ "java/lang/invoke/VarHandle" ∧ (parseMethodDescriptor yX11_cut.desc).map (fun d => d.parameters.length) = some 1 := by decide +kernel
theorem fl_X11_cut_11_0 : Cond.fieldLink RX11 10 "MoveTexts" "text" "LMoveTexts$Row;" ∈ wsX11_cut := by decide +kernel
theorem hw_X11_cut_11 : ∀ w ∈ wsX110, w ∈ wsX11_cut := by decide +kernel
def f_X11_cut_15 (S : ZS) : Option (Int32 × ZS) :=
  m_chk (vp_nar .boolean (0 : Int32) = (0 : Int32)) (some ((0 : Int32), S))

set_option maxRecDepth 100000 in
set_option maxHeartbeats 4000000 in
theorem w_X11_cut_15 {p : Program} {l : Launch} {e : Env} {s : State} {m : MethodId} {args : Array Value} {below : List Frame} {meth : Method} {c : Code} {Q : State → Prop} {D : va_G} {y : Nat → ClassId} {A0 : Nat → Prop} {o : Int32 × ZS} (X : CallFix p m c cX11_cut 2 s args wsX11_cut RX11) (hret : zRi p l e ({ frames := 1, cells := 0, slots := 0, locals := 21 } : Room) s m args below meth c Q cX11_cut D y A0 .boolean o) {S : ZS} {H : Heap} {locs : List Loc} {ls : Array Slot} (hf : f_X11_cut_15  S = some o) (hM : zH D y A0 s H locs S) (hl : lv_has ls 2 []) : W p l e ({ frames := 1, cells := 0, slots := 0, locals := 21 } : Room) s m args below meth c H locs 0 0 Q (F0 m 15 ls []) := by
  obtain ⟨hx, hb, hml, hown, hts⟩ := id X
  unfold f_X11_cut_15 at hf
  refine lv_iconst (v := (0 : Int32)) hx hb dX11_cut_15 (by decide) ?_
  obtain ⟨cd, hf⟩ := m_chkE hf
  cases hf
  exact hret H locs _ ls hM (m_nb cd) dX11_cut_16
def f_X11_cut_0 (x0 : Nat) (x1 : Int32) (S : ZS) : Option (Int32 × ZS) :=
  m_if (x1 < 0) (
  f_X11_cut_15  S
  ) (
  m_chk (zK S x0 = 11) (
  m_cal (zP S 0 x0) (fun b1 =>
  m_chk (zK S b1 = 6) (
  m_cal (f_X6_size b1 S) (fun o2 =>
  m_if (x1 ≤ o2.1) (
  m_chk (zK o2.2 x0 = 11) (
  m_cal (zP o2.2 0 x0) (fun b3 =>
  m_chk (zK o2.2 b3 = 6) (
  m_cal (f_X6_keep b3 x1 o2.2) (fun o4 =>
  m_chk (vp_nar .boolean (1 : Int32) = (1 : Int32)) (some ((1 : Int32), o4.2))))))
  ) (
  f_X11_cut_15  o2.2
  )))))
  )

set_option maxRecDepth 100000 in
set_option maxHeartbeats 4000000 in
theorem w_X11_cut_0 {p : Program} {l : Launch} {e : Env} {s : State} {m : MethodId} {args : Array Value} {below : List Frame} {meth : Method} {c : Code} {Q : State → Prop} {D : va_G} {y : Nat → ClassId} {A0 : Nat → Prop} {o : Int32 × ZS} (X : CallFix p m c cX11_cut 2 s args wsX11_cut RX11) (hret : zRi p l e ({ frames := 1, cells := 0, slots := 0, locals := 21 } : Room) s m args below meth c Q cX11_cut D y A0 .boolean o) {x0 : Nat} {x1 : Int32} {S : ZS} {H : Heap} {locs : List Loc} {ls : Array Slot} (hf : f_X11_cut_0 x0 x1 S = some o) (hM : zH D y A0 s H locs S) (hl : lv_has ls 2 [(0, .ref (zh y x0)), (1, .int x1)]) : W p l e ({ frames := 1, cells := 0, slots := 0, locals := 21 } : Room) s m args below meth c H locs 0 0 Q (F0 m 0 ls []) := by
  obtain ⟨hx, hb, hml, hown, hts⟩ := id X
  unfold f_X11_cut_0 at hf
  refine lv_iload_n hx hb dX11_cut_0 rfl (lv_at hl 1 rfl) ?_
  refine lv_if_lt (tgt := 15) hx hb dX11_cut_1 (by decide) (fun cc1 => ?_) (fun cc1 => ?_)
  · replace hf := m_ifT hf cc1
    exact w_X11_cut_15 X hret hf hM (lv_sub hl [] rfl)
  · replace hf := m_ifF hf cc1
    refine lv_iload_n hx hb dX11_cut_4 rfl (lv_at hl 1 rfl) ?_
    refine lv_aload_n hx hb dX11_cut_5 rfl (lv_at hl 0 rfl) ?_
    obtain ⟨ca, hf⟩ := m_chkE hf
    replace ca := z_in hM (by decide) ca
    refine z_get (k := 11) (j := 0) (C := RX11) (T := TX11) (N := 10) (fl := zf_11) (v := va_rf ((zP S 0 x0).map (zh y))) X hw_X11_cut_11 hM rfl zc_11 ca (by decide) fl_X11_cut_11_0 rfl dX11_cut_6 ?_
    clear ca
    obtain ⟨b1, hb9, hf⟩ := m_calE hf
    refine z_topr hb9 ?_
    clear hb9
    obtain ⟨ca, hf⟩ := m_chkE hf
    replace ca := z_in hM (by decide) ca
    obtain ⟨o2, ho, hf⟩ := m_calE hf
    refine z_callVi (k := 6) (C := RX6) (T := TX6) (N := 2) (fl := zf_6) X hM rfl zc_6 ca (c_X6_size ho) gX11_cut_X6_size rfl ⟨rfl, rfl⟩ hd_X6_size ⟨Nat.le_of_ble_eq_true rfl, Nat.le_of_ble_eq_true rfl⟩ rfl hl.1 rfl (Nat.le_of_ble_eq_true rfl) dX11_cut_9 (fun H locs hM => ?_)
    clear ho
    refine lv_icmp_le (tgt := 17) hx hb dX11_cut_12 (by decide) (fun cc1 => ?_) (fun cc1 => ?_)
    · replace hf := m_ifT hf cc1
      refine lv_aload_n hx hb dX11_cut_17 rfl (lv_at hl 0 rfl) ?_
      obtain ⟨ca, hf⟩ := m_chkE hf
      replace ca := z_in hM (by decide) ca
      refine z_get (k := 11) (j := 0) (C := RX11) (T := TX11) (N := 10) (fl := zf_11) (v := va_rf ((zP o2.2 0 x0).map (zh y))) X hw_X11_cut_11 hM rfl zc_11 ca (by decide) fl_X11_cut_11_0 rfl dX11_cut_18 ?_
      clear ca
      obtain ⟨b3, hb9, hf⟩ := m_calE hf
      refine z_topr hb9 ?_
      clear hb9
      refine lv_iload_n hx hb dX11_cut_21 rfl (lv_at hl 1 rfl) ?_
      obtain ⟨ca, hf⟩ := m_chkE hf
      replace ca := z_in hM (by decide) ca
      obtain ⟨o4, ho, hf⟩ := m_calE hf
      refine z_callVv (k := 6) (C := RX6) (T := TX6) (N := 2) (fl := zf_6) X hM rfl zc_6 ca (c_X6_keep ho) gX11_cut_X6_keep rfl ⟨rfl, rfl⟩ hd_X6_keep ⟨Nat.le_of_ble_eq_true rfl, Nat.le_of_ble_eq_true rfl⟩ rfl hl.1 rfl (Nat.le_of_ble_eq_true rfl) dX11_cut_22 (fun H locs hM => ?_)
      clear ho
      refine lv_iconst (v := (1 : Int32)) hx hb dX11_cut_25 (by decide) ?_
      obtain ⟨cd, hf⟩ := m_chkE hf
      cases hf
      exact hret H locs _ ls hM (m_nb cd) dX11_cut_26
    · replace hf := m_ifF hf cc1
      exact w_X11_cut_15 X hret hf hM (lv_sub hl [] rfl)
def f_X11_cut (x0 : Nat) (x1 : Int32) (S : ZS) : Option (Int32 × ZS) := f_X11_cut_0 x0 x1 S
theorem c_X11_cut {l : Launch} {D : va_G} {y : Nat → ClassId} {x0 : Nat} {x1 : Int32} {S : ZS} {o : Int32 × ZS} (hf : f_X11_cut x0 x1 S = some o) : zMi l yX11_cut wsX11_cut ({ frames := 1, cells := 0, slots := 0, locals := 21 } : Room) [.ref (zh y x0), .int x1] D y S o :=
  z_entryI (own := RX11) (cc := cX11_cut) (maxL := 2) (by decide) rfl rfl (Nat.le_of_ble_eq_true rfl) (fun p e s m args below meth c A0 Q H locs ls X hret hM hl => w_X11_cut_0 X hret hf hM (lv_sub hl [0, 1] rfl))
theorem hd_X11_read : yX11_read.cls = RX11 ∧ yX11_read.cls ≠ "java/lang/invoke/MethodHandle" ∧ yX11_read.cls ≠ "java/lang/invoke/VarHandle" ∧ (parseMethodDescriptor yX11_read.desc).map (fun d => d.parameters.length) = some 0 := by decide +kernel
theorem fl_X11_read_11_0 : Cond.fieldLink RX11 10 "MoveTexts" "text" "LMoveTexts$Row;" ∈ wsX11_read := by decide +kernel
theorem fl_X11_read_11_5 : Cond.fieldLink RX11 43 "MoveTexts" "gameReader" "LMoveTexts$GameReader;" ∈ wsX11_read := by decide +kernel
theorem fl_X11_read_11_7 : Cond.fieldLink RX11 57 "MoveTexts" "game" "LMoveTexts$Game;" ∈ wsX11_read := by decide +kernel
theorem fl_X11_read_11_8 : Cond.fieldLink RX11 61 "MoveTexts" "here" "I" ∈ wsX11_read := by decide +kernel
theorem fl_X11_read_11_9 : Cond.fieldLink RX11 68 "MoveTexts" "board" "LMoveTexts$Board;" ∈ wsX11_read := by decide +kernel
theorem hw_X11_read_11 : ∀ w ∈ wsX110, w ∈ wsX11_read := by decide +kernel
def g_X11_read_41 (Pw : Int32 → ZS → Prop) (x0 : Nat) (S : ZS) (C T : Nat) : Prop :=
  m_chkQ (zK S x0 = 11) (
  m_calP (zP S 5 x0) (fun b1 =>
  m_chkQ (zK S b1 = 2) (
  m_calP (f_X2_fault b1 S) (fun o2 =>
  Pw o2.1 o2.2))))

set_option maxRecDepth 100000 in
set_option maxHeartbeats 4000000 in
theorem w_X11_read_41 {p : Program} {l : Launch} {e : Env} {s : State} {m : MethodId} {args : Array Value} {below : List Frame} {meth : Method} {c : Code} {Q : State → Prop} {D : va_G} {y : Nat → ClassId} {A0 : Nat → Prop} {kc kt : Nat} {Pw : Int32 → ZS → Prop} (X : CallFix p m c cX11_read 1 s args wsX11_read RX11) (hret : zQi p l e ({ frames := 10, cells := kc, slots := kt, locals := 226 } : Room) s m args below meth c Q cX11_read D y A0 .int Pw) {x0 : Nat} {S : ZS} {C T : Nat} {H : Heap} {locs : List Loc} {ls : Array Slot} (hf : g_X11_read_41 Pw x0 S C T) (hCT : C ≤ kc ∧ T ≤ kt) (hM : zH D y A0 s H locs S) (hl : lv_has ls 1 [(0, .ref (zh y x0))]) : W p l e ({ frames := 10, cells := kc, slots := kt, locals := 226 } : Room) s m args below meth c H locs (kc - C) (kt - T) Q (F0 m 41 ls []) := by
  obtain ⟨hx, hb, hml, hown, hts⟩ := id X
  unfold g_X11_read_41 at hf
  refine lv_aload_n hx hb dX11_read_41 rfl (lv_at hl 0 rfl) ?_
  obtain ⟨ca, hf⟩ := m_chkPE hf
  replace ca := z_in hM (by decide) ca
  refine z_get (k := 11) (j := 5) (C := RX11) (T := TX11) (N := 10) (fl := zf_11) (v := va_rf ((zP S 5 x0).map (zh y))) X hw_X11_read_11 hM rfl zc_11 ca (by decide) fl_X11_read_11_5 rfl dX11_read_42 ?_
  clear ca
  obtain ⟨b1, hb9, hf⟩ := m_calPE hf
  refine z_topr hb9 ?_
  clear hb9
  obtain ⟨ca, hf⟩ := m_chkPE hf
  replace ca := z_in hM (by decide) ca
  obtain ⟨o2, ho, hf⟩ := m_calPE hf
  refine z_gcallVi (k := 2) (C := RX2) (T := TX2) (N := 12) (fl := zf_2) X hM rfl zc_2 ca (c_X2_fault ho) gX11_read_X2_fault rfl ⟨rfl, rfl⟩ hd_X2_fault ⟨Nat.le_of_ble_eq_true rfl, Nat.le_of_ble_eq_true rfl⟩ rfl hl.1 rfl ⟨Nat.sub_le _ _, Nat.sub_le _ _⟩ (Nat.le_of_ble_eq_true rfl) dX11_read_45 (fun H locs hM => ?_)
  clear ho
  exact hret _ _ _ _ H locs _ ls hf hM rfl dX11_read_48
def g_X11_read_0 (Pw : Int32 → ZS → Prop) (x0 : Nat) (S : ZS) (C T : Nat) : Prop :=
  m_chkQ (zK S x0 = 11) (
  m_calP (zP S 5 x0) (fun b1 =>
  m_chkQ (zK S x0 = 11) (
  m_calP (zP S 0 x0) (fun b2 =>
  m_chkQ (zK S b1 = 2) (
  m_calP (f_X2_begin b1 b2 S) (fun o3 =>
  m_chkQ (zK o3.2 x0 = 11) (
  m_calP (zP o3.2 5 x0) (fun b4 =>
  m_chkQ (zK o3.2 b4 = 2) (
  m_gal (C) (T) (fun mc ms Pw => g_X2_readHead b4 o3.2 mc ms Pw) (fun r6 S7 C8 T9 =>
  m_ifQ (r6 = 0) (
  g_X11_read_41 Pw x0 S7 (C8) (T9)
  ) (
  m_chkQ (zK S7 x0 = 11) (
  m_calP (zP S7 5 x0) (fun b10 =>
  m_chkQ (zK S7 b10 = 2) (
  m_gal (C8) (T9) (fun mc ms Pw => g_X2_readMoves b10 S7 mc ms Pw) (fun r12 S13 C14 T15 =>
  m_ifQ (r12 = 0) (
  g_X11_read_41 Pw x0 S13 (C14) (T15)
  ) (
  m_chkQ (zK S13 x0 = 11) (
  m_calP (zP S13 5 x0) (fun b16 =>
  m_chkQ (zK S13 b16 = 2) (
  m_gal (C14) (T15) (fun mc ms Pw => g_X2_readEnd b16 S13 mc ms Pw) (fun r18 S19 C20 T21 =>
  m_ifQ (r18 = 0) (
  g_X11_read_41 Pw x0 S19 (C20) (T21)
  ) (
  m_chkQ (zK S19 x0 = 11) (
  m_calP (zP S19 5 x0) (fun b22 =>
  m_chkQ (zK S19 x0 = 11) (
  m_calP (zP S19 7 x0) (fun b23 =>
  m_chkQ (zK S19 b22 = 2) (
  m_calP (f_X2_exchange b22 b23 S19) (fun o24 =>
  m_chkQ (zK o24.2 x0 = 11) (
  m_bndP (zsP o24.2 7 x0 (some o24.1)) (fun S25 =>
  m_chkQ (zK S25 x0 = 11) (
  m_calP (zP S25 0 x0) (fun b26 =>
  m_chkQ (zK S25 b26 = 6) (
  m_calP (f_X6_keep b26 (0 : Int32) S25) (fun o27 =>
  m_chkQ (zK o27.2 x0 = 11) (
  m_bndP (zsI o27.2 8 x0 (0 : Int32)) (fun S28 =>
  m_chkQ (zK S28 x0 = 11) (
  m_calP (zP S28 7 x0) (fun b29 =>
  m_chkQ (zK S28 x0 = 11) (
  m_calP (zP S28 9 x0) (fun b30 =>
  m_chkQ (zK S28 b29 = 1) (
  m_calP (f_X1_standAt b29 (0 : Int32) b30 S28) (fun o31 =>
  Pw (0 : Int32) o31.2))))))))))))))))))))
  )))))
  )))))
  )))))))))))

set_option maxRecDepth 100000 in
set_option maxHeartbeats 4000000 in
theorem w_X11_read_0 {p : Program} {l : Launch} {e : Env} {s : State} {m : MethodId} {args : Array Value} {below : List Frame} {meth : Method} {c : Code} {Q : State → Prop} {D : va_G} {y : Nat → ClassId} {A0 : Nat → Prop} {kc kt : Nat} {Pw : Int32 → ZS → Prop} (X : CallFix p m c cX11_read 1 s args wsX11_read RX11) (hret : zQi p l e ({ frames := 10, cells := kc, slots := kt, locals := 226 } : Room) s m args below meth c Q cX11_read D y A0 .int Pw) {x0 : Nat} {S : ZS} {C T : Nat} {H : Heap} {locs : List Loc} {ls : Array Slot} (hf : g_X11_read_0 Pw x0 S C T) (hCT : C ≤ kc ∧ T ≤ kt) (hM : zH D y A0 s H locs S) (hl : lv_has ls 1 [(0, .ref (zh y x0))]) : W p l e ({ frames := 10, cells := kc, slots := kt, locals := 226 } : Room) s m args below meth c H locs (kc - C) (kt - T) Q (F0 m 0 ls []) := by
  obtain ⟨hx, hb, hml, hown, hts⟩ := id X
  unfold g_X11_read_0 at hf
  refine lv_aload_n hx hb dX11_read_0 rfl (lv_at hl 0 rfl) ?_
  obtain ⟨ca, hf⟩ := m_chkPE hf
  replace ca := z_in hM (by decide) ca
  refine z_get (k := 11) (j := 5) (C := RX11) (T := TX11) (N := 10) (fl := zf_11) (v := va_rf ((zP S 5 x0).map (zh y))) X hw_X11_read_11 hM rfl zc_11 ca (by decide) fl_X11_read_11_5 rfl dX11_read_1 ?_
  clear ca
  obtain ⟨b1, hb9, hf⟩ := m_calPE hf
  refine z_topr hb9 ?_
  clear hb9
  refine lv_aload_n hx hb dX11_read_4 rfl (lv_at hl 0 rfl) ?_
  obtain ⟨ca, hf⟩ := m_chkPE hf
  replace ca := z_in hM (by decide) ca
  refine z_get (k := 11) (j := 0) (C := RX11) (T := TX11) (N := 10) (fl := zf_11) (v := va_rf ((zP S 0 x0).map (zh y))) X hw_X11_read_11 hM rfl zc_11 ca (by decide) fl_X11_read_11_0 rfl dX11_read_5 ?_
  clear ca
  obtain ⟨b2, hb9, hf⟩ := m_calPE hf
  refine z_topr hb9 ?_
  clear hb9
  obtain ⟨ca, hf⟩ := m_chkPE hf
  replace ca := z_in hM (by decide) ca
  obtain ⟨o3, ho, hf⟩ := m_calPE hf
  refine z_gcallVv (k := 2) (C := RX2) (T := TX2) (N := 12) (fl := zf_2) X hM rfl zc_2 ca (c_X2_begin ho) gX11_read_X2_begin rfl ⟨rfl, rfl⟩ hd_X2_begin ⟨Nat.le_of_ble_eq_true rfl, Nat.le_of_ble_eq_true rfl⟩ rfl hl.1 rfl ⟨Nat.sub_le _ _, Nat.sub_le _ _⟩ (Nat.le_of_ble_eq_true rfl) dX11_read_8 (fun H locs hM => ?_)
  clear ho
  refine lv_aload_n hx hb dX11_read_11 rfl (lv_at hl 0 rfl) ?_
  obtain ⟨ca, hf⟩ := m_chkPE hf
  replace ca := z_in hM (by decide) ca
  refine z_get (k := 11) (j := 5) (C := RX11) (T := TX11) (N := 10) (fl := zf_11) (v := va_rf ((zP o3.2 5 x0).map (zh y))) X hw_X11_read_11 hM rfl zc_11 ca (by decide) fl_X11_read_11_5 rfl dX11_read_12 ?_
  clear ca
  obtain ⟨b4, hb9, hf⟩ := m_calPE hf
  refine z_topr hb9 ?_
  clear hb9
  obtain ⟨ca, hf⟩ := m_chkPE hf
  replace ca := z_in hM (by decide) ca
  obtain ⟨mc, ms, hcm, ho⟩ := m_galE hf
  refine z_wcallVi (k := 2) (C := RX2) (T := TX2) (N := 12) (fl := zf_2) X hM rfl zc_2 ca (c_X2_readHead ho) gX11_read_X2_readHead rfl ⟨rfl, rfl⟩ ⟨by show kc - (C) + mc ≤ kc; omega, by show kt - (T) + ms ≤ kt; omega⟩ hd_X2_readHead ⟨Nat.le_of_ble_eq_true rfl, Nat.le_of_ble_eq_true rfl⟩ rfl hl.1 rfl (Nat.le_of_ble_eq_true rfl) dX11_read_15 (fun r6 S7 H locs hf hM => ?_)
  refine z_eqCS (c2 := kc - (C - mc)) (t2 := kt - (T - ms)) (by omega) (by omega) ?_
  replace hCT : C - mc ≤ kc ∧ T - ms ≤ kt := by omega
  generalize C - mc = C8 at hf hCT ⊢
  generalize T - ms = T9 at hf hCT ⊢
  clear ho hcm
  refine lv_if_eq (tgt := 41) hx hb dX11_read_18 (by decide) (fun cc1 => ?_) (fun cc1 => ?_)
  · replace hf := m_ifPT hf cc1
    exact w_X11_read_41 (x0 := x0) X hret hf hCT hM (lv_sub hl [0] rfl)
  · replace hf := m_ifPF hf cc1
    refine lv_aload_n hx hb dX11_read_21 rfl (lv_at hl 0 rfl) ?_
    obtain ⟨ca, hf⟩ := m_chkPE hf
    replace ca := z_in hM (by decide) ca
    refine z_get (k := 11) (j := 5) (C := RX11) (T := TX11) (N := 10) (fl := zf_11) (v := va_rf ((zP S7 5 x0).map (zh y))) X hw_X11_read_11 hM rfl zc_11 ca (by decide) fl_X11_read_11_5 rfl dX11_read_22 ?_
    clear ca
    obtain ⟨b10, hb9, hf⟩ := m_calPE hf
    refine z_topr hb9 ?_
    clear hb9
    obtain ⟨ca, hf⟩ := m_chkPE hf
    replace ca := z_in hM (by decide) ca
    obtain ⟨mc, ms, hcm, ho⟩ := m_galE hf
    refine z_wcallVi (k := 2) (C := RX2) (T := TX2) (N := 12) (fl := zf_2) X hM rfl zc_2 ca (c_X2_readMoves ho) gX11_read_X2_readMoves rfl ⟨rfl, rfl⟩ ⟨by show kc - (C8) + mc ≤ kc; omega, by show kt - (T9) + ms ≤ kt; omega⟩ hd_X2_readMoves ⟨Nat.le_of_ble_eq_true rfl, Nat.le_of_ble_eq_true rfl⟩ rfl hl.1 rfl (Nat.le_of_ble_eq_true rfl) dX11_read_25 (fun r12 S13 H locs hf hM => ?_)
    refine z_eqCS (c2 := kc - (C8 - mc)) (t2 := kt - (T9 - ms)) (by omega) (by omega) ?_
    replace hCT : C8 - mc ≤ kc ∧ T9 - ms ≤ kt := by omega
    generalize C8 - mc = C14 at hf hCT ⊢
    generalize T9 - ms = T15 at hf hCT ⊢
    clear ho hcm
    refine lv_if_eq (tgt := 41) hx hb dX11_read_28 (by decide) (fun cc1 => ?_) (fun cc1 => ?_)
    · replace hf := m_ifPT hf cc1
      exact w_X11_read_41 (x0 := x0) X hret hf hCT hM (lv_sub hl [0] rfl)
    · replace hf := m_ifPF hf cc1
      refine lv_aload_n hx hb dX11_read_31 rfl (lv_at hl 0 rfl) ?_
      obtain ⟨ca, hf⟩ := m_chkPE hf
      replace ca := z_in hM (by decide) ca
      refine z_get (k := 11) (j := 5) (C := RX11) (T := TX11) (N := 10) (fl := zf_11) (v := va_rf ((zP S13 5 x0).map (zh y))) X hw_X11_read_11 hM rfl zc_11 ca (by decide) fl_X11_read_11_5 rfl dX11_read_32 ?_
      clear ca
      obtain ⟨b16, hb9, hf⟩ := m_calPE hf
      refine z_topr hb9 ?_
      clear hb9
      obtain ⟨ca, hf⟩ := m_chkPE hf
      replace ca := z_in hM (by decide) ca
      obtain ⟨mc, ms, hcm, ho⟩ := m_galE hf
      refine z_wcallVi (k := 2) (C := RX2) (T := TX2) (N := 12) (fl := zf_2) X hM rfl zc_2 ca (c_X2_readEnd ho) gX11_read_X2_readEnd rfl ⟨rfl, rfl⟩ ⟨by show kc - (C14) + mc ≤ kc; omega, by show kt - (T15) + ms ≤ kt; omega⟩ hd_X2_readEnd ⟨Nat.le_of_ble_eq_true rfl, Nat.le_of_ble_eq_true rfl⟩ rfl hl.1 rfl (Nat.le_of_ble_eq_true rfl) dX11_read_35 (fun r18 S19 H locs hf hM => ?_)
      refine z_eqCS (c2 := kc - (C14 - mc)) (t2 := kt - (T15 - ms)) (by omega) (by omega) ?_
      replace hCT : C14 - mc ≤ kc ∧ T15 - ms ≤ kt := by omega
      generalize C14 - mc = C20 at hf hCT ⊢
      generalize T15 - ms = T21 at hf hCT ⊢
      clear ho hcm
      refine lv_if_ne (tgt := 49) hx hb dX11_read_38 (by decide) (fun cc1 => ?_) (fun cc1 => ?_)
      · replace hf := m_ifPF hf cc1
        refine lv_aload_n hx hb dX11_read_49 rfl (lv_at hl 0 rfl) ?_
        refine lv_aload_n hx hb dX11_read_50 rfl (lv_at hl 0 rfl) ?_
        obtain ⟨ca, hf⟩ := m_chkPE hf
        replace ca := z_in hM (by decide) ca
        refine z_get (k := 11) (j := 5) (C := RX11) (T := TX11) (N := 10) (fl := zf_11) (v := va_rf ((zP S19 5 x0).map (zh y))) X hw_X11_read_11 hM rfl zc_11 ca (by decide) fl_X11_read_11_5 rfl dX11_read_51 ?_
        clear ca
        obtain ⟨b22, hb9, hf⟩ := m_calPE hf
        refine z_topr hb9 ?_
        clear hb9
        refine lv_aload_n hx hb dX11_read_54 rfl (lv_at hl 0 rfl) ?_
        obtain ⟨ca, hf⟩ := m_chkPE hf
        replace ca := z_in hM (by decide) ca
        refine z_get (k := 11) (j := 7) (C := RX11) (T := TX11) (N := 10) (fl := zf_11) (v := va_rf ((zP S19 7 x0).map (zh y))) X hw_X11_read_11 hM rfl zc_11 ca (by decide) fl_X11_read_11_7 rfl dX11_read_55 ?_
        clear ca
        obtain ⟨b23, hb9, hf⟩ := m_calPE hf
        refine z_topr hb9 ?_
        clear hb9
        obtain ⟨ca, hf⟩ := m_chkPE hf
        replace ca := z_in hM (by decide) ca
        obtain ⟨o24, ho, hf⟩ := m_calPE hf
        refine z_gcallVr (k := 2) (C := RX2) (T := TX2) (N := 12) (fl := zf_2) X hM rfl zc_2 ca (c_X2_exchange ho) gX11_read_X2_exchange rfl ⟨rfl, rfl⟩ hd_X2_exchange ⟨Nat.le_of_ble_eq_true rfl, Nat.le_of_ble_eq_true rfl⟩ rfl hl.1 rfl ⟨Nat.sub_le _ _, Nat.sub_le _ _⟩ (Nat.le_of_ble_eq_true rfl) dX11_read_58 (fun H locs hM => ?_)
        clear ho
        obtain ⟨ca, hf⟩ := m_chkPE hf
        replace ca := z_in hM (by decide) ca
        refine z_putP (k := 11) (j := 7) (C := RX11) (T := TX11) (N := 10) (fl := zf_11) (ty := tyX11 7) X hw_X11_read_11 tyX11_ok nmX11 hM rfl zc_11 ca (by decide) fl_X11_read_11_7 rfl (tyX11_ok 7 (by decide)) rfl rfl zp_11_7 (Nat.le_of_ble_eq_true rfl) dX11_read_61 (fun H locs hM => ?_)
        clear ca
        obtain ⟨S25, ev, hf⟩ := m_bndPE hf
        replace hM := z_hS hM ev
        clear ev
        refine lv_aload_n hx hb dX11_read_64 rfl (lv_at hl 0 rfl) ?_
        obtain ⟨ca, hf⟩ := m_chkPE hf
        replace ca := z_in hM (by decide) ca
        refine z_get (k := 11) (j := 0) (C := RX11) (T := TX11) (N := 10) (fl := zf_11) (v := va_rf ((zP S25 0 x0).map (zh y))) X hw_X11_read_11 hM rfl zc_11 ca (by decide) fl_X11_read_11_0 rfl dX11_read_65 ?_
        clear ca
        obtain ⟨b26, hb9, hf⟩ := m_calPE hf
        refine z_topr hb9 ?_
        clear hb9
        refine lv_iconst (v := (0 : Int32)) hx hb dX11_read_68 (by decide) ?_
        obtain ⟨ca, hf⟩ := m_chkPE hf
        replace ca := z_in hM (by decide) ca
        obtain ⟨o27, ho, hf⟩ := m_calPE hf
        refine z_gcallVv (k := 6) (C := RX6) (T := TX6) (N := 2) (fl := zf_6) X hM rfl zc_6 ca (c_X6_keep ho) gX11_read_X6_keep rfl ⟨rfl, rfl⟩ hd_X6_keep ⟨Nat.le_of_ble_eq_true rfl, Nat.le_of_ble_eq_true rfl⟩ rfl hl.1 rfl ⟨Nat.sub_le _ _, Nat.sub_le _ _⟩ (Nat.le_of_ble_eq_true rfl) dX11_read_69 (fun H locs hM => ?_)
        clear ho
        refine lv_aload_n hx hb dX11_read_72 rfl (lv_at hl 0 rfl) ?_
        refine lv_iconst (v := (0 : Int32)) hx hb dX11_read_73 (by decide) ?_
        obtain ⟨ca, hf⟩ := m_chkPE hf
        replace ca := z_in hM (by decide) ca
        refine z_putI (k := 11) (j := 8) (C := RX11) (T := TX11) (N := 10) (fl := zf_11) (ty := .int) X hw_X11_read_11 tyX11_ok nmX11 hM rfl zc_11 ca (by decide) fl_X11_read_11_8 rfl (tyX11_ok 8 (by decide)) rfl rfl zi_11_8 (Nat.le_of_ble_eq_true rfl) dX11_read_74 (fun H locs hM => ?_)
        clear ca
        obtain ⟨S28, ev, hf⟩ := m_bndPE hf
        replace hM := z_hS hM ev
        clear ev
        refine lv_aload_n hx hb dX11_read_77 rfl (lv_at hl 0 rfl) ?_
        obtain ⟨ca, hf⟩ := m_chkPE hf
        replace ca := z_in hM (by decide) ca
        refine z_get (k := 11) (j := 7) (C := RX11) (T := TX11) (N := 10) (fl := zf_11) (v := va_rf ((zP S28 7 x0).map (zh y))) X hw_X11_read_11 hM rfl zc_11 ca (by decide) fl_X11_read_11_7 rfl dX11_read_78 ?_
        clear ca
        obtain ⟨b29, hb9, hf⟩ := m_calPE hf
        refine z_topr hb9 ?_
        clear hb9
        refine lv_iconst (v := (0 : Int32)) hx hb dX11_read_81 (by decide) ?_
        refine lv_aload_n hx hb dX11_read_82 rfl (lv_at hl 0 rfl) ?_
        obtain ⟨ca, hf⟩ := m_chkPE hf
        replace ca := z_in hM (by decide) ca
        refine z_get (k := 11) (j := 9) (C := RX11) (T := TX11) (N := 10) (fl := zf_11) (v := va_rf ((zP S28 9 x0).map (zh y))) X hw_X11_read_11 hM rfl zc_11 ca (by decide) fl_X11_read_11_9 rfl dX11_read_83 ?_
        clear ca
        obtain ⟨b30, hb9, hf⟩ := m_calPE hf
        refine z_topr hb9 ?_
        clear hb9
        obtain ⟨ca, hf⟩ := m_chkPE hf
        replace ca := z_in hM (by decide) ca
        obtain ⟨o31, ho, hf⟩ := m_calPE hf
        refine z_gcallVv (k := 1) (C := RX1) (T := TX1) (N := 8) (fl := zf_1) X hM rfl zc_1 ca (c_X1_standAt ho) gX11_read_X1_standAt rfl ⟨rfl, rfl⟩ hd_X1_standAt ⟨Nat.le_of_ble_eq_true rfl, Nat.le_of_ble_eq_true rfl⟩ rfl hl.1 rfl ⟨Nat.sub_le _ _, Nat.sub_le _ _⟩ (Nat.le_of_ble_eq_true rfl) dX11_read_86 (fun H locs hM => ?_)
        clear ho
        refine lv_iconst (v := (0 : Int32)) hx hb dX11_read_89 (by decide) ?_
        exact hret _ _ _ _ H locs _ ls hf hM rfl dX11_read_90
      · replace hf := m_ifPT hf cc1
        exact w_X11_read_41 (x0 := x0) X hret hf hCT hM (lv_sub hl [0] rfl)
def g_X11_read (x0 : Nat) (S : ZS) (mc ms : Nat) (Pw : Int32 → ZS → Prop) : Prop := g_X11_read_0 Pw x0 S mc ms
theorem c_X11_read {l : Launch} {D : va_G} {y : Nat → ClassId} {x0 : Nat} {S : ZS} {kc kt : Nat} {Pw : Int32 → ZS → Prop} (hf : g_X11_read x0 S kc kt Pw) : zWi l yX11_read wsX11_read ({ frames := 10, cells := kc, slots := kt, locals := 226 } : Room) [.ref (zh y x0)] D y S kc kt Pw :=
  z_wentI (own := RX11) (cc := cX11_read) (maxL := 1) (by decide) rfl rfl (Nat.le_of_ble_eq_true rfl) ⟨rfl, rfl⟩ (fun p e s m args below meth c A0 Q H locs ls X hret hM hl => w_X11_read_0 X hret hf ⟨Nat.le_refl _, Nat.le_refl _⟩ hM (lv_sub hl [0] rfl))
theorem hd_X11_find : yX11_find.cls = RX11 ∧ yX11_find.cls ≠ "java/lang/invoke/MethodHandle" ∧ yX11_find.cls ≠ "java/lang/invoke/VarHandle" ∧ (parseMethodDescriptor yX11_find.desc).map (fun d => d.parameters.length) = some 0 := by decide +kernel
theorem fl_X11_find_11_0 : Cond.fieldLink RX11 10 "MoveTexts" "text" "LMoveTexts$Row;" ∈ wsX11_find := by decide +kernel
theorem fl_X11_find_11_3 : Cond.fieldLink RX11 29 "MoveTexts" "signReader" "LMoveTexts$SignReader;" ∈ wsX11_find := by decide +kernel
theorem fl_X11_find_11_9 : Cond.fieldLink RX11 68 "MoveTexts" "board" "LMoveTexts$Board;" ∈ wsX11_find := by decide +kernel
theorem hw_X11_find_11 : ∀ w ∈ wsX110, w ∈ wsX11_find := by decide +kernel
def g_X11_find_0 (Pw : Int32 → ZS → Prop) (x0 : Nat) (S : ZS) (C T : Nat) : Prop :=
  m_chkQ (zK S x0 = 11) (
  m_calP (zP S 3 x0) (fun b1 =>
  m_chkQ (zK S x0 = 11) (
  m_calP (zP S 9 x0) (fun b2 =>
  m_chkQ (zK S x0 = 11) (
  m_calP (zP S 0 x0) (fun b3 =>
  m_chkQ (zK S x0 = 11) (
  m_calP (zP S 0 x0) (fun b4 =>
  m_chkQ (zK S b4 = 6) (
  m_calP (f_X6_size b4 S) (fun o5 =>
  m_chkQ (zK o5.2 b1 = 8) (
  m_gal (C) (T) (fun mc ms Pw => g_X8_matched b1 b2 b3 (0 : Int32) o5.1 o5.2 mc ms Pw) (fun r7 S8 C9 T10 =>
  Pw r7 S8))))))))))))

set_option maxRecDepth 100000 in
set_option maxHeartbeats 4000000 in
theorem w_X11_find_0 {p : Program} {l : Launch} {e : Env} {s : State} {m : MethodId} {args : Array Value} {below : List Frame} {meth : Method} {c : Code} {Q : State → Prop} {D : va_G} {y : Nat → ClassId} {A0 : Nat → Prop} {kc kt : Nat} {Pw : Int32 → ZS → Prop} (X : CallFix p m c cX11_find 1 s args wsX11_find RX11) (hret : zQi p l e ({ frames := 8, cells := kc, slots := kt, locals := 178 } : Room) s m args below meth c Q cX11_find D y A0 .int Pw) {x0 : Nat} {S : ZS} {C T : Nat} {H : Heap} {locs : List Loc} {ls : Array Slot} (hf : g_X11_find_0 Pw x0 S C T) (hCT : C ≤ kc ∧ T ≤ kt) (hM : zH D y A0 s H locs S) (hl : lv_has ls 1 [(0, .ref (zh y x0))]) : W p l e ({ frames := 8, cells := kc, slots := kt, locals := 178 } : Room) s m args below meth c H locs (kc - C) (kt - T) Q (F0 m 0 ls []) := by
  obtain ⟨hx, hb, hml, hown, hts⟩ := id X
  unfold g_X11_find_0 at hf
  refine lv_aload_n hx hb dX11_find_0 rfl (lv_at hl 0 rfl) ?_
  obtain ⟨ca, hf⟩ := m_chkPE hf
  replace ca := z_in hM (by decide) ca
  refine z_get (k := 11) (j := 3) (C := RX11) (T := TX11) (N := 10) (fl := zf_11) (v := va_rf ((zP S 3 x0).map (zh y))) X hw_X11_find_11 hM rfl zc_11 ca (by decide) fl_X11_find_11_3 rfl dX11_find_1 ?_
  clear ca
  obtain ⟨b1, hb9, hf⟩ := m_calPE hf
  refine z_topr hb9 ?_
  clear hb9
  refine lv_aload_n hx hb dX11_find_4 rfl (lv_at hl 0 rfl) ?_
  obtain ⟨ca, hf⟩ := m_chkPE hf
  replace ca := z_in hM (by decide) ca
  refine z_get (k := 11) (j := 9) (C := RX11) (T := TX11) (N := 10) (fl := zf_11) (v := va_rf ((zP S 9 x0).map (zh y))) X hw_X11_find_11 hM rfl zc_11 ca (by decide) fl_X11_find_11_9 rfl dX11_find_5 ?_
  clear ca
  obtain ⟨b2, hb9, hf⟩ := m_calPE hf
  refine z_topr hb9 ?_
  clear hb9
  refine lv_aload_n hx hb dX11_find_8 rfl (lv_at hl 0 rfl) ?_
  obtain ⟨ca, hf⟩ := m_chkPE hf
  replace ca := z_in hM (by decide) ca
  refine z_get (k := 11) (j := 0) (C := RX11) (T := TX11) (N := 10) (fl := zf_11) (v := va_rf ((zP S 0 x0).map (zh y))) X hw_X11_find_11 hM rfl zc_11 ca (by decide) fl_X11_find_11_0 rfl dX11_find_9 ?_
  clear ca
  obtain ⟨b3, hb9, hf⟩ := m_calPE hf
  refine z_topr hb9 ?_
  clear hb9
  refine lv_iconst (v := (0 : Int32)) hx hb dX11_find_12 (by decide) ?_
  refine lv_aload_n hx hb dX11_find_13 rfl (lv_at hl 0 rfl) ?_
  obtain ⟨ca, hf⟩ := m_chkPE hf
  replace ca := z_in hM (by decide) ca
  refine z_get (k := 11) (j := 0) (C := RX11) (T := TX11) (N := 10) (fl := zf_11) (v := va_rf ((zP S 0 x0).map (zh y))) X hw_X11_find_11 hM rfl zc_11 ca (by decide) fl_X11_find_11_0 rfl dX11_find_14 ?_
  clear ca
  obtain ⟨b4, hb9, hf⟩ := m_calPE hf
  refine z_topr hb9 ?_
  clear hb9
  obtain ⟨ca, hf⟩ := m_chkPE hf
  replace ca := z_in hM (by decide) ca
  obtain ⟨o5, ho, hf⟩ := m_calPE hf
  refine z_gcallVi (k := 6) (C := RX6) (T := TX6) (N := 2) (fl := zf_6) X hM rfl zc_6 ca (c_X6_size ho) gX11_find_X6_size rfl ⟨rfl, rfl⟩ hd_X6_size ⟨Nat.le_of_ble_eq_true rfl, Nat.le_of_ble_eq_true rfl⟩ rfl hl.1 rfl ⟨Nat.sub_le _ _, Nat.sub_le _ _⟩ (Nat.le_of_ble_eq_true rfl) dX11_find_17 (fun H locs hM => ?_)
  clear ho
  obtain ⟨ca, hf⟩ := m_chkPE hf
  replace ca := z_in hM (by decide) ca
  obtain ⟨mc, ms, hcm, ho⟩ := m_galE hf
  refine z_wcallVi (k := 8) (C := RX8) (T := TX8) (N := 12) (fl := zf_8) X hM rfl zc_8 ca (c_X8_matched ho) gX11_find_X8_matched rfl ⟨rfl, rfl⟩ ⟨by show kc - (C) + mc ≤ kc; omega, by show kt - (T) + ms ≤ kt; omega⟩ hd_X8_matched ⟨Nat.le_of_ble_eq_true rfl, Nat.le_of_ble_eq_true rfl⟩ rfl hl.1 rfl (Nat.le_of_ble_eq_true rfl) dX11_find_20 (fun r7 S8 H locs hf hM => ?_)
  refine z_eqCS (c2 := kc - (C - mc)) (t2 := kt - (T - ms)) (by omega) (by omega) ?_
  replace hCT : C - mc ≤ kc ∧ T - ms ≤ kt := by omega
  generalize C - mc = C9 at hf hCT ⊢
  generalize T - ms = T10 at hf hCT ⊢
  clear ho hcm
  exact hret _ _ _ _ H locs _ ls hf hM rfl dX11_find_23
def g_X11_find (x0 : Nat) (S : ZS) (mc ms : Nat) (Pw : Int32 → ZS → Prop) : Prop := g_X11_find_0 Pw x0 S mc ms
theorem c_X11_find {l : Launch} {D : va_G} {y : Nat → ClassId} {x0 : Nat} {S : ZS} {kc kt : Nat} {Pw : Int32 → ZS → Prop} (hf : g_X11_find x0 S kc kt Pw) : zWi l yX11_find wsX11_find ({ frames := 8, cells := kc, slots := kt, locals := 178 } : Room) [.ref (zh y x0)] D y S kc kt Pw :=
  z_wentI (own := RX11) (cc := cX11_find) (maxL := 1) (by decide) rfl rfl (Nat.le_of_ble_eq_true rfl) ⟨rfl, rfl⟩ (fun p e s m args below meth c A0 Q H locs ls X hret hM hl => w_X11_find_0 X hret hf ⟨Nat.le_refl _, Nat.le_refl _⟩ hM (lv_sub hl [0] rfl))
theorem hd_X11_out : yX11_out.cls = RX11 ∧ yX11_out.cls ≠ "java/lang/invoke/MethodHandle" ∧ yX11_out.cls ≠ "java/lang/invoke/VarHandle" ∧ (parseMethodDescriptor yX11_out.desc).map (fun d => d.parameters.length) = some 1 := by decide +kernel
theorem fl_X11_out_11_1 : Cond.fieldLink RX11 16 "MoveTexts" "out" "LMoveTexts$Row;" ∈ wsX11_out := by decide +kernel
theorem hw_X11_out_11 : ∀ w ∈ wsX110, w ∈ wsX11_out := by decide +kernel
def f_X11_out_0 (x0 : Nat) (x1 : Int32) (S : ZS) : Option (Int32 × ZS) :=
  m_chk (zK S x0 = 11) (
  m_cal (zP S 1 x0) (fun b1 =>
  m_chk (zK S b1 = 6) (
  m_cal (f_X6_at b1 x1 S) (fun o2 =>
  some (o2.1, o2.2)))))

set_option maxRecDepth 100000 in
set_option maxHeartbeats 4000000 in
theorem w_X11_out_0 {p : Program} {l : Launch} {e : Env} {s : State} {m : MethodId} {args : Array Value} {below : List Frame} {meth : Method} {c : Code} {Q : State → Prop} {D : va_G} {y : Nat → ClassId} {A0 : Nat → Prop} {o : Int32 × ZS} (X : CallFix p m c cX11_out 2 s args wsX11_out RX11) (hret : zRi p l e ({ frames := 1, cells := 0, slots := 0, locals := 21 } : Room) s m args below meth c Q cX11_out D y A0 .int o) {x0 : Nat} {x1 : Int32} {S : ZS} {H : Heap} {locs : List Loc} {ls : Array Slot} (hf : f_X11_out_0 x0 x1 S = some o) (hM : zH D y A0 s H locs S) (hl : lv_has ls 2 [(0, .ref (zh y x0)), (1, .int x1)]) : W p l e ({ frames := 1, cells := 0, slots := 0, locals := 21 } : Room) s m args below meth c H locs 0 0 Q (F0 m 0 ls []) := by
  obtain ⟨hx, hb, hml, hown, hts⟩ := id X
  unfold f_X11_out_0 at hf
  refine lv_aload_n hx hb dX11_out_0 rfl (lv_at hl 0 rfl) ?_
  obtain ⟨ca, hf⟩ := m_chkE hf
  replace ca := z_in hM (by decide) ca
  refine z_get (k := 11) (j := 1) (C := RX11) (T := TX11) (N := 10) (fl := zf_11) (v := va_rf ((zP S 1 x0).map (zh y))) X hw_X11_out_11 hM rfl zc_11 ca (by decide) fl_X11_out_11_1 rfl dX11_out_1 ?_
  clear ca
  obtain ⟨b1, hb9, hf⟩ := m_calE hf
  refine z_topr hb9 ?_
  clear hb9
  refine lv_iload_n hx hb dX11_out_4 rfl (lv_at hl 1 rfl) ?_
  obtain ⟨ca, hf⟩ := m_chkE hf
  replace ca := z_in hM (by decide) ca
  obtain ⟨o2, ho, hf⟩ := m_calE hf
  refine z_callVi (k := 6) (C := RX6) (T := TX6) (N := 2) (fl := zf_6) X hM rfl zc_6 ca (c_X6_at ho) gX11_out_X6_at rfl ⟨rfl, rfl⟩ hd_X6_at ⟨Nat.le_of_ble_eq_true rfl, Nat.le_of_ble_eq_true rfl⟩ rfl hl.1 rfl (Nat.le_of_ble_eq_true rfl) dX11_out_5 (fun H locs hM => ?_)
  clear ho
  cases hf
  exact hret H locs _ ls hM rfl dX11_out_8
def f_X11_out (x0 : Nat) (x1 : Int32) (S : ZS) : Option (Int32 × ZS) := f_X11_out_0 x0 x1 S
theorem c_X11_out {l : Launch} {D : va_G} {y : Nat → ClassId} {x0 : Nat} {x1 : Int32} {S : ZS} {o : Int32 × ZS} (hf : f_X11_out x0 x1 S = some o) : zMi l yX11_out wsX11_out ({ frames := 1, cells := 0, slots := 0, locals := 21 } : Room) [.ref (zh y x0), .int x1] D y S o :=
  z_entryI (own := RX11) (cc := cX11_out) (maxL := 2) (by decide) rfl rfl (Nat.le_of_ble_eq_true rfl) (fun p e s m args below meth c A0 Q H locs ls X hret hM hl => w_X11_out_0 X hret hf hM (lv_sub hl [0, 1] rfl))
theorem hd_X11_nodes : yX11_nodes.cls = RX11 ∧ yX11_nodes.cls ≠ "java/lang/invoke/MethodHandle" ∧ yX11_nodes.cls ≠ "java/lang/invoke/VarHandle" ∧ (parseMethodDescriptor yX11_nodes.desc).map (fun d => d.parameters.length) = some 0 := by decide +kernel
theorem fl_X11_nodes_11_7 : Cond.fieldLink RX11 57 "MoveTexts" "game" "LMoveTexts$Game;" ∈ wsX11_nodes := by decide +kernel
theorem fl_X11_nodes_1_3 : Cond.fieldLink RX11 158 "MoveTexts$Game" "greatest" "I" ∈ wsX11_nodes := by decide +kernel
theorem hw_X11_nodes_1 : ∀ w ∈ wsX10, w ∈ wsX11_nodes := by decide +kernel
theorem hw_X11_nodes_11 : ∀ w ∈ wsX110, w ∈ wsX11_nodes := by decide +kernel
def f_X11_nodes_0 (x0 : Nat) (S : ZS) : Option (Int32 × ZS) :=
  m_chk (zK S x0 = 11) (
  m_cal (zP S 7 x0) (fun b1 =>
  m_chk (zK S b1 = 1) (
  some ((zI S 3 b1), S))))

set_option maxRecDepth 100000 in
set_option maxHeartbeats 4000000 in
theorem w_X11_nodes_0 {p : Program} {l : Launch} {e : Env} {s : State} {m : MethodId} {args : Array Value} {below : List Frame} {meth : Method} {c : Code} {Q : State → Prop} {D : va_G} {y : Nat → ClassId} {A0 : Nat → Prop} {o : Int32 × ZS} (X : CallFix p m c cX11_nodes 1 s args wsX11_nodes RX11) (hret : zRi p l e ({ frames := 0, cells := 0, slots := 0, locals := 0 } : Room) s m args below meth c Q cX11_nodes D y A0 .int o) {x0 : Nat} {S : ZS} {H : Heap} {locs : List Loc} {ls : Array Slot} (hf : f_X11_nodes_0 x0 S = some o) (hM : zH D y A0 s H locs S) (hl : lv_has ls 1 [(0, .ref (zh y x0))]) : W p l e ({ frames := 0, cells := 0, slots := 0, locals := 0 } : Room) s m args below meth c H locs 0 0 Q (F0 m 0 ls []) := by
  obtain ⟨hx, hb, hml, hown, hts⟩ := id X
  unfold f_X11_nodes_0 at hf
  refine lv_aload_n hx hb dX11_nodes_0 rfl (lv_at hl 0 rfl) ?_
  obtain ⟨ca, hf⟩ := m_chkE hf
  replace ca := z_in hM (by decide) ca
  refine z_get (k := 11) (j := 7) (C := RX11) (T := TX11) (N := 10) (fl := zf_11) (v := va_rf ((zP S 7 x0).map (zh y))) X hw_X11_nodes_11 hM rfl zc_11 ca (by decide) fl_X11_nodes_11_7 rfl dX11_nodes_1 ?_
  clear ca
  obtain ⟨b1, hb9, hf⟩ := m_calE hf
  refine z_topr hb9 ?_
  clear hb9
  obtain ⟨ca, hf⟩ := m_chkE hf
  replace ca := z_in hM (by decide) ca
  refine z_get (k := 1) (j := 3) (C := RX1) (T := TX1) (N := 8) (fl := zf_1) (v := .int (zI S 3 b1)) X hw_X11_nodes_1 hM rfl zc_1 ca (by decide) fl_X11_nodes_1_3 rfl dX11_nodes_4 ?_
  clear ca
  cases hf
  exact hret H locs _ ls hM rfl dX11_nodes_7
def f_X11_nodes (x0 : Nat) (S : ZS) : Option (Int32 × ZS) := f_X11_nodes_0 x0 S
theorem c_X11_nodes {l : Launch} {D : va_G} {y : Nat → ClassId} {x0 : Nat} {S : ZS} {o : Int32 × ZS} (hf : f_X11_nodes x0 S = some o) : zMi l yX11_nodes wsX11_nodes ({ frames := 0, cells := 0, slots := 0, locals := 0 } : Room) [.ref (zh y x0)] D y S o :=
  z_entryI (own := RX11) (cc := cX11_nodes) (maxL := 1) (by decide) rfl rfl (Nat.le_of_ble_eq_true rfl) (fun p e s m args below meth c A0 Q H locs ls X hret hM hl => w_X11_nodes_0 X hret hf hM (lv_sub hl [0] rfl))
theorem hd_X11_here : yX11_here.cls = RX11 ∧ yX11_here.cls ≠ "java/lang/invoke/MethodHandle" ∧ yX11_here.cls ≠ "java/lang/invoke/VarHandle" ∧ (parseMethodDescriptor yX11_here.desc).map (fun d => d.parameters.length) = some 0 := by decide +kernel
theorem fl_X11_here_11_8 : Cond.fieldLink RX11 61 "MoveTexts" "here" "I" ∈ wsX11_here := by decide +kernel
theorem hw_X11_here_11 : ∀ w ∈ wsX110, w ∈ wsX11_here := by decide +kernel
def f_X11_here_0 (x0 : Nat) (S : ZS) : Option (Int32 × ZS) :=
  m_chk (zK S x0 = 11) (
  some ((zI S 8 x0), S))

set_option maxRecDepth 100000 in
set_option maxHeartbeats 4000000 in
theorem w_X11_here_0 {p : Program} {l : Launch} {e : Env} {s : State} {m : MethodId} {args : Array Value} {below : List Frame} {meth : Method} {c : Code} {Q : State → Prop} {D : va_G} {y : Nat → ClassId} {A0 : Nat → Prop} {o : Int32 × ZS} (X : CallFix p m c cX11_here 1 s args wsX11_here RX11) (hret : zRi p l e ({ frames := 0, cells := 0, slots := 0, locals := 0 } : Room) s m args below meth c Q cX11_here D y A0 .int o) {x0 : Nat} {S : ZS} {H : Heap} {locs : List Loc} {ls : Array Slot} (hf : f_X11_here_0 x0 S = some o) (hM : zH D y A0 s H locs S) (hl : lv_has ls 1 [(0, .ref (zh y x0))]) : W p l e ({ frames := 0, cells := 0, slots := 0, locals := 0 } : Room) s m args below meth c H locs 0 0 Q (F0 m 0 ls []) := by
  obtain ⟨hx, hb, hml, hown, hts⟩ := id X
  unfold f_X11_here_0 at hf
  refine lv_aload_n hx hb dX11_here_0 rfl (lv_at hl 0 rfl) ?_
  obtain ⟨ca, hf⟩ := m_chkE hf
  replace ca := z_in hM (by decide) ca
  refine z_get (k := 11) (j := 8) (C := RX11) (T := TX11) (N := 10) (fl := zf_11) (v := .int (zI S 8 x0)) X hw_X11_here_11 hM rfl zc_11 ca (by decide) fl_X11_here_11_8 rfl dX11_here_1 ?_
  clear ca
  cases hf
  exact hret H locs _ ls hM rfl dX11_here_4
def f_X11_here (x0 : Nat) (S : ZS) : Option (Int32 × ZS) := f_X11_here_0 x0 S
theorem c_X11_here {l : Launch} {D : va_G} {y : Nat → ClassId} {x0 : Nat} {S : ZS} {o : Int32 × ZS} (hf : f_X11_here x0 S = some o) : zMi l yX11_here wsX11_here ({ frames := 0, cells := 0, slots := 0, locals := 0 } : Room) [.ref (zh y x0)] D y S o :=
  z_entryI (own := RX11) (cc := cX11_here) (maxL := 1) (by decide) rfl rfl (Nat.le_of_ble_eq_true rfl) (fun p e s m args below meth c A0 Q H locs ls X hret hM hl => w_X11_here_0 X hret hf hM (lv_sub hl [0] rfl))
theorem hd_X11_move : yX11_move.cls = RX11 ∧ yX11_move.cls ≠ "java/lang/invoke/MethodHandle" ∧ yX11_move.cls ≠ "java/lang/invoke/VarHandle" ∧ (parseMethodDescriptor yX11_move.desc).map (fun d => d.parameters.length) = some 1 := by decide +kernel
theorem fl_X11_move_11_2 : Cond.fieldLink RX11 22 "MoveTexts" "rules" "LMoveTexts$Rules;" ∈ wsX11_move := by decide +kernel
theorem fl_X11_move_11_9 : Cond.fieldLink RX11 68 "MoveTexts" "board" "LMoveTexts$Board;" ∈ wsX11_move := by decide +kernel
theorem hw_X11_move_11 : ∀ w ∈ wsX110, w ∈ wsX11_move := by decide +kernel
def f_X11_move_0 (x0 : Nat) (x1 : Int32) (S : ZS) : Option (Int32 × ZS) :=
  m_chk (zK S x0 = 11) (
  m_cal (zP S 2 x0) (fun b1 =>
  m_chk (zK S x0 = 11) (
  m_cal (zP S 9 x0) (fun b2 =>
  m_chk (zK S b1 = 7) (
  m_cal (f_X7_legalMove b1 b2 x1 S) (fun o3 =>
  some (o3.1, o3.2)))))))

set_option maxRecDepth 100000 in
set_option maxHeartbeats 4000000 in
theorem w_X11_move_0 {p : Program} {l : Launch} {e : Env} {s : State} {m : MethodId} {args : Array Value} {below : List Frame} {meth : Method} {c : Code} {Q : State → Prop} {D : va_G} {y : Nat → ClassId} {A0 : Nat → Prop} {o : Int32 × ZS} (X : CallFix p m c cX11_move 2 s args wsX11_move RX11) (hret : zRi p l e ({ frames := 4, cells := 0, slots := 0, locals := 133 } : Room) s m args below meth c Q cX11_move D y A0 .int o) {x0 : Nat} {x1 : Int32} {S : ZS} {H : Heap} {locs : List Loc} {ls : Array Slot} (hf : f_X11_move_0 x0 x1 S = some o) (hM : zH D y A0 s H locs S) (hl : lv_has ls 2 [(0, .ref (zh y x0)), (1, .int x1)]) : W p l e ({ frames := 4, cells := 0, slots := 0, locals := 133 } : Room) s m args below meth c H locs 0 0 Q (F0 m 0 ls []) := by
  obtain ⟨hx, hb, hml, hown, hts⟩ := id X
  unfold f_X11_move_0 at hf
  refine lv_aload_n hx hb dX11_move_0 rfl (lv_at hl 0 rfl) ?_
  obtain ⟨ca, hf⟩ := m_chkE hf
  replace ca := z_in hM (by decide) ca
  refine z_get (k := 11) (j := 2) (C := RX11) (T := TX11) (N := 10) (fl := zf_11) (v := va_rf ((zP S 2 x0).map (zh y))) X hw_X11_move_11 hM rfl zc_11 ca (by decide) fl_X11_move_11_2 rfl dX11_move_1 ?_
  clear ca
  obtain ⟨b1, hb9, hf⟩ := m_calE hf
  refine z_topr hb9 ?_
  clear hb9
  refine lv_aload_n hx hb dX11_move_4 rfl (lv_at hl 0 rfl) ?_
  obtain ⟨ca, hf⟩ := m_chkE hf
  replace ca := z_in hM (by decide) ca
  refine z_get (k := 11) (j := 9) (C := RX11) (T := TX11) (N := 10) (fl := zf_11) (v := va_rf ((zP S 9 x0).map (zh y))) X hw_X11_move_11 hM rfl zc_11 ca (by decide) fl_X11_move_11_9 rfl dX11_move_5 ?_
  clear ca
  obtain ⟨b2, hb9, hf⟩ := m_calE hf
  refine z_topr hb9 ?_
  clear hb9
  refine lv_iload_n hx hb dX11_move_8 rfl (lv_at hl 1 rfl) ?_
  obtain ⟨ca, hf⟩ := m_chkE hf
  replace ca := z_in hM (by decide) ca
  obtain ⟨o3, ho, hf⟩ := m_calE hf
  refine z_callVi (k := 7) (C := RX7) (T := TX7) (N := 2) (fl := zf_7) X hM rfl zc_7 ca (c_X7_legalMove ho) gX11_move_X7_legalMove rfl ⟨rfl, rfl⟩ hd_X7_legalMove ⟨Nat.le_of_ble_eq_true rfl, Nat.le_of_ble_eq_true rfl⟩ rfl hl.1 rfl (Nat.le_of_ble_eq_true rfl) dX11_move_9 (fun H locs hM => ?_)
  clear ho
  cases hf
  exact hret H locs _ ls hM rfl dX11_move_12
def f_X11_move (x0 : Nat) (x1 : Int32) (S : ZS) : Option (Int32 × ZS) := f_X11_move_0 x0 x1 S
theorem c_X11_move {l : Launch} {D : va_G} {y : Nat → ClassId} {x0 : Nat} {x1 : Int32} {S : ZS} {o : Int32 × ZS} (hf : f_X11_move x0 x1 S = some o) : zMi l yX11_move wsX11_move ({ frames := 4, cells := 0, slots := 0, locals := 133 } : Room) [.ref (zh y x0), .int x1] D y S o :=
  z_entryI (own := RX11) (cc := cX11_move) (maxL := 2) (by decide) rfl rfl (Nat.le_of_ble_eq_true rfl) (fun p e s m args below meth c A0 Q H locs ls X hret hM hl => w_X11_move_0 X hret hf hM (lv_sub hl [0, 1] rfl))
theorem hd_X11_result : yX11_result.cls = RX11 ∧ yX11_result.cls ≠ "java/lang/invoke/MethodHandle" ∧ yX11_result.cls ≠ "java/lang/invoke/VarHandle" ∧ (parseMethodDescriptor yX11_result.desc).map (fun d => d.parameters.length) = some 0 := by decide +kernel
theorem fl_X11_result_11_7 : Cond.fieldLink RX11 57 "MoveTexts" "game" "LMoveTexts$Game;" ∈ wsX11_result := by decide +kernel
theorem fl_X11_result_1_6 : Cond.fieldLink RX11 257 "MoveTexts$Game" "result" "I" ∈ wsX11_result := by decide +kernel
theorem hw_X11_result_1 : ∀ w ∈ wsX10, w ∈ wsX11_result := by decide +kernel
theorem hw_X11_result_11 : ∀ w ∈ wsX110, w ∈ wsX11_result := by decide +kernel
def f_X11_result_0 (x0 : Nat) (S : ZS) : Option (Int32 × ZS) :=
  m_chk (zK S x0 = 11) (
  m_cal (zP S 7 x0) (fun b1 =>
  m_chk (zK S b1 = 1) (
  some ((zI S 6 b1), S))))

set_option maxRecDepth 100000 in
set_option maxHeartbeats 4000000 in
theorem w_X11_result_0 {p : Program} {l : Launch} {e : Env} {s : State} {m : MethodId} {args : Array Value} {below : List Frame} {meth : Method} {c : Code} {Q : State → Prop} {D : va_G} {y : Nat → ClassId} {A0 : Nat → Prop} {o : Int32 × ZS} (X : CallFix p m c cX11_result 1 s args wsX11_result RX11) (hret : zRi p l e ({ frames := 0, cells := 0, slots := 0, locals := 0 } : Room) s m args below meth c Q cX11_result D y A0 .int o) {x0 : Nat} {S : ZS} {H : Heap} {locs : List Loc} {ls : Array Slot} (hf : f_X11_result_0 x0 S = some o) (hM : zH D y A0 s H locs S) (hl : lv_has ls 1 [(0, .ref (zh y x0))]) : W p l e ({ frames := 0, cells := 0, slots := 0, locals := 0 } : Room) s m args below meth c H locs 0 0 Q (F0 m 0 ls []) := by
  obtain ⟨hx, hb, hml, hown, hts⟩ := id X
  unfold f_X11_result_0 at hf
  refine lv_aload_n hx hb dX11_result_0 rfl (lv_at hl 0 rfl) ?_
  obtain ⟨ca, hf⟩ := m_chkE hf
  replace ca := z_in hM (by decide) ca
  refine z_get (k := 11) (j := 7) (C := RX11) (T := TX11) (N := 10) (fl := zf_11) (v := va_rf ((zP S 7 x0).map (zh y))) X hw_X11_result_11 hM rfl zc_11 ca (by decide) fl_X11_result_11_7 rfl dX11_result_1 ?_
  clear ca
  obtain ⟨b1, hb9, hf⟩ := m_calE hf
  refine z_topr hb9 ?_
  clear hb9
  obtain ⟨ca, hf⟩ := m_chkE hf
  replace ca := z_in hM (by decide) ca
  refine z_get (k := 1) (j := 6) (C := RX1) (T := TX1) (N := 8) (fl := zf_1) (v := .int (zI S 6 b1)) X hw_X11_result_1 hM rfl zc_1 ca (by decide) fl_X11_result_1_6 rfl dX11_result_4 ?_
  clear ca
  cases hf
  exact hret H locs _ ls hM rfl dX11_result_7
def f_X11_result (x0 : Nat) (S : ZS) : Option (Int32 × ZS) := f_X11_result_0 x0 S
theorem c_X11_result {l : Launch} {D : va_G} {y : Nat → ClassId} {x0 : Nat} {S : ZS} {o : Int32 × ZS} (hf : f_X11_result x0 S = some o) : zMi l yX11_result wsX11_result ({ frames := 0, cells := 0, slots := 0, locals := 0 } : Room) [.ref (zh y x0)] D y S o :=
  z_entryI (own := RX11) (cc := cX11_result) (maxL := 1) (by decide) rfl rfl (Nat.le_of_ble_eq_true rfl) (fun p e s m args below meth c A0 Q H locs ls X hret hM hl => w_X11_result_0 X hret hf hM (lv_sub hl [0] rfl))
theorem hd_X11_tags : yX11_tags.cls = RX11 ∧ yX11_tags.cls ≠ "java/lang/invoke/MethodHandle" ∧ yX11_tags.cls ≠ "java/lang/invoke/VarHandle" ∧ (parseMethodDescriptor yX11_tags.desc).map (fun d => d.parameters.length) = some 0 := by decide +kernel
theorem fl_X11_tags_11_7 : Cond.fieldLink RX11 57 "MoveTexts" "game" "LMoveTexts$Game;" ∈ wsX11_tags := by decide +kernel
theorem fl_X11_tags_1_5 : Cond.fieldLink RX11 260 "MoveTexts$Game" "tagCount" "I" ∈ wsX11_tags := by decide +kernel
theorem hw_X11_tags_1 : ∀ w ∈ wsX10, w ∈ wsX11_tags := by decide +kernel
theorem hw_X11_tags_11 : ∀ w ∈ wsX110, w ∈ wsX11_tags := by decide +kernel
def f_X11_tags_0 (x0 : Nat) (S : ZS) : Option (Int32 × ZS) :=
  m_chk (zK S x0 = 11) (
  m_cal (zP S 7 x0) (fun b1 =>
  m_chk (zK S b1 = 1) (
  some ((zI S 5 b1), S))))

set_option maxRecDepth 100000 in
set_option maxHeartbeats 4000000 in
theorem w_X11_tags_0 {p : Program} {l : Launch} {e : Env} {s : State} {m : MethodId} {args : Array Value} {below : List Frame} {meth : Method} {c : Code} {Q : State → Prop} {D : va_G} {y : Nat → ClassId} {A0 : Nat → Prop} {o : Int32 × ZS} (X : CallFix p m c cX11_tags 1 s args wsX11_tags RX11) (hret : zRi p l e ({ frames := 0, cells := 0, slots := 0, locals := 0 } : Room) s m args below meth c Q cX11_tags D y A0 .int o) {x0 : Nat} {S : ZS} {H : Heap} {locs : List Loc} {ls : Array Slot} (hf : f_X11_tags_0 x0 S = some o) (hM : zH D y A0 s H locs S) (hl : lv_has ls 1 [(0, .ref (zh y x0))]) : W p l e ({ frames := 0, cells := 0, slots := 0, locals := 0 } : Room) s m args below meth c H locs 0 0 Q (F0 m 0 ls []) := by
  obtain ⟨hx, hb, hml, hown, hts⟩ := id X
  unfold f_X11_tags_0 at hf
  refine lv_aload_n hx hb dX11_tags_0 rfl (lv_at hl 0 rfl) ?_
  obtain ⟨ca, hf⟩ := m_chkE hf
  replace ca := z_in hM (by decide) ca
  refine z_get (k := 11) (j := 7) (C := RX11) (T := TX11) (N := 10) (fl := zf_11) (v := va_rf ((zP S 7 x0).map (zh y))) X hw_X11_tags_11 hM rfl zc_11 ca (by decide) fl_X11_tags_11_7 rfl dX11_tags_1 ?_
  clear ca
  obtain ⟨b1, hb9, hf⟩ := m_calE hf
  refine z_topr hb9 ?_
  clear hb9
  obtain ⟨ca, hf⟩ := m_chkE hf
  replace ca := z_in hM (by decide) ca
  refine z_get (k := 1) (j := 5) (C := RX1) (T := TX1) (N := 8) (fl := zf_1) (v := .int (zI S 5 b1)) X hw_X11_tags_1 hM rfl zc_1 ca (by decide) fl_X11_tags_1_5 rfl dX11_tags_4 ?_
  clear ca
  cases hf
  exact hret H locs _ ls hM rfl dX11_tags_7
def f_X11_tags (x0 : Nat) (S : ZS) : Option (Int32 × ZS) := f_X11_tags_0 x0 S
theorem c_X11_tags {l : Launch} {D : va_G} {y : Nat → ClassId} {x0 : Nat} {S : ZS} {o : Int32 × ZS} (hf : f_X11_tags x0 S = some o) : zMi l yX11_tags wsX11_tags ({ frames := 0, cells := 0, slots := 0, locals := 0 } : Room) [.ref (zh y x0)] D y S o :=
  z_entryI (own := RX11) (cc := cX11_tags) (maxL := 1) (by decide) rfl rfl (Nat.le_of_ble_eq_true rfl) (fun p e s m args below meth c A0 Q H locs ls X hret hM hl => w_X11_tags_0 X hret hf hM (lv_sub hl [0] rfl))
