theorem hd_X1_goesOn : yX1_goesOn.cls = RX1 ∧ yX1_goesOn.cls ≠ "java/lang/invoke/MethodHandle" ∧ yX1_goesOn.cls ≠ "java/lang/invoke/VarHandle" ∧ (parseMethodDescriptor yX1_goesOn.desc).map (fun d => d.parameters.length) = some 1 := by decide +kernel
theorem fl_X1_goesOn_4_0 : Cond.fieldLink RX1 69 "MoveTexts$Node" "parent" "I" ∈ wsX1_goesOn := by decide +kernel
theorem fl_X1_goesOn_4_2 : Cond.fieldLink RX1 60 "MoveTexts$Node" "first" "I" ∈ wsX1_goesOn := by decide +kernel
theorem hw_X1_goesOn_4 : ∀ w ∈ wsX40, w ∈ wsX1_goesOn := by decide +kernel
def f_X1_goesOn_24 (t0 : Int32) (S : ZS) : Option (Int32 × ZS) :=
  m_chk (vp_nar .boolean t0 = t0) (some (t0, S))

set_option maxRecDepth 100000 in
set_option maxHeartbeats 4000000 in
theorem w_X1_goesOn_24 {p : Program} {l : Launch} {e : Env} {s : State} {m : MethodId} {args : Array Value} {below : List Frame} {meth : Method} {c : Code} {Q : State → Prop} {D : va_G} {y : Nat → ClassId} {A0 : Nat → Prop} {o : Int32 × ZS} (X : CallFix p m c cX1_goesOn 2 s args wsX1_goesOn RX1) (hret : zRi p l e ({ frames := 1, cells := 0, slots := 0, locals := 22 } : Room) s m args below meth c Q cX1_goesOn D y A0 .boolean o) {t0 : Int32} {S : ZS} {H : Heap} {locs : List Loc} {ls : Array Slot} (hf : f_X1_goesOn_24 t0 S = some o) (hM : zH D y A0 s H locs S) (hl : lv_has ls 2 []) : W p l e ({ frames := 1, cells := 0, slots := 0, locals := 22 } : Room) s m args below meth c H locs 0 0 Q (F0 m 24 ls [.int t0]) := by
  obtain ⟨hx, hb, hml, hown, hts⟩ := id X
  unfold f_X1_goesOn_24 at hf
  obtain ⟨cd, hf⟩ := m_chkE hf
  cases hf
  exact hret H locs _ ls hM (m_nb cd) dX1_goesOn_24
def f_X1_goesOn_0 (x0 : Nat) (x1 : Int32) (S : ZS) : Option (Int32 × ZS) :=
  m_chk (zK S x0 = 1) (
  m_cal (f_X1_at x0 x1 S) (fun o1 =>
  m_chk (zK o1.2 o1.1 = 4) (
  m_chk (zK o1.2 x0 = 1) (
  m_cal (f_X1_at x0 (zI o1.2 0 o1.1) o1.2) (fun o2 =>
  m_chk (zK o2.2 o2.1 = 4) (
  m_if ((zI o2.2 2 o2.1) = x1) (
  f_X1_goesOn_24 (1 : Int32) o2.2
  ) (
  f_X1_goesOn_24 (0 : Int32) o2.2
  )))))))

set_option maxRecDepth 100000 in
set_option maxHeartbeats 4000000 in
theorem w_X1_goesOn_0 {p : Program} {l : Launch} {e : Env} {s : State} {m : MethodId} {args : Array Value} {below : List Frame} {meth : Method} {c : Code} {Q : State → Prop} {D : va_G} {y : Nat → ClassId} {A0 : Nat → Prop} {o : Int32 × ZS} (X : CallFix p m c cX1_goesOn 2 s args wsX1_goesOn RX1) (hret : zRi p l e ({ frames := 1, cells := 0, slots := 0, locals := 22 } : Room) s m args below meth c Q cX1_goesOn D y A0 .boolean o) {x0 : Nat} {x1 : Int32} {S : ZS} {H : Heap} {locs : List Loc} {ls : Array Slot} (hf : f_X1_goesOn_0 x0 x1 S = some o) (hM : zH D y A0 s H locs S) (hl : lv_has ls 2 [(0, .ref (zh y x0)), (1, .int x1)]) : W p l e ({ frames := 1, cells := 0, slots := 0, locals := 22 } : Room) s m args below meth c H locs 0 0 Q (F0 m 0 ls []) := by
  obtain ⟨hx, hb, hml, hown, hts⟩ := id X
  unfold f_X1_goesOn_0 at hf
  refine lv_aload_n hx hb dX1_goesOn_0 rfl (lv_at hl 0 rfl) ?_
  refine lv_aload_n hx hb dX1_goesOn_1 rfl (lv_at hl 0 rfl) ?_
  refine lv_iload_n hx hb dX1_goesOn_2 rfl (lv_at hl 1 rfl) ?_
  obtain ⟨ca, hf⟩ := m_chkE hf
  replace ca := z_in hM (by decide) ca
  obtain ⟨o1, ho, hf⟩ := m_calE hf
  refine z_callVr (k := 1) (C := RX1) (T := TX1) (N := 8) (fl := zf_1) X hM rfl zc_1 ca (c_X1_at ho) gX1_goesOn_X1_at rfl ⟨rfl, rfl⟩ hd_X1_at ⟨Nat.le_of_ble_eq_true rfl, Nat.le_of_ble_eq_true rfl⟩ rfl hl.1 rfl (Nat.le_of_ble_eq_true rfl) dX1_goesOn_3 (fun H locs hM => ?_)
  clear ho
  obtain ⟨ca, hf⟩ := m_chkE hf
  replace ca := z_in hM (by decide) ca
  refine z_get (k := 4) (j := 0) (C := RX4) (T := TX4) (N := 7) (fl := zf_4) (v := .int (zI o1.2 0 o1.1)) X hw_X1_goesOn_4 hM rfl zc_4 ca (by decide) fl_X1_goesOn_4_0 rfl dX1_goesOn_6 ?_
  clear ca
  obtain ⟨ca, hf⟩ := m_chkE hf
  replace ca := z_in hM (by decide) ca
  obtain ⟨o2, ho, hf⟩ := m_calE hf
  refine z_callVr (k := 1) (C := RX1) (T := TX1) (N := 8) (fl := zf_1) X hM rfl zc_1 ca (c_X1_at ho) gX1_goesOn_X1_at rfl ⟨rfl, rfl⟩ hd_X1_at ⟨Nat.le_of_ble_eq_true rfl, Nat.le_of_ble_eq_true rfl⟩ rfl hl.1 rfl (Nat.le_of_ble_eq_true rfl) dX1_goesOn_9 (fun H locs hM => ?_)
  clear ho
  obtain ⟨ca, hf⟩ := m_chkE hf
  replace ca := z_in hM (by decide) ca
  refine z_get (k := 4) (j := 2) (C := RX4) (T := TX4) (N := 7) (fl := zf_4) (v := .int (zI o2.2 2 o2.1)) X hw_X1_goesOn_4 hM rfl zc_4 ca (by decide) fl_X1_goesOn_4_2 rfl dX1_goesOn_12 ?_
  clear ca
  refine lv_iload_n hx hb dX1_goesOn_15 rfl (lv_at hl 1 rfl) ?_
  refine lv_icmp_ne (tgt := 23) hx hb dX1_goesOn_16 (by decide) (fun cc1 => ?_) (fun cc1 => ?_)
  · replace hf := m_ifF hf cc1
    refine lv_iconst (v := (0 : Int32)) hx hb dX1_goesOn_23 (by decide) ?_
    exact w_X1_goesOn_24 (t0 := (0 : Int32)) X hret hf hM (lv_sub hl [] rfl)
  · replace hf := m_ifT hf cc1
    refine lv_iconst (v := (1 : Int32)) hx hb dX1_goesOn_19 (by decide) ?_
    refine lv_goto (tgt := 24) hx hb dX1_goesOn_20 (by decide) ?_
    exact w_X1_goesOn_24 (t0 := (1 : Int32)) X hret hf hM (lv_sub hl [] rfl)
def f_X1_goesOn (x0 : Nat) (x1 : Int32) (S : ZS) : Option (Int32 × ZS) := f_X1_goesOn_0 x0 x1 S
theorem c_X1_goesOn {l : Launch} {D : va_G} {y : Nat → ClassId} {x0 : Nat} {x1 : Int32} {S : ZS} {o : Int32 × ZS} (hf : f_X1_goesOn x0 x1 S = some o) : zMi l yX1_goesOn wsX1_goesOn ({ frames := 1, cells := 0, slots := 0, locals := 22 } : Room) [.ref (zh y x0), .int x1] D y S o :=
  z_entryI (own := RX1) (cc := cX1_goesOn) (maxL := 2) (by decide) rfl rfl (Nat.le_of_ble_eq_true rfl) (fun p e s m args below meth c A0 Q H locs ls X hret hM hl => w_X1_goesOn_0 X hret hf hM (lv_sub hl [0, 1] rfl))
theorem hd_X1_deepOfNext : yX1_deepOfNext.cls = RX1 ∧ yX1_deepOfNext.cls ≠ "java/lang/invoke/MethodHandle" ∧ yX1_deepOfNext.cls ≠ "java/lang/invoke/VarHandle" ∧ (parseMethodDescriptor yX1_deepOfNext.desc).map (fun d => d.parameters.length) = some 1 := by decide +kernel
theorem fl_X1_deepOfNext_4_0 : Cond.fieldLink RX1 69 "MoveTexts$Node" "parent" "I" ∈ wsX1_deepOfNext := by decide +kernel
theorem fl_X1_deepOfNext_4_2 : Cond.fieldLink RX1 60 "MoveTexts$Node" "first" "I" ∈ wsX1_deepOfNext := by decide +kernel
theorem hw_X1_deepOfNext_4 : ∀ w ∈ wsX40, w ∈ wsX1_deepOfNext := by decide +kernel
def f_X1_deepOfNext_66 (x2 : Int32) (S : ZS) : Option (Int32 × ZS) :=
  some (x2, S)

set_option maxRecDepth 100000 in
set_option maxHeartbeats 4000000 in
theorem w_X1_deepOfNext_66 {p : Program} {l : Launch} {e : Env} {s : State} {m : MethodId} {args : Array Value} {below : List Frame} {meth : Method} {c : Code} {Q : State → Prop} {D : va_G} {y : Nat → ClassId} {A0 : Nat → Prop} {o : Int32 × ZS} (X : CallFix p m c cX1_deepOfNext 5 s args wsX1_deepOfNext RX1) (hret : zRi p l e ({ frames := 2, cells := 0, slots := 0, locals := 43 } : Room) s m args below meth c Q cX1_deepOfNext D y A0 .int o) {x2 : Int32} {S : ZS} {H : Heap} {locs : List Loc} {ls : Array Slot} (hf : f_X1_deepOfNext_66 x2 S = some o) (hM : zH D y A0 s H locs S) (hl : lv_has ls 5 [(2, .int x2)]) : W p l e ({ frames := 2, cells := 0, slots := 0, locals := 43 } : Room) s m args below meth c H locs 0 0 Q (F0 m 66 ls []) := by
  obtain ⟨hx, hb, hml, hown, hts⟩ := id X
  unfold f_X1_deepOfNext_66 at hf
  refine lv_iload_n hx hb dX1_deepOfNext_66 rfl (lv_at hl 0 rfl) ?_
  cases hf
  exact hret H locs _ ls hM rfl dX1_deepOfNext_67
def f_X1_deepOfNext_49 (self23 : Nat → Int32 → Int32 → Int32 → ZS → Option (Int32 × ZS)) (x0 : Nat) (x3 : Int32) (x4 : Int32) (t0 : Int32) (t1 : Int32) (S : ZS) : Option (Int32 × ZS) :=
  m_bnd (t1 + t0) (fun v1 =>
  m_chk (zK S x0 = 1) (
  m_cal (f_X1_at x0 x3 S) (fun o2 =>
  m_chk (zK o2.2 o2.1 = 4) (
  m_bnd (x4 + (1 : Int32)) (fun v3 =>
  self23 x0 v1 (zI o2.2 0 o2.1) v3 o2.2)))))

set_option maxRecDepth 100000 in
set_option maxHeartbeats 4000000 in
theorem w_X1_deepOfNext_49 {p : Program} {l : Launch} {e : Env} {s : State} {m : MethodId} {args : Array Value} {below : List Frame} {meth : Method} {c : Code} {Q : State → Prop} {D : va_G} {y : Nat → ClassId} {A0 : Nat → Prop} {o : Int32 × ZS} (X : CallFix p m c cX1_deepOfNext 5 s args wsX1_deepOfNext RX1) (hret : zRi p l e ({ frames := 2, cells := 0, slots := 0, locals := 43 } : Room) s m args below meth c Q cX1_deepOfNext D y A0 .int o) {self23 : Nat → Int32 → Int32 → Int32 → ZS → Option (Int32 × ZS)} (hself23 : ∀ (x0 : Nat) (x2 : Int32) (x3 : Int32) (x4 : Int32) (S : ZS) (H : Heap) (locs : List Loc) (ls : Array Slot), self23 x0 x2 x3 x4 S = some o → zH D y A0 s H locs S → lv_has ls 5 [(0, .ref (zh y x0)), (2, .int x2), (3, .int x3), (4, .int x4)] → W p l e ({ frames := 2, cells := 0, slots := 0, locals := 43 } : Room) s m args below meth c H locs 0 0 Q (F0 m 23 ls [])) {x0 : Nat} {x3 : Int32} {x4 : Int32} {t0 : Int32} {t1 : Int32} {S : ZS} {H : Heap} {locs : List Loc} {ls : Array Slot} (hf : f_X1_deepOfNext_49 self23 x0 x3 x4 t0 t1 S = some o) (hM : zH D y A0 s H locs S) (hl : lv_has ls 5 [(0, .ref (zh y x0)), (3, .int x3), (4, .int x4)]) : W p l e ({ frames := 2, cells := 0, slots := 0, locals := 43 } : Room) s m args below meth c H locs 0 0 Q (F0 m 49 ls [.int t0, .int t1]) := by
  obtain ⟨hx, hb, hml, hown, hts⟩ := id X
  unfold f_X1_deepOfNext_49 at hf
  refine lv_iadd hx hb dX1_deepOfNext_49 ?_
  obtain ⟨v1, ev, hf⟩ := m_bndE hf
  refine m_top ev ?_
  clear ev
  refine lv_istore_n (lv' := [(2, .int v1), (0, .ref (zh y x0)), (3, .int x3), (4, .int x4)]) hx hb dX1_deepOfNext_50 rfl hl (by decide) rfl (fun ls hl => ?_)
  refine lv_aload_n hx hb dX1_deepOfNext_51 rfl (lv_at hl 1 rfl) ?_
  refine lv_iload_n hx hb dX1_deepOfNext_52 rfl (lv_at hl 2 rfl) ?_
  obtain ⟨ca, hf⟩ := m_chkE hf
  replace ca := z_in hM (by decide) ca
  obtain ⟨o2, ho, hf⟩ := m_calE hf
  refine z_callVr (k := 1) (C := RX1) (T := TX1) (N := 8) (fl := zf_1) X hM rfl zc_1 ca (c_X1_at ho) gX1_deepOfNext_X1_at rfl ⟨rfl, rfl⟩ hd_X1_at ⟨Nat.le_of_ble_eq_true rfl, Nat.le_of_ble_eq_true rfl⟩ rfl hl.1 rfl (Nat.le_of_ble_eq_true rfl) dX1_deepOfNext_53 (fun H locs hM => ?_)
  clear ho
  obtain ⟨ca, hf⟩ := m_chkE hf
  replace ca := z_in hM (by decide) ca
  refine z_get (k := 4) (j := 0) (C := RX4) (T := TX4) (N := 7) (fl := zf_4) (v := .int (zI o2.2 0 o2.1)) X hw_X1_deepOfNext_4 hM rfl zc_4 ca (by decide) fl_X1_deepOfNext_4_0 rfl dX1_deepOfNext_56 ?_
  clear ca
  refine lv_istore_n (lv' := [(3, .int (zI o2.2 0 o2.1)), (2, .int v1), (0, .ref (zh y x0)), (4, .int x4)]) hx hb dX1_deepOfNext_59 rfl hl (by decide) rfl (fun ls hl => ?_)
  obtain ⟨v3, ev, hf⟩ := m_bndE hf
  refine lv_iinc (v := v3) (lv' := [(4, .int v3), (3, .int (zI o2.2 0 o2.1)), (2, .int v1), (0, .ref (zh y x0))]) hx hb dX1_deepOfNext_60 hl (k := 3) rfl (by rw [ev]; rfl) (by decide) rfl (fun ls hl => ?_)
  clear ev
  refine lv_goto (tgt := 23) hx hb dX1_deepOfNext_63 (by decide) ?_
  exact hself23 x0 v1 (zI o2.2 0 o2.1) v3 _ _ _ _ hf hM (lv_sub hl [3, 2, 1, 0] rfl)
def f_X1_deepOfNext_23s (self23 : Nat → Int32 → Int32 → Int32 → ZS → Option (Int32 × ZS)) (x0 : Nat) (x2 : Int32) (x3 : Int32) (x4 : Int32) (S : ZS) : Option (Int32 × ZS) :=
  m_if ((300 : Int32) ≤ x4) (
  f_X1_deepOfNext_66 x2 S
  ) (
  m_if (x3 ≤ 0) (
  f_X1_deepOfNext_66 x2 S
  ) (
  m_chk (zK S x0 = 1) (
  m_cal (f_X1_goesOn x0 x3 S) (fun o1 =>
  m_if (o1.1 = 0) (
  f_X1_deepOfNext_49 self23 x0 x3 x4 (1 : Int32) x2 o1.2
  ) (
  f_X1_deepOfNext_49 self23 x0 x3 x4 (0 : Int32) x2 o1.2
  )))
  )
  )

set_option maxRecDepth 100000 in
set_option maxHeartbeats 4000000 in
theorem ws_X1_deepOfNext_23 {p : Program} {l : Launch} {e : Env} {s : State} {m : MethodId} {args : Array Value} {below : List Frame} {meth : Method} {c : Code} {Q : State → Prop} {D : va_G} {y : Nat → ClassId} {A0 : Nat → Prop} {o : Int32 × ZS} (X : CallFix p m c cX1_deepOfNext 5 s args wsX1_deepOfNext RX1) (hret : zRi p l e ({ frames := 2, cells := 0, slots := 0, locals := 43 } : Room) s m args below meth c Q cX1_deepOfNext D y A0 .int o) {self23 : Nat → Int32 → Int32 → Int32 → ZS → Option (Int32 × ZS)} (hself23 : ∀ (x0 : Nat) (x2 : Int32) (x3 : Int32) (x4 : Int32) (S : ZS) (H : Heap) (locs : List Loc) (ls : Array Slot), self23 x0 x2 x3 x4 S = some o → zH D y A0 s H locs S → lv_has ls 5 [(0, .ref (zh y x0)), (2, .int x2), (3, .int x3), (4, .int x4)] → W p l e ({ frames := 2, cells := 0, slots := 0, locals := 43 } : Room) s m args below meth c H locs 0 0 Q (F0 m 23 ls [])) {x0 : Nat} {x2 : Int32} {x3 : Int32} {x4 : Int32} {S : ZS} {H : Heap} {locs : List Loc} {ls : Array Slot} (hf : f_X1_deepOfNext_23s self23 x0 x2 x3 x4 S = some o) (hM : zH D y A0 s H locs S) (hl : lv_has ls 5 [(0, .ref (zh y x0)), (2, .int x2), (3, .int x3), (4, .int x4)]) : W p l e ({ frames := 2, cells := 0, slots := 0, locals := 43 } : Room) s m args below meth c H locs 0 0 Q (F0 m 23 ls []) := by
  obtain ⟨hx, hb, hml, hown, hts⟩ := id X
  unfold f_X1_deepOfNext_23s at hf
  refine lv_iload hx hb dX1_deepOfNext_23 (lv_at hl 3 rfl) ?_
  refine lv_sipush (v := (300 : Int32)) hx hb dX1_deepOfNext_25 (by decide) ?_
  refine lv_icmp_ge (tgt := 66) hx hb dX1_deepOfNext_28 (by decide) (fun cc1 => ?_) (fun cc1 => ?_)
  · replace hf := m_ifT hf cc1
    exact w_X1_deepOfNext_66 (x2 := x2) X hret hf hM (lv_sub hl [1] rfl)
  · replace hf := m_ifF hf cc1
    refine lv_iload_n hx hb dX1_deepOfNext_31 rfl (lv_at hl 2 rfl) ?_
    refine lv_if_le (tgt := 66) hx hb dX1_deepOfNext_32 (by decide) (fun cc1 => ?_) (fun cc1 => ?_)
    · replace hf := m_ifT hf cc1
      exact w_X1_deepOfNext_66 (x2 := x2) X hret hf hM (lv_sub hl [1] rfl)
    · replace hf := m_ifF hf cc1
      refine lv_iload_n hx hb dX1_deepOfNext_35 rfl (lv_at hl 1 rfl) ?_
      refine lv_aload_n hx hb dX1_deepOfNext_36 rfl (lv_at hl 0 rfl) ?_
      refine lv_iload_n hx hb dX1_deepOfNext_37 rfl (lv_at hl 2 rfl) ?_
      obtain ⟨ca, hf⟩ := m_chkE hf
      replace ca := z_in hM (by decide) ca
      obtain ⟨o1, ho, hf⟩ := m_calE hf
      refine z_callVi (k := 1) (C := RX1) (T := TX1) (N := 8) (fl := zf_1) X hM rfl zc_1 ca (c_X1_goesOn ho) gX1_deepOfNext_X1_goesOn rfl ⟨rfl, rfl⟩ hd_X1_goesOn ⟨Nat.le_of_ble_eq_true rfl, Nat.le_of_ble_eq_true rfl⟩ rfl hl.1 rfl (Nat.le_of_ble_eq_true rfl) dX1_deepOfNext_38 (fun H locs hM => ?_)
      clear ho
      refine lv_if_eq (tgt := 48) hx hb dX1_deepOfNext_41 (by decide) (fun cc1 => ?_) (fun cc1 => ?_)
      · replace hf := m_ifT hf cc1
        refine lv_iconst (v := (1 : Int32)) hx hb dX1_deepOfNext_48 (by decide) ?_
        exact w_X1_deepOfNext_49 (x0 := x0) (x3 := x3) (x4 := x4) (t0 := (1 : Int32)) (t1 := x2) X hret hself23 hf hM (lv_sub hl [0, 2, 3] rfl)
      · replace hf := m_ifF hf cc1
        refine lv_iconst (v := (0 : Int32)) hx hb dX1_deepOfNext_44 (by decide) ?_
        refine lv_goto (tgt := 49) hx hb dX1_deepOfNext_45 (by decide) ?_
        exact w_X1_deepOfNext_49 (x0 := x0) (x3 := x3) (x4 := x4) (t0 := (0 : Int32)) (t1 := x2) X hret hself23 hf hM (lv_sub hl [0, 2, 3] rfl)
def f_X1_deepOfNext_23 : Nat → Nat → Int32 → Int32 → Int32 → ZS → Option (Int32 × ZS)
  | 0 => fun _ _ _ _ _ => none
  | n + 1 => f_X1_deepOfNext_23s (f_X1_deepOfNext_23 n)
theorem w_X1_deepOfNext_23 {p : Program} {l : Launch} {e : Env} {s : State} {m : MethodId} {args : Array Value} {below : List Frame} {meth : Method} {c : Code} {Q : State → Prop} {D : va_G} {y : Nat → ClassId} {A0 : Nat → Prop} {o : Int32 × ZS} (X : CallFix p m c cX1_deepOfNext 5 s args wsX1_deepOfNext RX1) (hret : zRi p l e ({ frames := 2, cells := 0, slots := 0, locals := 43 } : Room) s m args below meth c Q cX1_deepOfNext D y A0 .int o) (n : Nat) : ∀ (x0 : Nat) (x2 : Int32) (x3 : Int32) (x4 : Int32) (S : ZS) (H : Heap) (locs : List Loc) (ls : Array Slot), f_X1_deepOfNext_23 n x0 x2 x3 x4 S = some o → zH D y A0 s H locs S → lv_has ls 5 [(0, .ref (zh y x0)), (2, .int x2), (3, .int x3), (4, .int x4)] → W p l e ({ frames := 2, cells := 0, slots := 0, locals := 43 } : Room) s m args below meth c H locs 0 0 Q (F0 m 23 ls []) := by
  induction n with
  | zero => intro x0 x2 x3 x4 S H locs ls hf; cases hf
  | succ n ih => intro x0 x2 x3 x4 S H locs ls hf hM hl; exact ws_X1_deepOfNext_23 X hret (self23 := f_X1_deepOfNext_23 n) ih hf hM hl
def f_X1_deepOfNext_17 (x0 : Nat) (x1 : Int32) (t0 : Int32) (S : ZS) : Option (Int32 × ZS) :=
  f_X1_deepOfNext_23 mFuel x0 t0 x1 (0 : Int32) S

set_option maxRecDepth 100000 in
set_option maxHeartbeats 4000000 in
theorem w_X1_deepOfNext_17 {p : Program} {l : Launch} {e : Env} {s : State} {m : MethodId} {args : Array Value} {below : List Frame} {meth : Method} {c : Code} {Q : State → Prop} {D : va_G} {y : Nat → ClassId} {A0 : Nat → Prop} {o : Int32 × ZS} (X : CallFix p m c cX1_deepOfNext 5 s args wsX1_deepOfNext RX1) (hret : zRi p l e ({ frames := 2, cells := 0, slots := 0, locals := 43 } : Room) s m args below meth c Q cX1_deepOfNext D y A0 .int o) {x0 : Nat} {x1 : Int32} {t0 : Int32} {S : ZS} {H : Heap} {locs : List Loc} {ls : Array Slot} (hf : f_X1_deepOfNext_17 x0 x1 t0 S = some o) (hM : zH D y A0 s H locs S) (hl : lv_has ls 5 [(0, .ref (zh y x0)), (1, .int x1)]) : W p l e ({ frames := 2, cells := 0, slots := 0, locals := 43 } : Room) s m args below meth c H locs 0 0 Q (F0 m 17 ls [.int t0]) := by
  obtain ⟨hx, hb, hml, hown, hts⟩ := id X
  unfold f_X1_deepOfNext_17 at hf
  refine lv_istore_n (lv' := [(2, .int t0), (0, .ref (zh y x0)), (1, .int x1)]) hx hb dX1_deepOfNext_17 rfl hl (by decide) rfl (fun ls hl => ?_)
  refine lv_iload_n hx hb dX1_deepOfNext_18 rfl (lv_at hl 2 rfl) ?_
  refine lv_istore_n (lv' := [(3, .int x1), (2, .int t0), (0, .ref (zh y x0)), (1, .int x1)]) hx hb dX1_deepOfNext_19 rfl hl (by decide) rfl (fun ls hl => ?_)
  refine lv_iconst (v := (0 : Int32)) hx hb dX1_deepOfNext_20 (by decide) ?_
  refine lv_istore (lv' := [(4, .int (0 : Int32)), (3, .int x1), (2, .int t0), (0, .ref (zh y x0)), (1, .int x1)]) hx hb dX1_deepOfNext_21 hl (by decide) rfl (fun ls hl => ?_)
  exact w_X1_deepOfNext_23 X hret _ x0 t0 x1 (0 : Int32) _ _ _ _ hf hM (lv_sub hl [3, 2, 1, 0] rfl)
def f_X1_deepOfNext_0 (x0 : Nat) (x1 : Int32) (S : ZS) : Option (Int32 × ZS) :=
  m_chk (zK S x0 = 1) (
  m_cal (f_X1_at x0 x1 S) (fun o1 =>
  m_chk (zK o1.2 o1.1 = 4) (
  m_if ((zI o1.2 2 o1.1) = (-1 : Int32)) (
  f_X1_deepOfNext_17 x0 x1 (0 : Int32) o1.2
  ) (
  f_X1_deepOfNext_17 x0 x1 (1 : Int32) o1.2
  ))))

set_option maxRecDepth 100000 in
set_option maxHeartbeats 4000000 in
theorem w_X1_deepOfNext_0 {p : Program} {l : Launch} {e : Env} {s : State} {m : MethodId} {args : Array Value} {below : List Frame} {meth : Method} {c : Code} {Q : State → Prop} {D : va_G} {y : Nat → ClassId} {A0 : Nat → Prop} {o : Int32 × ZS} (X : CallFix p m c cX1_deepOfNext 5 s args wsX1_deepOfNext RX1) (hret : zRi p l e ({ frames := 2, cells := 0, slots := 0, locals := 43 } : Room) s m args below meth c Q cX1_deepOfNext D y A0 .int o) {x0 : Nat} {x1 : Int32} {S : ZS} {H : Heap} {locs : List Loc} {ls : Array Slot} (hf : f_X1_deepOfNext_0 x0 x1 S = some o) (hM : zH D y A0 s H locs S) (hl : lv_has ls 5 [(0, .ref (zh y x0)), (1, .int x1)]) : W p l e ({ frames := 2, cells := 0, slots := 0, locals := 43 } : Room) s m args below meth c H locs 0 0 Q (F0 m 0 ls []) := by
  obtain ⟨hx, hb, hml, hown, hts⟩ := id X
  unfold f_X1_deepOfNext_0 at hf
  refine lv_aload_n hx hb dX1_deepOfNext_0 rfl (lv_at hl 0 rfl) ?_
  refine lv_iload_n hx hb dX1_deepOfNext_1 rfl (lv_at hl 1 rfl) ?_
  obtain ⟨ca, hf⟩ := m_chkE hf
  replace ca := z_in hM (by decide) ca
  obtain ⟨o1, ho, hf⟩ := m_calE hf
  refine z_callVr (k := 1) (C := RX1) (T := TX1) (N := 8) (fl := zf_1) X hM rfl zc_1 ca (c_X1_at ho) gX1_deepOfNext_X1_at rfl ⟨rfl, rfl⟩ hd_X1_at ⟨Nat.le_of_ble_eq_true rfl, Nat.le_of_ble_eq_true rfl⟩ rfl hl.1 rfl (Nat.le_of_ble_eq_true rfl) dX1_deepOfNext_2 (fun H locs hM => ?_)
  clear ho
  obtain ⟨ca, hf⟩ := m_chkE hf
  replace ca := z_in hM (by decide) ca
  refine z_get (k := 4) (j := 2) (C := RX4) (T := TX4) (N := 7) (fl := zf_4) (v := .int (zI o1.2 2 o1.1)) X hw_X1_deepOfNext_4 hM rfl zc_4 ca (by decide) fl_X1_deepOfNext_4_2 rfl dX1_deepOfNext_5 ?_
  clear ca
  refine lv_iconst (v := (-1 : Int32)) hx hb dX1_deepOfNext_8 (by decide) ?_
  refine lv_icmp_ne (tgt := 16) hx hb dX1_deepOfNext_9 (by decide) (fun cc1 => ?_) (fun cc1 => ?_)
  · replace hf := m_ifF hf cc1
    refine lv_iconst (v := (1 : Int32)) hx hb dX1_deepOfNext_16 (by decide) ?_
    exact w_X1_deepOfNext_17 (x0 := x0) (x1 := x1) (t0 := (1 : Int32)) X hret hf hM (lv_sub hl [0, 1] rfl)
  · replace hf := m_ifT hf cc1
    refine lv_iconst (v := (0 : Int32)) hx hb dX1_deepOfNext_12 (by decide) ?_
    refine lv_goto (tgt := 17) hx hb dX1_deepOfNext_13 (by decide) ?_
    exact w_X1_deepOfNext_17 (x0 := x0) (x1 := x1) (t0 := (0 : Int32)) X hret hf hM (lv_sub hl [0, 1] rfl)
def f_X1_deepOfNext (x0 : Nat) (x1 : Int32) (S : ZS) : Option (Int32 × ZS) := f_X1_deepOfNext_0 x0 x1 S
theorem c_X1_deepOfNext {l : Launch} {D : va_G} {y : Nat → ClassId} {x0 : Nat} {x1 : Int32} {S : ZS} {o : Int32 × ZS} (hf : f_X1_deepOfNext x0 x1 S = some o) : zMi l yX1_deepOfNext wsX1_deepOfNext ({ frames := 2, cells := 0, slots := 0, locals := 43 } : Room) [.ref (zh y x0), .int x1] D y S o :=
  z_entryI (own := RX1) (cc := cX1_deepOfNext) (maxL := 5) (by decide) rfl rfl (Nat.le_of_ble_eq_true rfl) (fun p e s m args below meth c A0 Q H locs ls X hret hM hl => w_X1_deepOfNext_0 X hret hf hM (lv_sub hl [0, 1] rfl))
theorem hd_X1_mayLead : yX1_mayLead.cls = RX1 ∧ yX1_mayLead.cls ≠ "java/lang/invoke/MethodHandle" ∧ yX1_mayLead.cls ≠ "java/lang/invoke/VarHandle" ∧ (parseMethodDescriptor yX1_mayLead.desc).map (fun d => d.parameters.length) = some 1 := by decide +kernel
theorem fl_X1_mayLead_1_3 : Cond.fieldLink RX1 29 "MoveTexts$Game" "greatest" "I" ∈ wsX1_mayLead := by decide +kernel
theorem fl_X1_mayLead_1_7 : Cond.fieldLink RX1 45 "MoveTexts$Game" "scratch" "[I" ∈ wsX1_mayLead := by decide +kernel
theorem fl_X1_mayLead_4_0 : Cond.fieldLink RX1 69 "MoveTexts$Node" "parent" "I" ∈ wsX1_mayLead := by decide +kernel
theorem fl_X1_mayLead_4_2 : Cond.fieldLink RX1 60 "MoveTexts$Node" "first" "I" ∈ wsX1_mayLead := by decide +kernel
theorem hw_X1_mayLead_1 : ∀ w ∈ wsX10, w ∈ wsX1_mayLead := by decide +kernel
theorem hw_X1_mayLead_4 : ∀ w ∈ wsX40, w ∈ wsX1_mayLead := by decide +kernel
def f_X1_mayLead_89 (self11 : Nat → Int32 → Nat → Int32 → ZS → Option (Int32 × ZS)) (x0 : Nat) (x1 : Int32) (x2 : Nat) (x3 : Int32) (t0 : Int32) (t1 : Int32) (t2 : Int32) (t3 : Nat) (S : ZS) : Option (Int32 × ZS) :=
  m_bnd (t1 + t0) (fun v1 =>
  m_chk (zK S t3 = 14) (
  m_chk (¬ (t2 < 0 ∨ zN S t3 ≤ (t2).toNatClampNeg)) (
  m_bnd (zsA S t3 (t2).toNatClampNeg v1) (fun S2 =>
  m_chk (zK S2 x2 = 14) (
  m_chk (¬ (x3 < 0 ∨ zN S2 x2 ≤ (x3).toNatClampNeg)) (
  m_bnd (zA S2 x2 (x3).toNatClampNeg) (fun v3 =>
  m_if (v3 ≤ (6 : Int32)) (
  m_bnd (x3 + (1 : Int32)) (fun v4 =>
  self11 x0 x1 x2 v4 S2)
  ) (
  m_chk (vp_nar .boolean (0 : Int32) = (0 : Int32)) (some ((0 : Int32), S2))
  ))))))))

set_option maxRecDepth 100000 in
set_option maxHeartbeats 4000000 in
theorem w_X1_mayLead_89 {p : Program} {l : Launch} {e : Env} {s : State} {m : MethodId} {args : Array Value} {below : List Frame} {meth : Method} {c : Code} {Q : State → Prop} {D : va_G} {y : Nat → ClassId} {A0 : Nat → Prop} {o : Int32 × ZS} (X : CallFix p m c cX1_mayLead 6 s args wsX1_mayLead RX1) (hret : zRi p l e ({ frames := 1, cells := 0, slots := 0, locals := 22 } : Room) s m args below meth c Q cX1_mayLead D y A0 .boolean o) {self11 : Nat → Int32 → Nat → Int32 → ZS → Option (Int32 × ZS)} (hself11 : ∀ (x0 : Nat) (x1 : Int32) (x2 : Nat) (x3 : Int32) (S : ZS) (H : Heap) (locs : List Loc) (ls : Array Slot), self11 x0 x1 x2 x3 S = some o → zH D y A0 s H locs S → lv_has ls 6 [(0, .ref (zh y x0)), (1, .int x1), (2, .ref (zh y x2)), (3, .int x3)] → W p l e ({ frames := 1, cells := 0, slots := 0, locals := 22 } : Room) s m args below meth c H locs 0 0 Q (F0 m 11 ls [])) {x0 : Nat} {x1 : Int32} {x2 : Nat} {x3 : Int32} {t0 : Int32} {t1 : Int32} {t2 : Int32} {t3 : Nat} {S : ZS} {H : Heap} {locs : List Loc} {ls : Array Slot} (hf : f_X1_mayLead_89 self11 x0 x1 x2 x3 t0 t1 t2 t3 S = some o) (hM : zH D y A0 s H locs S) (hl : lv_has ls 6 [(0, .ref (zh y x0)), (1, .int x1), (2, .ref (zh y x2)), (3, .int x3)]) : W p l e ({ frames := 1, cells := 0, slots := 0, locals := 22 } : Room) s m args below meth c H locs 0 0 Q (F0 m 89 ls [.int t0, .int t1, .int t2, .ref (zh y t3)]) := by
  obtain ⟨hx, hb, hml, hown, hts⟩ := id X
  unfold f_X1_mayLead_89 at hf
  refine lv_iadd hx hb dX1_mayLead_89 ?_
  obtain ⟨v1, ev, hf⟩ := m_bndE hf
  refine m_top ev ?_
  clear ev
  obtain ⟨ca, hf⟩ := m_chkE hf
  replace ca := z_in hM (by decide) ca
  obtain ⟨cd, hf⟩ := m_chkE hf
  refine z_iast X hM ca cd dX1_mayLead_90 (fun H locs hM => ?_)
  clear ca cd
  obtain ⟨S2, ev, hf⟩ := m_bndE hf
  replace hM := z_hS hM ev
  clear ev
  refine lv_aload_n hx hb dX1_mayLead_91 rfl (lv_at hl 2 rfl) ?_
  refine lv_iload_n hx hb dX1_mayLead_92 rfl (lv_at hl 3 rfl) ?_
  obtain ⟨ca, hf⟩ := m_chkE hf
  replace ca := z_in hM (by decide) ca
  obtain ⟨cd, hf⟩ := m_chkE hf
  refine z_iald X hM ca cd dX1_mayLead_93 ?_
  clear ca cd
  obtain ⟨v3, ev, hf⟩ := m_bndE hf
  refine m_top ev ?_
  clear ev
  refine lv_bipush (v := (6 : Int32)) hx hb dX1_mayLead_94 (by decide) ?_
  refine lv_icmp_le (tgt := 101) hx hb dX1_mayLead_96 (by decide) (fun cc1 => ?_) (fun cc1 => ?_)
  · replace hf := m_ifT hf cc1
    obtain ⟨v4, ev, hf⟩ := m_bndE hf
    refine lv_iinc (v := v4) (lv' := [(3, .int v4), (0, .ref (zh y x0)), (1, .int x1), (2, .ref (zh y x2))]) hx hb dX1_mayLead_101 hl (k := 3) rfl (by rw [ev]; rfl) (by decide) rfl (fun ls hl => ?_)
    clear ev
    refine lv_goto (tgt := 11) hx hb dX1_mayLead_104 (by decide) ?_
    exact hself11 x0 x1 x2 v4 _ _ _ _ hf hM (lv_sub hl [1, 2, 3, 0] rfl)
  · replace hf := m_ifF hf cc1
    refine lv_iconst (v := (0 : Int32)) hx hb dX1_mayLead_99 (by decide) ?_
    obtain ⟨cd, hf⟩ := m_chkE hf
    cases hf
    exact hret H locs _ ls hM (m_nb cd) dX1_mayLead_100
def f_X1_mayLead_78 (self11 : Nat → Int32 → Nat → Int32 → ZS → Option (Int32 × ZS)) (x0 : Nat) (x1 : Int32) (x2 : Nat) (x3 : Int32) (x5 : Int32) (t0 : Int32) (t1 : Int32) (t2 : Nat) (S : ZS) : Option (Int32 × ZS) :=
  m_if (x3 = x5) (
  f_X1_mayLead_89 self11 x0 x1 x2 x3 (0 : Int32) t0 t1 t2 S
  ) (
  f_X1_mayLead_89 self11 x0 x1 x2 x3 (1 : Int32) t0 t1 t2 S
  )

set_option maxRecDepth 100000 in
set_option maxHeartbeats 4000000 in
theorem w_X1_mayLead_78 {p : Program} {l : Launch} {e : Env} {s : State} {m : MethodId} {args : Array Value} {below : List Frame} {meth : Method} {c : Code} {Q : State → Prop} {D : va_G} {y : Nat → ClassId} {A0 : Nat → Prop} {o : Int32 × ZS} (X : CallFix p m c cX1_mayLead 6 s args wsX1_mayLead RX1) (hret : zRi p l e ({ frames := 1, cells := 0, slots := 0, locals := 22 } : Room) s m args below meth c Q cX1_mayLead D y A0 .boolean o) {self11 : Nat → Int32 → Nat → Int32 → ZS → Option (Int32 × ZS)} (hself11 : ∀ (x0 : Nat) (x1 : Int32) (x2 : Nat) (x3 : Int32) (S : ZS) (H : Heap) (locs : List Loc) (ls : Array Slot), self11 x0 x1 x2 x3 S = some o → zH D y A0 s H locs S → lv_has ls 6 [(0, .ref (zh y x0)), (1, .int x1), (2, .ref (zh y x2)), (3, .int x3)] → W p l e ({ frames := 1, cells := 0, slots := 0, locals := 22 } : Room) s m args below meth c H locs 0 0 Q (F0 m 11 ls [])) {x0 : Nat} {x1 : Int32} {x2 : Nat} {x3 : Int32} {x5 : Int32} {t0 : Int32} {t1 : Int32} {t2 : Nat} {S : ZS} {H : Heap} {locs : List Loc} {ls : Array Slot} (hf : f_X1_mayLead_78 self11 x0 x1 x2 x3 x5 t0 t1 t2 S = some o) (hM : zH D y A0 s H locs S) (hl : lv_has ls 6 [(0, .ref (zh y x0)), (1, .int x1), (2, .ref (zh y x2)), (3, .int x3), (5, .int x5)]) : W p l e ({ frames := 1, cells := 0, slots := 0, locals := 22 } : Room) s m args below meth c H locs 0 0 Q (F0 m 78 ls [.int t0, .int t1, .ref (zh y t2)]) := by
  obtain ⟨hx, hb, hml, hown, hts⟩ := id X
  unfold f_X1_mayLead_78 at hf
  refine lv_iload_n hx hb dX1_mayLead_78 rfl (lv_at hl 3 rfl) ?_
  refine lv_iload hx hb dX1_mayLead_79 (lv_at hl 4 rfl) ?_
  refine lv_icmp_ne (tgt := 88) hx hb dX1_mayLead_81 (by decide) (fun cc1 => ?_) (fun cc1 => ?_)
  · replace hf := m_ifF hf cc1
    refine lv_iconst (v := (1 : Int32)) hx hb dX1_mayLead_88 (by decide) ?_
    exact w_X1_mayLead_89 (x0 := x0) (x1 := x1) (x2 := x2) (x3 := x3) (t0 := (1 : Int32)) (t1 := t0) (t2 := t1) (t3 := t2) X hret hself11 hf hM (lv_sub hl [0, 1, 2, 3] rfl)
  · replace hf := m_ifT hf cc1
    refine lv_iconst (v := (0 : Int32)) hx hb dX1_mayLead_84 (by decide) ?_
    refine lv_goto (tgt := 89) hx hb dX1_mayLead_85 (by decide) ?_
    exact w_X1_mayLead_89 (x0 := x0) (x1 := x1) (x2 := x2) (x3 := x3) (t0 := (0 : Int32)) (t1 := t0) (t2 := t1) (t3 := t2) X hret hself11 hf hM (lv_sub hl [0, 1, 2, 3] rfl)
def f_X1_mayLead_77 (self11 : Nat → Int32 → Nat → Int32 → ZS → Option (Int32 × ZS)) (x0 : Nat) (x1 : Int32) (x2 : Nat) (x3 : Int32) (x5 : Int32) (t0 : Int32) (t1 : Nat) (S : ZS) : Option (Int32 × ZS) :=
  f_X1_mayLead_78 self11 x0 x1 x2 x3 x5 (0 : Int32) t0 t1 S

set_option maxRecDepth 100000 in
set_option maxHeartbeats 4000000 in
theorem w_X1_mayLead_77 {p : Program} {l : Launch} {e : Env} {s : State} {m : MethodId} {args : Array Value} {below : List Frame} {meth : Method} {c : Code} {Q : State → Prop} {D : va_G} {y : Nat → ClassId} {A0 : Nat → Prop} {o : Int32 × ZS} (X : CallFix p m c cX1_mayLead 6 s args wsX1_mayLead RX1) (hret : zRi p l e ({ frames := 1, cells := 0, slots := 0, locals := 22 } : Room) s m args below meth c Q cX1_mayLead D y A0 .boolean o) {self11 : Nat → Int32 → Nat → Int32 → ZS → Option (Int32 × ZS)} (hself11 : ∀ (x0 : Nat) (x1 : Int32) (x2 : Nat) (x3 : Int32) (S : ZS) (H : Heap) (locs : List Loc) (ls : Array Slot), self11 x0 x1 x2 x3 S = some o → zH D y A0 s H locs S → lv_has ls 6 [(0, .ref (zh y x0)), (1, .int x1), (2, .ref (zh y x2)), (3, .int x3)] → W p l e ({ frames := 1, cells := 0, slots := 0, locals := 22 } : Room) s m args below meth c H locs 0 0 Q (F0 m 11 ls [])) {x0 : Nat} {x1 : Int32} {x2 : Nat} {x3 : Int32} {x5 : Int32} {t0 : Int32} {t1 : Nat} {S : ZS} {H : Heap} {locs : List Loc} {ls : Array Slot} (hf : f_X1_mayLead_77 self11 x0 x1 x2 x3 x5 t0 t1 S = some o) (hM : zH D y A0 s H locs S) (hl : lv_has ls 6 [(0, .ref (zh y x0)), (1, .int x1), (2, .ref (zh y x2)), (3, .int x3), (5, .int x5)]) : W p l e ({ frames := 1, cells := 0, slots := 0, locals := 22 } : Room) s m args below meth c H locs 0 0 Q (F0 m 77 ls [.int t0, .ref (zh y t1)]) := by
  obtain ⟨hx, hb, hml, hown, hts⟩ := id X
  unfold f_X1_mayLead_77 at hf
  refine lv_iconst (v := (0 : Int32)) hx hb dX1_mayLead_77 (by decide) ?_
  exact w_X1_mayLead_78 (x0 := x0) (x1 := x1) (x2 := x2) (x3 := x3) (x5 := x5) (t0 := (0 : Int32)) (t1 := t0) (t2 := t1) X hret hself11 hf hM (lv_sub hl [0, 1, 2, 3, 4] rfl)
def f_X1_mayLead_55 (self11 : Nat → Int32 → Nat → Int32 → ZS → Option (Int32 × ZS)) (x0 : Nat) (x1 : Int32) (x2 : Nat) (x3 : Int32) (x4 : Int32) (t0 : Int32) (S : ZS) : Option (Int32 × ZS) :=
  m_if (x4 < 0) (
  f_X1_mayLead_77 self11 x0 x1 x2 x3 t0 x3 x2 S
  ) (
  m_if (x3 ≤ x4) (
  f_X1_mayLead_77 self11 x0 x1 x2 x3 t0 x3 x2 S
  ) (
  m_chk (zK S x2 = 14) (
  m_chk (¬ (x4 < 0 ∨ zN S x2 ≤ (x4).toNatClampNeg)) (
  m_bnd (zA S x2 (x4).toNatClampNeg) (fun v1 =>
  f_X1_mayLead_78 self11 x0 x1 x2 x3 t0 v1 x3 x2 S)))
  )
  )

set_option maxRecDepth 100000 in
set_option maxHeartbeats 4000000 in
theorem w_X1_mayLead_55 {p : Program} {l : Launch} {e : Env} {s : State} {m : MethodId} {args : Array Value} {below : List Frame} {meth : Method} {c : Code} {Q : State → Prop} {D : va_G} {y : Nat → ClassId} {A0 : Nat → Prop} {o : Int32 × ZS} (X : CallFix p m c cX1_mayLead 6 s args wsX1_mayLead RX1) (hret : zRi p l e ({ frames := 1, cells := 0, slots := 0, locals := 22 } : Room) s m args below meth c Q cX1_mayLead D y A0 .boolean o) {self11 : Nat → Int32 → Nat → Int32 → ZS → Option (Int32 × ZS)} (hself11 : ∀ (x0 : Nat) (x1 : Int32) (x2 : Nat) (x3 : Int32) (S : ZS) (H : Heap) (locs : List Loc) (ls : Array Slot), self11 x0 x1 x2 x3 S = some o → zH D y A0 s H locs S → lv_has ls 6 [(0, .ref (zh y x0)), (1, .int x1), (2, .ref (zh y x2)), (3, .int x3)] → W p l e ({ frames := 1, cells := 0, slots := 0, locals := 22 } : Room) s m args below meth c H locs 0 0 Q (F0 m 11 ls [])) {x0 : Nat} {x1 : Int32} {x2 : Nat} {x3 : Int32} {x4 : Int32} {t0 : Int32} {S : ZS} {H : Heap} {locs : List Loc} {ls : Array Slot} (hf : f_X1_mayLead_55 self11 x0 x1 x2 x3 x4 t0 S = some o) (hM : zH D y A0 s H locs S) (hl : lv_has ls 6 [(0, .ref (zh y x0)), (1, .int x1), (2, .ref (zh y x2)), (3, .int x3), (4, .int x4)]) : W p l e ({ frames := 1, cells := 0, slots := 0, locals := 22 } : Room) s m args below meth c H locs 0 0 Q (F0 m 55 ls [.int t0]) := by
  obtain ⟨hx, hb, hml, hown, hts⟩ := id X
  unfold f_X1_mayLead_55 at hf
  refine lv_istore (lv' := [(5, .int t0), (0, .ref (zh y x0)), (1, .int x1), (2, .ref (zh y x2)), (3, .int x3), (4, .int x4)]) hx hb dX1_mayLead_55 hl (by decide) rfl (fun ls hl => ?_)
  refine lv_aload_n hx hb dX1_mayLead_57 rfl (lv_at hl 3 rfl) ?_
  refine lv_iload_n hx hb dX1_mayLead_58 rfl (lv_at hl 4 rfl) ?_
  refine lv_iload hx hb dX1_mayLead_59 (lv_at hl 5 rfl) ?_
  refine lv_if_lt (tgt := 77) hx hb dX1_mayLead_61 (by decide) (fun cc1 => ?_) (fun cc1 => ?_)
  · replace hf := m_ifT hf cc1
    exact w_X1_mayLead_77 (x0 := x0) (x1 := x1) (x2 := x2) (x3 := x3) (x5 := t0) (t0 := x3) (t1 := x2) X hret hself11 hf hM (lv_sub hl [1, 2, 3, 4, 0] rfl)
  · replace hf := m_ifF hf cc1
    refine lv_iload hx hb dX1_mayLead_64 (lv_at hl 5 rfl) ?_
    refine lv_iload_n hx hb dX1_mayLead_66 rfl (lv_at hl 4 rfl) ?_
    refine lv_icmp_ge (tgt := 77) hx hb dX1_mayLead_67 (by decide) (fun cc1 => ?_) (fun cc1 => ?_)
    · replace hf := m_ifT hf cc1
      exact w_X1_mayLead_77 (x0 := x0) (x1 := x1) (x2 := x2) (x3 := x3) (x5 := t0) (t0 := x3) (t1 := x2) X hret hself11 hf hM (lv_sub hl [1, 2, 3, 4, 0] rfl)
    · replace hf := m_ifF hf cc1
      refine lv_aload_n hx hb dX1_mayLead_70 rfl (lv_at hl 3 rfl) ?_
      refine lv_iload hx hb dX1_mayLead_71 (lv_at hl 5 rfl) ?_
      obtain ⟨ca, hf⟩ := m_chkE hf
      replace ca := z_in hM (by decide) ca
      obtain ⟨cd, hf⟩ := m_chkE hf
      refine z_iald X hM ca cd dX1_mayLead_73 ?_
      clear ca cd
      obtain ⟨v1, ev, hf⟩ := m_bndE hf
      refine m_top ev ?_
      clear ev
      refine lv_goto (tgt := 78) hx hb dX1_mayLead_74 (by decide) ?_
      exact w_X1_mayLead_78 (x0 := x0) (x1 := x1) (x2 := x2) (x3 := x3) (x5 := t0) (t0 := v1) (t1 := x3) (t2 := x2) X hret hself11 hf hM (lv_sub hl [1, 2, 3, 4, 0] rfl)
def f_X1_mayLead_11s (self11 : Nat → Int32 → Nat → Int32 → ZS → Option (Int32 × ZS)) (x0 : Nat) (x1 : Int32) (x2 : Nat) (x3 : Int32) (S : ZS) : Option (Int32 × ZS) :=
  m_chk (zK S x0 = 1) (
  m_if ((zI S 3 x0) < x3) (
  m_chk (vp_nar .boolean (1 : Int32) = (1 : Int32)) (some ((1 : Int32), S))
  ) (
  m_chk (zK S x0 = 1) (
  m_cal (f_X1_at x0 x3 S) (fun o1 =>
  m_chk (zK o1.2 o1.1 = 4) (
  m_chk (zK o1.2 x0 = 1) (
  m_cal (f_X1_at x0 x1 o1.2) (fun o2 =>
  m_chk (zK o2.2 o2.1 = 4) (
  m_if ((zI o1.2 0 o1.1) = (zI o2.2 0 o2.1)) (
  f_X1_mayLead_55 self11 x0 x1 x2 x3 (zI o1.2 0 o1.1) x1 o2.2
  ) (
  m_chk (zK o2.2 x0 = 1) (
  m_cal (f_X1_at x0 (zI o1.2 0 o1.1) o2.2) (fun o3 =>
  m_chk (zK o3.2 o3.1 = 4) (
  f_X1_mayLead_55 self11 x0 x1 x2 x3 (zI o1.2 0 o1.1) (zI o3.2 2 o3.1) o3.2)))
  )))))))
  ))

set_option maxRecDepth 100000 in
set_option maxHeartbeats 4000000 in
theorem ws_X1_mayLead_11 {p : Program} {l : Launch} {e : Env} {s : State} {m : MethodId} {args : Array Value} {below : List Frame} {meth : Method} {c : Code} {Q : State → Prop} {D : va_G} {y : Nat → ClassId} {A0 : Nat → Prop} {o : Int32 × ZS} (X : CallFix p m c cX1_mayLead 6 s args wsX1_mayLead RX1) (hret : zRi p l e ({ frames := 1, cells := 0, slots := 0, locals := 22 } : Room) s m args below meth c Q cX1_mayLead D y A0 .boolean o) {self11 : Nat → Int32 → Nat → Int32 → ZS → Option (Int32 × ZS)} (hself11 : ∀ (x0 : Nat) (x1 : Int32) (x2 : Nat) (x3 : Int32) (S : ZS) (H : Heap) (locs : List Loc) (ls : Array Slot), self11 x0 x1 x2 x3 S = some o → zH D y A0 s H locs S → lv_has ls 6 [(0, .ref (zh y x0)), (1, .int x1), (2, .ref (zh y x2)), (3, .int x3)] → W p l e ({ frames := 1, cells := 0, slots := 0, locals := 22 } : Room) s m args below meth c H locs 0 0 Q (F0 m 11 ls [])) {x0 : Nat} {x1 : Int32} {x2 : Nat} {x3 : Int32} {S : ZS} {H : Heap} {locs : List Loc} {ls : Array Slot} (hf : f_X1_mayLead_11s self11 x0 x1 x2 x3 S = some o) (hM : zH D y A0 s H locs S) (hl : lv_has ls 6 [(0, .ref (zh y x0)), (1, .int x1), (2, .ref (zh y x2)), (3, .int x3)]) : W p l e ({ frames := 1, cells := 0, slots := 0, locals := 22 } : Room) s m args below meth c H locs 0 0 Q (F0 m 11 ls []) := by
  obtain ⟨hx, hb, hml, hown, hts⟩ := id X
  unfold f_X1_mayLead_11s at hf
  refine lv_iload_n hx hb dX1_mayLead_11 rfl (lv_at hl 3 rfl) ?_
  refine lv_aload_n hx hb dX1_mayLead_12 rfl (lv_at hl 0 rfl) ?_
  obtain ⟨ca, hf⟩ := m_chkE hf
  replace ca := z_in hM (by decide) ca
  refine z_get (k := 1) (j := 3) (C := RX1) (T := TX1) (N := 8) (fl := zf_1) (v := .int (zI S 3 x0)) X hw_X1_mayLead_1 hM rfl zc_1 ca (by decide) fl_X1_mayLead_1_3 rfl dX1_mayLead_13 ?_
  clear ca
  refine lv_icmp_gt (tgt := 107) hx hb dX1_mayLead_16 (by decide) (fun cc1 => ?_) (fun cc1 => ?_)
  · replace hf := m_ifT hf cc1
    refine lv_iconst (v := (1 : Int32)) hx hb dX1_mayLead_107 (by decide) ?_
    obtain ⟨cd, hf⟩ := m_chkE hf
    cases hf
    exact hret H locs _ ls hM (m_nb cd) dX1_mayLead_108
  · replace hf := m_ifF hf cc1
    refine lv_aload_n hx hb dX1_mayLead_19 rfl (lv_at hl 0 rfl) ?_
    refine lv_iload_n hx hb dX1_mayLead_20 rfl (lv_at hl 3 rfl) ?_
    obtain ⟨ca, hf⟩ := m_chkE hf
    replace ca := z_in hM (by decide) ca
    obtain ⟨o1, ho, hf⟩ := m_calE hf
    refine z_callVr (k := 1) (C := RX1) (T := TX1) (N := 8) (fl := zf_1) X hM rfl zc_1 ca (c_X1_at ho) gX1_mayLead_X1_at rfl ⟨rfl, rfl⟩ hd_X1_at ⟨Nat.le_of_ble_eq_true rfl, Nat.le_of_ble_eq_true rfl⟩ rfl hl.1 rfl (Nat.le_of_ble_eq_true rfl) dX1_mayLead_21 (fun H locs hM => ?_)
    clear ho
    obtain ⟨ca, hf⟩ := m_chkE hf
    replace ca := z_in hM (by decide) ca
    refine z_get (k := 4) (j := 0) (C := RX4) (T := TX4) (N := 7) (fl := zf_4) (v := .int (zI o1.2 0 o1.1)) X hw_X1_mayLead_4 hM rfl zc_4 ca (by decide) fl_X1_mayLead_4_0 rfl dX1_mayLead_24 ?_
    clear ca
    refine lv_istore (lv' := [(4, .int (zI o1.2 0 o1.1)), (0, .ref (zh y x0)), (1, .int x1), (2, .ref (zh y x2)), (3, .int x3)]) hx hb dX1_mayLead_27 hl (by decide) rfl (fun ls hl => ?_)
    refine lv_iload hx hb dX1_mayLead_29 (lv_at hl 0 rfl) ?_
    refine lv_aload_n hx hb dX1_mayLead_31 rfl (lv_at hl 1 rfl) ?_
    refine lv_iload_n hx hb dX1_mayLead_32 rfl (lv_at hl 2 rfl) ?_
    obtain ⟨ca, hf⟩ := m_chkE hf
    replace ca := z_in hM (by decide) ca
    obtain ⟨o2, ho, hf⟩ := m_calE hf
    refine z_callVr (k := 1) (C := RX1) (T := TX1) (N := 8) (fl := zf_1) X hM rfl zc_1 ca (c_X1_at ho) gX1_mayLead_X1_at rfl ⟨rfl, rfl⟩ hd_X1_at ⟨Nat.le_of_ble_eq_true rfl, Nat.le_of_ble_eq_true rfl⟩ rfl hl.1 rfl (Nat.le_of_ble_eq_true rfl) dX1_mayLead_33 (fun H locs hM => ?_)
    clear ho
    obtain ⟨ca, hf⟩ := m_chkE hf
    replace ca := z_in hM (by decide) ca
    refine z_get (k := 4) (j := 0) (C := RX4) (T := TX4) (N := 7) (fl := zf_4) (v := .int (zI o2.2 0 o2.1)) X hw_X1_mayLead_4 hM rfl zc_4 ca (by decide) fl_X1_mayLead_4_0 rfl dX1_mayLead_36 ?_
    clear ca
    refine lv_icmp_ne (tgt := 46) hx hb dX1_mayLead_39 (by decide) (fun cc1 => ?_) (fun cc1 => ?_)
    · replace hf := m_ifF hf cc1
      refine lv_aload_n hx hb dX1_mayLead_46 rfl (lv_at hl 1 rfl) ?_
      refine lv_iload hx hb dX1_mayLead_47 (lv_at hl 0 rfl) ?_
      obtain ⟨ca, hf⟩ := m_chkE hf
      replace ca := z_in hM (by decide) ca
      obtain ⟨o3, ho, hf⟩ := m_calE hf
      refine z_callVr (k := 1) (C := RX1) (T := TX1) (N := 8) (fl := zf_1) X hM rfl zc_1 ca (c_X1_at ho) gX1_mayLead_X1_at rfl ⟨rfl, rfl⟩ hd_X1_at ⟨Nat.le_of_ble_eq_true rfl, Nat.le_of_ble_eq_true rfl⟩ rfl hl.1 rfl (Nat.le_of_ble_eq_true rfl) dX1_mayLead_49 (fun H locs hM => ?_)
      clear ho
      obtain ⟨ca, hf⟩ := m_chkE hf
      replace ca := z_in hM (by decide) ca
      refine z_get (k := 4) (j := 2) (C := RX4) (T := TX4) (N := 7) (fl := zf_4) (v := .int (zI o3.2 2 o3.1)) X hw_X1_mayLead_4 hM rfl zc_4 ca (by decide) fl_X1_mayLead_4_2 rfl dX1_mayLead_52 ?_
      clear ca
      exact w_X1_mayLead_55 (x0 := x0) (x1 := x1) (x2 := x2) (x3 := x3) (x4 := (zI o1.2 0 o1.1)) (t0 := (zI o3.2 2 o3.1)) X hret hself11 hf hM (lv_sub hl [1, 2, 3, 4, 0] rfl)
    · replace hf := m_ifT hf cc1
      refine lv_iload_n hx hb dX1_mayLead_42 rfl (lv_at hl 2 rfl) ?_
      refine lv_goto (tgt := 55) hx hb dX1_mayLead_43 (by decide) ?_
      exact w_X1_mayLead_55 (x0 := x0) (x1 := x1) (x2 := x2) (x3 := x3) (x4 := (zI o1.2 0 o1.1)) (t0 := x1) X hret hself11 hf hM (lv_sub hl [1, 2, 3, 4, 0] rfl)
def f_X1_mayLead_11 : Nat → Nat → Int32 → Nat → Int32 → ZS → Option (Int32 × ZS)
  | 0 => fun _ _ _ _ _ => none
  | n + 1 => f_X1_mayLead_11s (f_X1_mayLead_11 n)
theorem w_X1_mayLead_11 {p : Program} {l : Launch} {e : Env} {s : State} {m : MethodId} {args : Array Value} {below : List Frame} {meth : Method} {c : Code} {Q : State → Prop} {D : va_G} {y : Nat → ClassId} {A0 : Nat → Prop} {o : Int32 × ZS} (X : CallFix p m c cX1_mayLead 6 s args wsX1_mayLead RX1) (hret : zRi p l e ({ frames := 1, cells := 0, slots := 0, locals := 22 } : Room) s m args below meth c Q cX1_mayLead D y A0 .boolean o) (n : Nat) : ∀ (x0 : Nat) (x1 : Int32) (x2 : Nat) (x3 : Int32) (S : ZS) (H : Heap) (locs : List Loc) (ls : Array Slot), f_X1_mayLead_11 n x0 x1 x2 x3 S = some o → zH D y A0 s H locs S → lv_has ls 6 [(0, .ref (zh y x0)), (1, .int x1), (2, .ref (zh y x2)), (3, .int x3)] → W p l e ({ frames := 1, cells := 0, slots := 0, locals := 22 } : Room) s m args below meth c H locs 0 0 Q (F0 m 11 ls []) := by
  induction n with
  | zero => intro x0 x1 x2 x3 S H locs ls hf; cases hf
  | succ n ih => intro x0 x1 x2 x3 S H locs ls hf hM hl; exact ws_X1_mayLead_11 X hret (self11 := f_X1_mayLead_11 n) ih hf hM hl
def f_X1_mayLead_0 (x0 : Nat) (x1 : Int32) (S : ZS) : Option (Int32 × ZS) :=
  m_chk (zK S x0 = 1) (
  m_cal (zP S 7 x0) (fun b1 =>
  m_chk (zK S b1 = 14) (
  m_chk (¬ ((0 : Int32) < 0 ∨ zN S b1 ≤ ((0 : Int32)).toNatClampNeg)) (
  m_bnd (zsA S b1 ((0 : Int32)).toNatClampNeg (0 : Int32)) (fun S2 =>
  f_X1_mayLead_11 mFuel x0 x1 b1 (1 : Int32) S2)))))

set_option maxRecDepth 100000 in
set_option maxHeartbeats 4000000 in
theorem w_X1_mayLead_0 {p : Program} {l : Launch} {e : Env} {s : State} {m : MethodId} {args : Array Value} {below : List Frame} {meth : Method} {c : Code} {Q : State → Prop} {D : va_G} {y : Nat → ClassId} {A0 : Nat → Prop} {o : Int32 × ZS} (X : CallFix p m c cX1_mayLead 6 s args wsX1_mayLead RX1) (hret : zRi p l e ({ frames := 1, cells := 0, slots := 0, locals := 22 } : Room) s m args below meth c Q cX1_mayLead D y A0 .boolean o) {x0 : Nat} {x1 : Int32} {S : ZS} {H : Heap} {locs : List Loc} {ls : Array Slot} (hf : f_X1_mayLead_0 x0 x1 S = some o) (hM : zH D y A0 s H locs S) (hl : lv_has ls 6 [(0, .ref (zh y x0)), (1, .int x1)]) : W p l e ({ frames := 1, cells := 0, slots := 0, locals := 22 } : Room) s m args below meth c H locs 0 0 Q (F0 m 0 ls []) := by
  obtain ⟨hx, hb, hml, hown, hts⟩ := id X
  unfold f_X1_mayLead_0 at hf
  refine lv_aload_n hx hb dX1_mayLead_0 rfl (lv_at hl 0 rfl) ?_
  obtain ⟨ca, hf⟩ := m_chkE hf
  replace ca := z_in hM (by decide) ca
  refine z_get (k := 1) (j := 7) (C := RX1) (T := TX1) (N := 8) (fl := zf_1) (v := va_rf ((zP S 7 x0).map (zh y))) X hw_X1_mayLead_1 hM rfl zc_1 ca (by decide) fl_X1_mayLead_1_7 rfl dX1_mayLead_1 ?_
  clear ca
  obtain ⟨b1, hb9, hf⟩ := m_calE hf
  refine z_topr hb9 ?_
  clear hb9
  refine lv_astore_n (lv' := [(2, .ref (zh y b1)), (0, .ref (zh y x0)), (1, .int x1)]) hx hb dX1_mayLead_4 rfl hl (by decide) rfl (fun ls hl => ?_)
  refine lv_aload_n hx hb dX1_mayLead_5 rfl (lv_at hl 0 rfl) ?_
  refine lv_iconst (v := (0 : Int32)) hx hb dX1_mayLead_6 (by decide) ?_
  refine lv_iconst (v := (0 : Int32)) hx hb dX1_mayLead_7 (by decide) ?_
  obtain ⟨ca, hf⟩ := m_chkE hf
  replace ca := z_in hM (by decide) ca
  obtain ⟨cd, hf⟩ := m_chkE hf
  refine z_iast X hM ca cd dX1_mayLead_8 (fun H locs hM => ?_)
  clear ca cd
  obtain ⟨S2, ev, hf⟩ := m_bndE hf
  replace hM := z_hS hM ev
  clear ev
  refine lv_iconst (v := (1 : Int32)) hx hb dX1_mayLead_9 (by decide) ?_
  refine lv_istore_n (lv' := [(3, .int (1 : Int32)), (2, .ref (zh y b1)), (0, .ref (zh y x0)), (1, .int x1)]) hx hb dX1_mayLead_10 rfl hl (by decide) rfl (fun ls hl => ?_)
  exact w_X1_mayLead_11 X hret _ x0 x1 b1 (1 : Int32) _ _ _ _ hf hM (lv_sub hl [2, 3, 1, 0] rfl)
def f_X1_mayLead (x0 : Nat) (x1 : Int32) (S : ZS) : Option (Int32 × ZS) := f_X1_mayLead_0 x0 x1 S
theorem c_X1_mayLead {l : Launch} {D : va_G} {y : Nat → ClassId} {x0 : Nat} {x1 : Int32} {S : ZS} {o : Int32 × ZS} (hf : f_X1_mayLead x0 x1 S = some o) : zMi l yX1_mayLead wsX1_mayLead ({ frames := 1, cells := 0, slots := 0, locals := 22 } : Room) [.ref (zh y x0), .int x1] D y S o :=
  z_entryI (own := RX1) (cc := cX1_mayLead) (maxL := 6) (by decide) rfl rfl (Nat.le_of_ble_eq_true rfl) (fun p e s m args below meth c A0 Q H locs ls X hret hM hl => w_X1_mayLead_0 X hret hf hM (lv_sub hl [0, 1] rfl))
theorem hd_X1_putFirst : yX1_putFirst.cls = RX1 ∧ yX1_putFirst.cls ≠ "java/lang/invoke/MethodHandle" ∧ yX1_putFirst.cls ≠ "java/lang/invoke/VarHandle" ∧ (parseMethodDescriptor yX1_putFirst.desc).map (fun d => d.parameters.length) = some 1 := by decide +kernel
theorem fl_X1_putFirst_4_0 : Cond.fieldLink RX1 69 "MoveTexts$Node" "parent" "I" ∈ wsX1_putFirst := by decide +kernel
theorem fl_X1_putFirst_4_2 : Cond.fieldLink RX1 60 "MoveTexts$Node" "first" "I" ∈ wsX1_putFirst := by decide +kernel
theorem fl_X1_putFirst_4_3 : Cond.fieldLink RX1 66 "MoveTexts$Node" "next" "I" ∈ wsX1_putFirst := by decide +kernel
theorem hw_X1_putFirst_4 : ∀ w ∈ wsX40, w ∈ wsX1_putFirst := by decide +kernel
def f_X1_putFirst_56 (x0 : Nat) (x1 : Int32) (x2 : Nat) (x3 : Int32) (S : ZS) : Option (Int32 × ZS) :=
  m_chk (zK S x0 = 1) (
  m_cal (f_X1_at x0 x3 S) (fun o1 =>
  m_chk (zK o1.2 x0 = 1) (
  m_cal (f_X1_at x0 x1 o1.2) (fun o2 =>
  m_chk (zK o2.2 o2.1 = 4) (
  m_chk (zK o2.2 o1.1 = 4) (
  m_bnd (zsI o2.2 3 o1.1 (zI o2.2 3 o2.1)) (fun S3 =>
  m_chk (zK S3 x0 = 1) (
  m_cal (f_X1_at x0 x1 S3) (fun o4 =>
  m_chk (zK o4.2 x2 = 4) (
  m_chk (zK o4.2 o4.1 = 4) (
  m_bnd (zsI o4.2 3 o4.1 (zI o4.2 2 x2)) (fun S5 =>
  m_chk (zK S5 x2 = 4) (
  m_bnd (zsI S5 2 x2 x1) (fun S6 =>
  some (0, S6)))))))))))))))

set_option maxRecDepth 100000 in
set_option maxHeartbeats 4000000 in
theorem w_X1_putFirst_56 {p : Program} {l : Launch} {e : Env} {s : State} {m : MethodId} {args : Array Value} {below : List Frame} {meth : Method} {c : Code} {Q : State → Prop} {D : va_G} {y : Nat → ClassId} {A0 : Nat → Prop} {o : Int32 × ZS} (X : CallFix p m c cX1_putFirst 5 s args wsX1_putFirst RX1) (hret : zRv p l e ({ frames := 1, cells := 0, slots := 0, locals := 22 } : Room) s m args below meth c Q cX1_putFirst D y A0 o) {x0 : Nat} {x1 : Int32} {x2 : Nat} {x3 : Int32} {S : ZS} {H : Heap} {locs : List Loc} {ls : Array Slot} (hf : f_X1_putFirst_56 x0 x1 x2 x3 S = some o) (hM : zH D y A0 s H locs S) (hl : lv_has ls 5 [(0, .ref (zh y x0)), (1, .int x1), (2, .ref (zh y x2)), (3, .int x3)]) : W p l e ({ frames := 1, cells := 0, slots := 0, locals := 22 } : Room) s m args below meth c H locs 0 0 Q (F0 m 56 ls []) := by
  obtain ⟨hx, hb, hml, hown, hts⟩ := id X
  unfold f_X1_putFirst_56 at hf
  refine lv_aload_n hx hb dX1_putFirst_56 rfl (lv_at hl 0 rfl) ?_
  refine lv_iload_n hx hb dX1_putFirst_57 rfl (lv_at hl 3 rfl) ?_
  obtain ⟨ca, hf⟩ := m_chkE hf
  replace ca := z_in hM (by decide) ca
  obtain ⟨o1, ho, hf⟩ := m_calE hf
  refine z_callVr (k := 1) (C := RX1) (T := TX1) (N := 8) (fl := zf_1) X hM rfl zc_1 ca (c_X1_at ho) gX1_putFirst_X1_at rfl ⟨rfl, rfl⟩ hd_X1_at ⟨Nat.le_of_ble_eq_true rfl, Nat.le_of_ble_eq_true rfl⟩ rfl hl.1 rfl (Nat.le_of_ble_eq_true rfl) dX1_putFirst_58 (fun H locs hM => ?_)
  clear ho
  refine lv_aload_n hx hb dX1_putFirst_61 rfl (lv_at hl 0 rfl) ?_
  refine lv_iload_n hx hb dX1_putFirst_62 rfl (lv_at hl 1 rfl) ?_
  obtain ⟨ca, hf⟩ := m_chkE hf
  replace ca := z_in hM (by decide) ca
  obtain ⟨o2, ho, hf⟩ := m_calE hf
  refine z_callVr (k := 1) (C := RX1) (T := TX1) (N := 8) (fl := zf_1) X hM rfl zc_1 ca (c_X1_at ho) gX1_putFirst_X1_at rfl ⟨rfl, rfl⟩ hd_X1_at ⟨Nat.le_of_ble_eq_true rfl, Nat.le_of_ble_eq_true rfl⟩ rfl hl.1 rfl (Nat.le_of_ble_eq_true rfl) dX1_putFirst_63 (fun H locs hM => ?_)
  clear ho
  obtain ⟨ca, hf⟩ := m_chkE hf
  replace ca := z_in hM (by decide) ca
  refine z_get (k := 4) (j := 3) (C := RX4) (T := TX4) (N := 7) (fl := zf_4) (v := .int (zI o2.2 3 o2.1)) X hw_X1_putFirst_4 hM rfl zc_4 ca (by decide) fl_X1_putFirst_4_3 rfl dX1_putFirst_66 ?_
  clear ca
  obtain ⟨ca, hf⟩ := m_chkE hf
  replace ca := z_in hM (by decide) ca
  refine z_putI (k := 4) (j := 3) (C := RX4) (T := TX4) (N := 7) (fl := zf_4) (ty := .int) X hw_X1_putFirst_4 tyX4_ok nmX4 hM rfl zc_4 ca (by decide) fl_X1_putFirst_4_3 rfl (tyX4_ok 3 (by decide)) rfl rfl zi_4_3 (Nat.le_of_ble_eq_true rfl) dX1_putFirst_69 (fun H locs hM => ?_)
  clear ca
  obtain ⟨S3, ev, hf⟩ := m_bndE hf
  replace hM := z_hS hM ev
  clear ev
  refine lv_aload_n hx hb dX1_putFirst_72 rfl (lv_at hl 0 rfl) ?_
  refine lv_iload_n hx hb dX1_putFirst_73 rfl (lv_at hl 1 rfl) ?_
  obtain ⟨ca, hf⟩ := m_chkE hf
  replace ca := z_in hM (by decide) ca
  obtain ⟨o4, ho, hf⟩ := m_calE hf
  refine z_callVr (k := 1) (C := RX1) (T := TX1) (N := 8) (fl := zf_1) X hM rfl zc_1 ca (c_X1_at ho) gX1_putFirst_X1_at rfl ⟨rfl, rfl⟩ hd_X1_at ⟨Nat.le_of_ble_eq_true rfl, Nat.le_of_ble_eq_true rfl⟩ rfl hl.1 rfl (Nat.le_of_ble_eq_true rfl) dX1_putFirst_74 (fun H locs hM => ?_)
  clear ho
  refine lv_aload_n hx hb dX1_putFirst_77 rfl (lv_at hl 2 rfl) ?_
  obtain ⟨ca, hf⟩ := m_chkE hf
  replace ca := z_in hM (by decide) ca
  refine z_get (k := 4) (j := 2) (C := RX4) (T := TX4) (N := 7) (fl := zf_4) (v := .int (zI o4.2 2 x2)) X hw_X1_putFirst_4 hM rfl zc_4 ca (by decide) fl_X1_putFirst_4_2 rfl dX1_putFirst_78 ?_
  clear ca
  obtain ⟨ca, hf⟩ := m_chkE hf
  replace ca := z_in hM (by decide) ca
  refine z_putI (k := 4) (j := 3) (C := RX4) (T := TX4) (N := 7) (fl := zf_4) (ty := .int) X hw_X1_putFirst_4 tyX4_ok nmX4 hM rfl zc_4 ca (by decide) fl_X1_putFirst_4_3 rfl (tyX4_ok 3 (by decide)) rfl rfl zi_4_3 (Nat.le_of_ble_eq_true rfl) dX1_putFirst_81 (fun H locs hM => ?_)
  clear ca
  obtain ⟨S5, ev, hf⟩ := m_bndE hf
  replace hM := z_hS hM ev
  clear ev
  refine lv_aload_n hx hb dX1_putFirst_84 rfl (lv_at hl 2 rfl) ?_
  refine lv_iload_n hx hb dX1_putFirst_85 rfl (lv_at hl 1 rfl) ?_
  obtain ⟨ca, hf⟩ := m_chkE hf
  replace ca := z_in hM (by decide) ca
  refine z_putI (k := 4) (j := 2) (C := RX4) (T := TX4) (N := 7) (fl := zf_4) (ty := .int) X hw_X1_putFirst_4 tyX4_ok nmX4 hM rfl zc_4 ca (by decide) fl_X1_putFirst_4_2 rfl (tyX4_ok 2 (by decide)) rfl rfl zi_4_2 (Nat.le_of_ble_eq_true rfl) dX1_putFirst_86 (fun H locs hM => ?_)
  clear ca
  obtain ⟨S6, ev, hf⟩ := m_bndE hf
  replace hM := z_hS hM ev
  clear ev
  cases hf
  exact hret H locs _ ls hM dX1_putFirst_89
def f_X1_putFirst_21s (self21 : Nat → Int32 → Nat → Int32 → Int32 → ZS → Option (Int32 × ZS)) (x0 : Nat) (x1 : Int32) (x2 : Nat) (x3 : Int32) (x4 : Int32) (S : ZS) : Option (Int32 × ZS) :=
  m_if ((300 : Int32) ≤ x4) (
  f_X1_putFirst_56 x0 x1 x2 x3 S
  ) (
  m_chk (zK S x0 = 1) (
  m_cal (f_X1_at x0 x3 S) (fun o1 =>
  m_chk (zK o1.2 o1.1 = 4) (
  m_if ((zI o1.2 3 o1.1) = x1) (
  f_X1_putFirst_56 x0 x1 x2 x3 o1.2
  ) (
  m_chk (zK o1.2 x0 = 1) (
  m_cal (f_X1_at x0 x3 o1.2) (fun o2 =>
  m_chk (zK o2.2 o2.1 = 4) (
  m_bnd (x4 + (1 : Int32)) (fun v3 =>
  self21 x0 x1 x2 (zI o2.2 3 o2.1) v3 o2.2))))
  ))))
  )

set_option maxRecDepth 100000 in
set_option maxHeartbeats 4000000 in
theorem ws_X1_putFirst_21 {p : Program} {l : Launch} {e : Env} {s : State} {m : MethodId} {args : Array Value} {below : List Frame} {meth : Method} {c : Code} {Q : State → Prop} {D : va_G} {y : Nat → ClassId} {A0 : Nat → Prop} {o : Int32 × ZS} (X : CallFix p m c cX1_putFirst 5 s args wsX1_putFirst RX1) (hret : zRv p l e ({ frames := 1, cells := 0, slots := 0, locals := 22 } : Room) s m args below meth c Q cX1_putFirst D y A0 o) {self21 : Nat → Int32 → Nat → Int32 → Int32 → ZS → Option (Int32 × ZS)} (hself21 : ∀ (x0 : Nat) (x1 : Int32) (x2 : Nat) (x3 : Int32) (x4 : Int32) (S : ZS) (H : Heap) (locs : List Loc) (ls : Array Slot), self21 x0 x1 x2 x3 x4 S = some o → zH D y A0 s H locs S → lv_has ls 5 [(0, .ref (zh y x0)), (1, .int x1), (2, .ref (zh y x2)), (3, .int x3), (4, .int x4)] → W p l e ({ frames := 1, cells := 0, slots := 0, locals := 22 } : Room) s m args below meth c H locs 0 0 Q (F0 m 21 ls [])) {x0 : Nat} {x1 : Int32} {x2 : Nat} {x3 : Int32} {x4 : Int32} {S : ZS} {H : Heap} {locs : List Loc} {ls : Array Slot} (hf : f_X1_putFirst_21s self21 x0 x1 x2 x3 x4 S = some o) (hM : zH D y A0 s H locs S) (hl : lv_has ls 5 [(0, .ref (zh y x0)), (1, .int x1), (2, .ref (zh y x2)), (3, .int x3), (4, .int x4)]) : W p l e ({ frames := 1, cells := 0, slots := 0, locals := 22 } : Room) s m args below meth c H locs 0 0 Q (F0 m 21 ls []) := by
  obtain ⟨hx, hb, hml, hown, hts⟩ := id X
  unfold f_X1_putFirst_21s at hf
  refine lv_iload hx hb dX1_putFirst_21 (lv_at hl 4 rfl) ?_
  refine lv_sipush (v := (300 : Int32)) hx hb dX1_putFirst_23 (by decide) ?_
  refine lv_icmp_ge (tgt := 56) hx hb dX1_putFirst_26 (by decide) (fun cc1 => ?_) (fun cc1 => ?_)
  · replace hf := m_ifT hf cc1
    exact w_X1_putFirst_56 (x0 := x0) (x1 := x1) (x2 := x2) (x3 := x3) X hret hf hM (lv_sub hl [0, 1, 2, 3] rfl)
  · replace hf := m_ifF hf cc1
    refine lv_aload_n hx hb dX1_putFirst_29 rfl (lv_at hl 0 rfl) ?_
    refine lv_iload_n hx hb dX1_putFirst_30 rfl (lv_at hl 3 rfl) ?_
    obtain ⟨ca, hf⟩ := m_chkE hf
    replace ca := z_in hM (by decide) ca
    obtain ⟨o1, ho, hf⟩ := m_calE hf
    refine z_callVr (k := 1) (C := RX1) (T := TX1) (N := 8) (fl := zf_1) X hM rfl zc_1 ca (c_X1_at ho) gX1_putFirst_X1_at rfl ⟨rfl, rfl⟩ hd_X1_at ⟨Nat.le_of_ble_eq_true rfl, Nat.le_of_ble_eq_true rfl⟩ rfl hl.1 rfl (Nat.le_of_ble_eq_true rfl) dX1_putFirst_31 (fun H locs hM => ?_)
    clear ho
    obtain ⟨ca, hf⟩ := m_chkE hf
    replace ca := z_in hM (by decide) ca
    refine z_get (k := 4) (j := 3) (C := RX4) (T := TX4) (N := 7) (fl := zf_4) (v := .int (zI o1.2 3 o1.1)) X hw_X1_putFirst_4 hM rfl zc_4 ca (by decide) fl_X1_putFirst_4_3 rfl dX1_putFirst_34 ?_
    clear ca
    refine lv_iload_n hx hb dX1_putFirst_37 rfl (lv_at hl 1 rfl) ?_
    refine lv_icmp_eq (tgt := 56) hx hb dX1_putFirst_38 (by decide) (fun cc1 => ?_) (fun cc1 => ?_)
    · replace hf := m_ifT hf cc1
      exact w_X1_putFirst_56 (x0 := x0) (x1 := x1) (x2 := x2) (x3 := x3) X hret hf hM (lv_sub hl [0, 1, 2, 3] rfl)
    · replace hf := m_ifF hf cc1
      refine lv_aload_n hx hb dX1_putFirst_41 rfl (lv_at hl 0 rfl) ?_
      refine lv_iload_n hx hb dX1_putFirst_42 rfl (lv_at hl 3 rfl) ?_
      obtain ⟨ca, hf⟩ := m_chkE hf
      replace ca := z_in hM (by decide) ca
      obtain ⟨o2, ho, hf⟩ := m_calE hf
      refine z_callVr (k := 1) (C := RX1) (T := TX1) (N := 8) (fl := zf_1) X hM rfl zc_1 ca (c_X1_at ho) gX1_putFirst_X1_at rfl ⟨rfl, rfl⟩ hd_X1_at ⟨Nat.le_of_ble_eq_true rfl, Nat.le_of_ble_eq_true rfl⟩ rfl hl.1 rfl (Nat.le_of_ble_eq_true rfl) dX1_putFirst_43 (fun H locs hM => ?_)
      clear ho
      obtain ⟨ca, hf⟩ := m_chkE hf
      replace ca := z_in hM (by decide) ca
      refine z_get (k := 4) (j := 3) (C := RX4) (T := TX4) (N := 7) (fl := zf_4) (v := .int (zI o2.2 3 o2.1)) X hw_X1_putFirst_4 hM rfl zc_4 ca (by decide) fl_X1_putFirst_4_3 rfl dX1_putFirst_46 ?_
      clear ca
      refine lv_istore_n (lv' := [(3, .int (zI o2.2 3 o2.1)), (0, .ref (zh y x0)), (1, .int x1), (2, .ref (zh y x2)), (4, .int x4)]) hx hb dX1_putFirst_49 rfl hl (by decide) rfl (fun ls hl => ?_)
      obtain ⟨v3, ev, hf⟩ := m_bndE hf
      refine lv_iinc (v := v3) (lv' := [(4, .int v3), (3, .int (zI o2.2 3 o2.1)), (0, .ref (zh y x0)), (1, .int x1), (2, .ref (zh y x2))]) hx hb dX1_putFirst_50 hl (k := 4) rfl (by rw [ev]; rfl) (by decide) rfl (fun ls hl => ?_)
      clear ev
      refine lv_goto (tgt := 21) hx hb dX1_putFirst_53 (by decide) ?_
      exact hself21 x0 x1 x2 (zI o2.2 3 o2.1) v3 _ _ _ _ hf hM (lv_sub hl [2, 3, 4, 1, 0] rfl)
def f_X1_putFirst_21 : Nat → Nat → Int32 → Nat → Int32 → Int32 → ZS → Option (Int32 × ZS)
  | 0 => fun _ _ _ _ _ _ => none
  | n + 1 => f_X1_putFirst_21s (f_X1_putFirst_21 n)
theorem w_X1_putFirst_21 {p : Program} {l : Launch} {e : Env} {s : State} {m : MethodId} {args : Array Value} {below : List Frame} {meth : Method} {c : Code} {Q : State → Prop} {D : va_G} {y : Nat → ClassId} {A0 : Nat → Prop} {o : Int32 × ZS} (X : CallFix p m c cX1_putFirst 5 s args wsX1_putFirst RX1) (hret : zRv p l e ({ frames := 1, cells := 0, slots := 0, locals := 22 } : Room) s m args below meth c Q cX1_putFirst D y A0 o) (n : Nat) : ∀ (x0 : Nat) (x1 : Int32) (x2 : Nat) (x3 : Int32) (x4 : Int32) (S : ZS) (H : Heap) (locs : List Loc) (ls : Array Slot), f_X1_putFirst_21 n x0 x1 x2 x3 x4 S = some o → zH D y A0 s H locs S → lv_has ls 5 [(0, .ref (zh y x0)), (1, .int x1), (2, .ref (zh y x2)), (3, .int x3), (4, .int x4)] → W p l e ({ frames := 1, cells := 0, slots := 0, locals := 22 } : Room) s m args below meth c H locs 0 0 Q (F0 m 21 ls []) := by
  induction n with
  | zero => intro x0 x1 x2 x3 x4 S H locs ls hf; cases hf
  | succ n ih => intro x0 x1 x2 x3 x4 S H locs ls hf hM hl; exact ws_X1_putFirst_21 X hret (self21 := f_X1_putFirst_21 n) ih hf hM hl
def f_X1_putFirst_0 (x0 : Nat) (x1 : Int32) (S : ZS) : Option (Int32 × ZS) :=
  m_chk (zK S x0 = 1) (
  m_cal (f_X1_at x0 x1 S) (fun o1 =>
  m_chk (zK o1.2 o1.1 = 4) (
  m_chk (zK o1.2 x0 = 1) (
  m_cal (f_X1_at x0 (zI o1.2 0 o1.1) o1.2) (fun o2 =>
  m_chk (zK o2.2 o2.1 = 4) (
  f_X1_putFirst_21 mFuel x0 x1 o2.1 (zI o2.2 2 o2.1) (0 : Int32) o2.2))))))

set_option maxRecDepth 100000 in
set_option maxHeartbeats 4000000 in
theorem w_X1_putFirst_0 {p : Program} {l : Launch} {e : Env} {s : State} {m : MethodId} {args : Array Value} {below : List Frame} {meth : Method} {c : Code} {Q : State → Prop} {D : va_G} {y : Nat → ClassId} {A0 : Nat → Prop} {o : Int32 × ZS} (X : CallFix p m c cX1_putFirst 5 s args wsX1_putFirst RX1) (hret : zRv p l e ({ frames := 1, cells := 0, slots := 0, locals := 22 } : Room) s m args below meth c Q cX1_putFirst D y A0 o) {x0 : Nat} {x1 : Int32} {S : ZS} {H : Heap} {locs : List Loc} {ls : Array Slot} (hf : f_X1_putFirst_0 x0 x1 S = some o) (hM : zH D y A0 s H locs S) (hl : lv_has ls 5 [(0, .ref (zh y x0)), (1, .int x1)]) : W p l e ({ frames := 1, cells := 0, slots := 0, locals := 22 } : Room) s m args below meth c H locs 0 0 Q (F0 m 0 ls []) := by
  obtain ⟨hx, hb, hml, hown, hts⟩ := id X
  unfold f_X1_putFirst_0 at hf
  refine lv_aload_n hx hb dX1_putFirst_0 rfl (lv_at hl 0 rfl) ?_
  refine lv_aload_n hx hb dX1_putFirst_1 rfl (lv_at hl 0 rfl) ?_
  refine lv_iload_n hx hb dX1_putFirst_2 rfl (lv_at hl 1 rfl) ?_
  obtain ⟨ca, hf⟩ := m_chkE hf
  replace ca := z_in hM (by decide) ca
  obtain ⟨o1, ho, hf⟩ := m_calE hf
  refine z_callVr (k := 1) (C := RX1) (T := TX1) (N := 8) (fl := zf_1) X hM rfl zc_1 ca (c_X1_at ho) gX1_putFirst_X1_at rfl ⟨rfl, rfl⟩ hd_X1_at ⟨Nat.le_of_ble_eq_true rfl, Nat.le_of_ble_eq_true rfl⟩ rfl hl.1 rfl (Nat.le_of_ble_eq_true rfl) dX1_putFirst_3 (fun H locs hM => ?_)
  clear ho
  obtain ⟨ca, hf⟩ := m_chkE hf
  replace ca := z_in hM (by decide) ca
  refine z_get (k := 4) (j := 0) (C := RX4) (T := TX4) (N := 7) (fl := zf_4) (v := .int (zI o1.2 0 o1.1)) X hw_X1_putFirst_4 hM rfl zc_4 ca (by decide) fl_X1_putFirst_4_0 rfl dX1_putFirst_6 ?_
  clear ca
  obtain ⟨ca, hf⟩ := m_chkE hf
  replace ca := z_in hM (by decide) ca
  obtain ⟨o2, ho, hf⟩ := m_calE hf
  refine z_callVr (k := 1) (C := RX1) (T := TX1) (N := 8) (fl := zf_1) X hM rfl zc_1 ca (c_X1_at ho) gX1_putFirst_X1_at rfl ⟨rfl, rfl⟩ hd_X1_at ⟨Nat.le_of_ble_eq_true rfl, Nat.le_of_ble_eq_true rfl⟩ rfl hl.1 rfl (Nat.le_of_ble_eq_true rfl) dX1_putFirst_9 (fun H locs hM => ?_)
  clear ho
  refine lv_astore_n (lv' := [(2, .ref (zh y o2.1)), (0, .ref (zh y x0)), (1, .int x1)]) hx hb dX1_putFirst_12 rfl hl (by decide) rfl (fun ls hl => ?_)
  refine lv_aload_n hx hb dX1_putFirst_13 rfl (lv_at hl 0 rfl) ?_
  obtain ⟨ca, hf⟩ := m_chkE hf
  replace ca := z_in hM (by decide) ca
  refine z_get (k := 4) (j := 2) (C := RX4) (T := TX4) (N := 7) (fl := zf_4) (v := .int (zI o2.2 2 o2.1)) X hw_X1_putFirst_4 hM rfl zc_4 ca (by decide) fl_X1_putFirst_4_2 rfl dX1_putFirst_14 ?_
  clear ca
  refine lv_istore_n (lv' := [(3, .int (zI o2.2 2 o2.1)), (2, .ref (zh y o2.1)), (0, .ref (zh y x0)), (1, .int x1)]) hx hb dX1_putFirst_17 rfl hl (by decide) rfl (fun ls hl => ?_)
  refine lv_iconst (v := (0 : Int32)) hx hb dX1_putFirst_18 (by decide) ?_
  refine lv_istore (lv' := [(4, .int (0 : Int32)), (3, .int (zI o2.2 2 o2.1)), (2, .ref (zh y o2.1)), (0, .ref (zh y x0)), (1, .int x1)]) hx hb dX1_putFirst_19 hl (by decide) rfl (fun ls hl => ?_)
  exact w_X1_putFirst_21 X hret _ x0 x1 o2.1 (zI o2.2 2 o2.1) (0 : Int32) _ _ _ _ hf hM (lv_sub hl [3, 4, 2, 1, 0] rfl)
def f_X1_putFirst (x0 : Nat) (x1 : Int32) (S : ZS) : Option (Int32 × ZS) := f_X1_putFirst_0 x0 x1 S
theorem c_X1_putFirst {l : Launch} {D : va_G} {y : Nat → ClassId} {x0 : Nat} {x1 : Int32} {S : ZS} {o : Int32 × ZS} (hf : f_X1_putFirst x0 x1 S = some o) : zMv l yX1_putFirst wsX1_putFirst ({ frames := 1, cells := 0, slots := 0, locals := 22 } : Room) [.ref (zh y x0), .int x1] D y S o :=
  z_entryV (own := RX1) (cc := cX1_putFirst) (maxL := 5) (by decide) rfl rfl (Nat.le_of_ble_eq_true rfl) (fun p e s m args below meth c A0 Q H locs ls X hret hM hl => w_X1_putFirst_0 X hret hf hM (lv_sub hl [0, 1] rfl))
theorem hd_X1_standAt : yX1_standAt.cls = RX1 ∧ yX1_standAt.cls ≠ "java/lang/invoke/MethodHandle" ∧ yX1_standAt.cls ≠ "java/lang/invoke/VarHandle" ∧ (parseMethodDescriptor yX1_standAt.desc).map (fun d => d.parameters.length) = some 2 := by decide +kernel
theorem fl_X1_standAt_1_0 : Cond.fieldLink RX1 12 "MoveTexts$Game" "start" "LMoveTexts$Board;" ∈ wsX1_standAt := by decide +kernel
theorem fl_X1_standAt_1_7 : Cond.fieldLink RX1 45 "MoveTexts$Game" "scratch" "[I" ∈ wsX1_standAt := by decide +kernel
theorem fl_X1_standAt_4_0 : Cond.fieldLink RX1 69 "MoveTexts$Node" "parent" "I" ∈ wsX1_standAt := by decide +kernel
theorem fl_X1_standAt_4_1 : Cond.fieldLink RX1 63 "MoveTexts$Node" "move" "I" ∈ wsX1_standAt := by decide +kernel
theorem hw_X1_standAt_1 : ∀ w ∈ wsX10, w ∈ wsX1_standAt := by decide +kernel
theorem hw_X1_standAt_4 : ∀ w ∈ wsX40, w ∈ wsX1_standAt := by decide +kernel
def f_X1_standAt_68s (self68 : Nat → Nat → Int32 → ZS → Option (Int32 × ZS)) (x2 : Nat) (x3 : Nat) (x5 : Int32) (S : ZS) : Option (Int32 × ZS) :=
  m_if (x5 < 0) (
  some (0, S)
  ) (
  m_chk (zK S x3 = 14) (
  m_chk (¬ (x5 < 0 ∨ zN S x3 ≤ (x5).toNatClampNeg)) (
  m_bnd (zA S x3 (x5).toNatClampNeg) (fun v1 =>
  m_chk (zK S x2 = 0) (
  m_cal (f_X0_play x2 v1 S) (fun o2 =>
  m_bnd (x5 + (-1 : Int32)) (fun v3 =>
  self68 x2 x3 v3 o2.2))))))
  )

set_option maxRecDepth 100000 in
set_option maxHeartbeats 4000000 in
theorem ws_X1_standAt_68 {p : Program} {l : Launch} {e : Env} {s : State} {m : MethodId} {args : Array Value} {below : List Frame} {meth : Method} {c : Code} {Q : State → Prop} {D : va_G} {y : Nat → ClassId} {A0 : Nat → Prop} {o : Int32 × ZS} (X : CallFix p m c cX1_standAt 6 s args wsX1_standAt RX1) (hret : zRv p l e ({ frames := 2, cells := 0, slots := 0, locals := 81 } : Room) s m args below meth c Q cX1_standAt D y A0 o) {self68 : Nat → Nat → Int32 → ZS → Option (Int32 × ZS)} (hself68 : ∀ (x2 : Nat) (x3 : Nat) (x5 : Int32) (S : ZS) (H : Heap) (locs : List Loc) (ls : Array Slot), self68 x2 x3 x5 S = some o → zH D y A0 s H locs S → lv_has ls 6 [(2, .ref (zh y x2)), (3, .ref (zh y x3)), (5, .int x5)] → W p l e ({ frames := 2, cells := 0, slots := 0, locals := 81 } : Room) s m args below meth c H locs 0 0 Q (F0 m 68 ls [])) {x2 : Nat} {x3 : Nat} {x5 : Int32} {S : ZS} {H : Heap} {locs : List Loc} {ls : Array Slot} (hf : f_X1_standAt_68s self68 x2 x3 x5 S = some o) (hM : zH D y A0 s H locs S) (hl : lv_has ls 6 [(2, .ref (zh y x2)), (3, .ref (zh y x3)), (5, .int x5)]) : W p l e ({ frames := 2, cells := 0, slots := 0, locals := 81 } : Room) s m args below meth c H locs 0 0 Q (F0 m 68 ls []) := by
  obtain ⟨hx, hb, hml, hown, hts⟩ := id X
  unfold f_X1_standAt_68s at hf
  refine lv_iload hx hb dX1_standAt_68 (lv_at hl 2 rfl) ?_
  refine lv_if_lt (tgt := 87) hx hb dX1_standAt_70 (by decide) (fun cc1 => ?_) (fun cc1 => ?_)
  · replace hf := m_ifT hf cc1
    cases hf
    exact hret H locs _ ls hM dX1_standAt_87
  · replace hf := m_ifF hf cc1
    refine lv_aload_n hx hb dX1_standAt_73 rfl (lv_at hl 0 rfl) ?_
    refine lv_aload_n hx hb dX1_standAt_74 rfl (lv_at hl 1 rfl) ?_
    refine lv_iload hx hb dX1_standAt_75 (lv_at hl 2 rfl) ?_
    obtain ⟨ca, hf⟩ := m_chkE hf
    replace ca := z_in hM (by decide) ca
    obtain ⟨cd, hf⟩ := m_chkE hf
    refine z_iald X hM ca cd dX1_standAt_77 ?_
    clear ca cd
    obtain ⟨v1, ev, hf⟩ := m_bndE hf
    refine m_top ev ?_
    clear ev
    obtain ⟨ca, hf⟩ := m_chkE hf
    replace ca := z_in hM (by decide) ca
    obtain ⟨o2, ho, hf⟩ := m_calE hf
    refine z_callVv (k := 0) (C := RX0) (T := TX0) (N := 7) (fl := zf_0) X hM rfl zc_0 ca (c_X0_play ho) gX1_standAt_X0_play rfl ⟨rfl, rfl⟩ hd_X0_play ⟨Nat.le_of_ble_eq_true rfl, Nat.le_of_ble_eq_true rfl⟩ rfl hl.1 rfl (Nat.le_of_ble_eq_true rfl) dX1_standAt_78 (fun H locs hM => ?_)
    clear ho
    obtain ⟨v3, ev, hf⟩ := m_bndE hf
    refine lv_iinc (v := v3) (lv' := [(5, .int v3), (2, .ref (zh y x2)), (3, .ref (zh y x3))]) hx hb dX1_standAt_81 hl (k := 2) rfl (by rw [ev]; rfl) (by decide) rfl (fun ls hl => ?_)
    clear ev
    refine lv_goto (tgt := 68) hx hb dX1_standAt_84 (by decide) ?_
    exact hself68 x2 x3 v3 _ _ _ _ hf hM (lv_sub hl [1, 2, 0] rfl)
def f_X1_standAt_68 : Nat → Nat → Nat → Int32 → ZS → Option (Int32 × ZS)
  | 0 => fun _ _ _ _ => none
  | n + 1 => f_X1_standAt_68s (f_X1_standAt_68 n)
theorem w_X1_standAt_68 {p : Program} {l : Launch} {e : Env} {s : State} {m : MethodId} {args : Array Value} {below : List Frame} {meth : Method} {c : Code} {Q : State → Prop} {D : va_G} {y : Nat → ClassId} {A0 : Nat → Prop} {o : Int32 × ZS} (X : CallFix p m c cX1_standAt 6 s args wsX1_standAt RX1) (hret : zRv p l e ({ frames := 2, cells := 0, slots := 0, locals := 81 } : Room) s m args below meth c Q cX1_standAt D y A0 o) (n : Nat) : ∀ (x2 : Nat) (x3 : Nat) (x5 : Int32) (S : ZS) (H : Heap) (locs : List Loc) (ls : Array Slot), f_X1_standAt_68 n x2 x3 x5 S = some o → zH D y A0 s H locs S → lv_has ls 6 [(2, .ref (zh y x2)), (3, .ref (zh y x3)), (5, .int x5)] → W p l e ({ frames := 2, cells := 0, slots := 0, locals := 81 } : Room) s m args below meth c H locs 0 0 Q (F0 m 68 ls []) := by
  induction n with
  | zero => intro x2 x3 x5 S H locs ls hf; cases hf
  | succ n ih => intro x2 x3 x5 S H locs ls hf hM hl; exact ws_X1_standAt_68 X hret (self68 := f_X1_standAt_68 n) ih hf hM hl
def f_X1_standAt_54 (x0 : Nat) (x2 : Nat) (x3 : Nat) (x4 : Int32) (S : ZS) : Option (Int32 × ZS) :=
  m_chk (zK S x0 = 1) (
  m_cal (zP S 0 x0) (fun b1 =>
  m_chk (zK S x2 = 0) (
  m_cal (f_X0_copyFrom x2 b1 S) (fun o2 =>
  m_bnd (x4 - (1 : Int32)) (fun v3 =>
  f_X1_standAt_68 mFuel x2 x3 v3 o2.2)))))

set_option maxRecDepth 100000 in
set_option maxHeartbeats 4000000 in
theorem w_X1_standAt_54 {p : Program} {l : Launch} {e : Env} {s : State} {m : MethodId} {args : Array Value} {below : List Frame} {meth : Method} {c : Code} {Q : State → Prop} {D : va_G} {y : Nat → ClassId} {A0 : Nat → Prop} {o : Int32 × ZS} (X : CallFix p m c cX1_standAt 6 s args wsX1_standAt RX1) (hret : zRv p l e ({ frames := 2, cells := 0, slots := 0, locals := 81 } : Room) s m args below meth c Q cX1_standAt D y A0 o) {x0 : Nat} {x2 : Nat} {x3 : Nat} {x4 : Int32} {S : ZS} {H : Heap} {locs : List Loc} {ls : Array Slot} (hf : f_X1_standAt_54 x0 x2 x3 x4 S = some o) (hM : zH D y A0 s H locs S) (hl : lv_has ls 6 [(0, .ref (zh y x0)), (2, .ref (zh y x2)), (3, .ref (zh y x3)), (4, .int x4)]) : W p l e ({ frames := 2, cells := 0, slots := 0, locals := 81 } : Room) s m args below meth c H locs 0 0 Q (F0 m 54 ls []) := by
  obtain ⟨hx, hb, hml, hown, hts⟩ := id X
  unfold f_X1_standAt_54 at hf
  refine lv_aload_n hx hb dX1_standAt_54 rfl (lv_at hl 1 rfl) ?_
  refine lv_aload_n hx hb dX1_standAt_55 rfl (lv_at hl 0 rfl) ?_
  obtain ⟨ca, hf⟩ := m_chkE hf
  replace ca := z_in hM (by decide) ca
  refine z_get (k := 1) (j := 0) (C := RX1) (T := TX1) (N := 8) (fl := zf_1) (v := va_rf ((zP S 0 x0).map (zh y))) X hw_X1_standAt_1 hM rfl zc_1 ca (by decide) fl_X1_standAt_1_0 rfl dX1_standAt_56 ?_
  clear ca
  obtain ⟨b1, hb9, hf⟩ := m_calE hf
  refine z_topr hb9 ?_
  clear hb9
  obtain ⟨ca, hf⟩ := m_chkE hf
  replace ca := z_in hM (by decide) ca
  obtain ⟨o2, ho, hf⟩ := m_calE hf
  refine z_callVv (k := 0) (C := RX0) (T := TX0) (N := 7) (fl := zf_0) X hM rfl zc_0 ca (c_X0_copyFrom ho) gX1_standAt_X0_copyFrom rfl ⟨rfl, rfl⟩ hd_X0_copyFrom ⟨Nat.le_of_ble_eq_true rfl, Nat.le_of_ble_eq_true rfl⟩ rfl hl.1 rfl (Nat.le_of_ble_eq_true rfl) dX1_standAt_59 (fun H locs hM => ?_)
  clear ho
  refine lv_iload hx hb dX1_standAt_62 (lv_at hl 3 rfl) ?_
  refine lv_iconst (v := (1 : Int32)) hx hb dX1_standAt_64 (by decide) ?_
  refine lv_isub hx hb dX1_standAt_65 ?_
  obtain ⟨v3, ev, hf⟩ := m_bndE hf
  refine m_top ev ?_
  clear ev
  refine lv_istore (lv' := [(5, .int v3), (0, .ref (zh y x0)), (2, .ref (zh y x2)), (3, .ref (zh y x3)), (4, .int x4)]) hx hb dX1_standAt_66 hl (by decide) rfl (fun ls hl => ?_)
  exact w_X1_standAt_68 X hret _ x2 x3 v3 _ _ _ _ hf hM (lv_sub hl [2, 3, 0] rfl)
def f_X1_standAt_11s (self11 : Nat → Nat → Nat → Int32 → Int32 → ZS → Option (Int32 × ZS)) (x0 : Nat) (x2 : Nat) (x3 : Nat) (x4 : Int32) (x5 : Int32) (S : ZS) : Option (Int32 × ZS) :=
  m_if (x5 ≤ 0) (
  f_X1_standAt_54 x0 x2 x3 x4 S
  ) (
  m_if ((300 : Int32) ≤ x4) (
  f_X1_standAt_54 x0 x2 x3 x4 S
  ) (
  m_chk (zK S x0 = 1) (
  m_cal (f_X1_at x0 x5 S) (fun o1 =>
  m_chk (zK o1.2 o1.1 = 4) (
  m_chk (zK o1.2 x3 = 14) (
  m_chk (¬ (x4 < 0 ∨ zN o1.2 x3 ≤ (x4).toNatClampNeg)) (
  m_bnd (zsA o1.2 x3 (x4).toNatClampNeg (zI o1.2 1 o1.1)) (fun S2 =>
  m_bnd (x4 + (1 : Int32)) (fun v3 =>
  m_chk (zK S2 x0 = 1) (
  m_cal (f_X1_at x0 x5 S2) (fun o4 =>
  m_chk (zK o4.2 o4.1 = 4) (
  self11 x0 x2 x3 v3 (zI o4.2 0 o4.1) o4.2))))))))))
  )
  )

set_option maxRecDepth 100000 in
set_option maxHeartbeats 4000000 in
theorem ws_X1_standAt_11 {p : Program} {l : Launch} {e : Env} {s : State} {m : MethodId} {args : Array Value} {below : List Frame} {meth : Method} {c : Code} {Q : State → Prop} {D : va_G} {y : Nat → ClassId} {A0 : Nat → Prop} {o : Int32 × ZS} (X : CallFix p m c cX1_standAt 6 s args wsX1_standAt RX1) (hret : zRv p l e ({ frames := 2, cells := 0, slots := 0, locals := 81 } : Room) s m args below meth c Q cX1_standAt D y A0 o) {self11 : Nat → Nat → Nat → Int32 → Int32 → ZS → Option (Int32 × ZS)} (hself11 : ∀ (x0 : Nat) (x2 : Nat) (x3 : Nat) (x4 : Int32) (x5 : Int32) (S : ZS) (H : Heap) (locs : List Loc) (ls : Array Slot), self11 x0 x2 x3 x4 x5 S = some o → zH D y A0 s H locs S → lv_has ls 6 [(0, .ref (zh y x0)), (2, .ref (zh y x2)), (3, .ref (zh y x3)), (4, .int x4), (5, .int x5)] → W p l e ({ frames := 2, cells := 0, slots := 0, locals := 81 } : Room) s m args below meth c H locs 0 0 Q (F0 m 11 ls [])) {x0 : Nat} {x2 : Nat} {x3 : Nat} {x4 : Int32} {x5 : Int32} {S : ZS} {H : Heap} {locs : List Loc} {ls : Array Slot} (hf : f_X1_standAt_11s self11 x0 x2 x3 x4 x5 S = some o) (hM : zH D y A0 s H locs S) (hl : lv_has ls 6 [(0, .ref (zh y x0)), (2, .ref (zh y x2)), (3, .ref (zh y x3)), (4, .int x4), (5, .int x5)]) : W p l e ({ frames := 2, cells := 0, slots := 0, locals := 81 } : Room) s m args below meth c H locs 0 0 Q (F0 m 11 ls []) := by
  obtain ⟨hx, hb, hml, hown, hts⟩ := id X
  unfold f_X1_standAt_11s at hf
  refine lv_iload hx hb dX1_standAt_11 (lv_at hl 4 rfl) ?_
  refine lv_if_le (tgt := 54) hx hb dX1_standAt_13 (by decide) (fun cc1 => ?_) (fun cc1 => ?_)
  · replace hf := m_ifT hf cc1
    exact w_X1_standAt_54 (x0 := x0) (x2 := x2) (x3 := x3) (x4 := x4) X hret hf hM (lv_sub hl [0, 1, 2, 3] rfl)
  · replace hf := m_ifF hf cc1
    refine lv_iload hx hb dX1_standAt_16 (lv_at hl 3 rfl) ?_
    refine lv_sipush (v := (300 : Int32)) hx hb dX1_standAt_18 (by decide) ?_
    refine lv_icmp_ge (tgt := 54) hx hb dX1_standAt_21 (by decide) (fun cc1 => ?_) (fun cc1 => ?_)
    · replace hf := m_ifT hf cc1
      exact w_X1_standAt_54 (x0 := x0) (x2 := x2) (x3 := x3) (x4 := x4) X hret hf hM (lv_sub hl [0, 1, 2, 3] rfl)
    · replace hf := m_ifF hf cc1
      refine lv_aload_n hx hb dX1_standAt_24 rfl (lv_at hl 2 rfl) ?_
      refine lv_iload hx hb dX1_standAt_25 (lv_at hl 3 rfl) ?_
      refine lv_aload_n hx hb dX1_standAt_27 rfl (lv_at hl 0 rfl) ?_
      refine lv_iload hx hb dX1_standAt_28 (lv_at hl 4 rfl) ?_
      obtain ⟨ca, hf⟩ := m_chkE hf
      replace ca := z_in hM (by decide) ca
      obtain ⟨o1, ho, hf⟩ := m_calE hf
      refine z_callVr (k := 1) (C := RX1) (T := TX1) (N := 8) (fl := zf_1) X hM rfl zc_1 ca (c_X1_at ho) gX1_standAt_X1_at rfl ⟨rfl, rfl⟩ hd_X1_at ⟨Nat.le_of_ble_eq_true rfl, Nat.le_of_ble_eq_true rfl⟩ rfl hl.1 rfl (Nat.le_of_ble_eq_true rfl) dX1_standAt_30 (fun H locs hM => ?_)
      clear ho
      obtain ⟨ca, hf⟩ := m_chkE hf
      replace ca := z_in hM (by decide) ca
      refine z_get (k := 4) (j := 1) (C := RX4) (T := TX4) (N := 7) (fl := zf_4) (v := .int (zI o1.2 1 o1.1)) X hw_X1_standAt_4 hM rfl zc_4 ca (by decide) fl_X1_standAt_4_1 rfl dX1_standAt_33 ?_
      clear ca
      obtain ⟨ca, hf⟩ := m_chkE hf
      replace ca := z_in hM (by decide) ca
      obtain ⟨cd, hf⟩ := m_chkE hf
      refine z_iast X hM ca cd dX1_standAt_36 (fun H locs hM => ?_)
      clear ca cd
      obtain ⟨S2, ev, hf⟩ := m_bndE hf
      replace hM := z_hS hM ev
      clear ev
      obtain ⟨v3, ev, hf⟩ := m_bndE hf
      refine lv_iinc (v := v3) (lv' := [(4, .int v3), (0, .ref (zh y x0)), (2, .ref (zh y x2)), (3, .ref (zh y x3)), (5, .int x5)]) hx hb dX1_standAt_37 hl (k := 3) rfl (by rw [ev]; rfl) (by decide) rfl (fun ls hl => ?_)
      clear ev
      refine lv_aload_n hx hb dX1_standAt_40 rfl (lv_at hl 1 rfl) ?_
      refine lv_iload hx hb dX1_standAt_41 (lv_at hl 4 rfl) ?_
      obtain ⟨ca, hf⟩ := m_chkE hf
      replace ca := z_in hM (by decide) ca
      obtain ⟨o4, ho, hf⟩ := m_calE hf
      refine z_callVr (k := 1) (C := RX1) (T := TX1) (N := 8) (fl := zf_1) X hM rfl zc_1 ca (c_X1_at ho) gX1_standAt_X1_at rfl ⟨rfl, rfl⟩ hd_X1_at ⟨Nat.le_of_ble_eq_true rfl, Nat.le_of_ble_eq_true rfl⟩ rfl hl.1 rfl (Nat.le_of_ble_eq_true rfl) dX1_standAt_43 (fun H locs hM => ?_)
      clear ho
      obtain ⟨ca, hf⟩ := m_chkE hf
      replace ca := z_in hM (by decide) ca
      refine z_get (k := 4) (j := 0) (C := RX4) (T := TX4) (N := 7) (fl := zf_4) (v := .int (zI o4.2 0 o4.1)) X hw_X1_standAt_4 hM rfl zc_4 ca (by decide) fl_X1_standAt_4_0 rfl dX1_standAt_46 ?_
      clear ca
      refine lv_istore (lv' := [(5, .int (zI o4.2 0 o4.1)), (4, .int v3), (0, .ref (zh y x0)), (2, .ref (zh y x2)), (3, .ref (zh y x3))]) hx hb dX1_standAt_49 hl (by decide) rfl (fun ls hl => ?_)
      refine lv_goto (tgt := 11) hx hb dX1_standAt_51 (by decide) ?_
      exact hself11 x0 x2 x3 v3 (zI o4.2 0 o4.1) _ _ _ _ hf hM (lv_sub hl [2, 3, 4, 1, 0] rfl)
def f_X1_standAt_11 : Nat → Nat → Nat → Nat → Int32 → Int32 → ZS → Option (Int32 × ZS)
  | 0 => fun _ _ _ _ _ _ => none
  | n + 1 => f_X1_standAt_11s (f_X1_standAt_11 n)
theorem w_X1_standAt_11 {p : Program} {l : Launch} {e : Env} {s : State} {m : MethodId} {args : Array Value} {below : List Frame} {meth : Method} {c : Code} {Q : State → Prop} {D : va_G} {y : Nat → ClassId} {A0 : Nat → Prop} {o : Int32 × ZS} (X : CallFix p m c cX1_standAt 6 s args wsX1_standAt RX1) (hret : zRv p l e ({ frames := 2, cells := 0, slots := 0, locals := 81 } : Room) s m args below meth c Q cX1_standAt D y A0 o) (n : Nat) : ∀ (x0 : Nat) (x2 : Nat) (x3 : Nat) (x4 : Int32) (x5 : Int32) (S : ZS) (H : Heap) (locs : List Loc) (ls : Array Slot), f_X1_standAt_11 n x0 x2 x3 x4 x5 S = some o → zH D y A0 s H locs S → lv_has ls 6 [(0, .ref (zh y x0)), (2, .ref (zh y x2)), (3, .ref (zh y x3)), (4, .int x4), (5, .int x5)] → W p l e ({ frames := 2, cells := 0, slots := 0, locals := 81 } : Room) s m args below meth c H locs 0 0 Q (F0 m 11 ls []) := by
  induction n with
  | zero => intro x0 x2 x3 x4 x5 S H locs ls hf; cases hf
  | succ n ih => intro x0 x2 x3 x4 x5 S H locs ls hf hM hl; exact ws_X1_standAt_11 X hret (self11 := f_X1_standAt_11 n) ih hf hM hl
def f_X1_standAt_0 (x0 : Nat) (x1 : Int32) (x2 : Nat) (S : ZS) : Option (Int32 × ZS) :=
  m_chk (zK S x0 = 1) (
  m_cal (zP S 7 x0) (fun b1 =>
  f_X1_standAt_11 mFuel x0 x2 b1 (0 : Int32) x1 S))

set_option maxRecDepth 100000 in
set_option maxHeartbeats 4000000 in
theorem w_X1_standAt_0 {p : Program} {l : Launch} {e : Env} {s : State} {m : MethodId} {args : Array Value} {below : List Frame} {meth : Method} {c : Code} {Q : State → Prop} {D : va_G} {y : Nat → ClassId} {A0 : Nat → Prop} {o : Int32 × ZS} (X : CallFix p m c cX1_standAt 6 s args wsX1_standAt RX1) (hret : zRv p l e ({ frames := 2, cells := 0, slots := 0, locals := 81 } : Room) s m args below meth c Q cX1_standAt D y A0 o) {x0 : Nat} {x1 : Int32} {x2 : Nat} {S : ZS} {H : Heap} {locs : List Loc} {ls : Array Slot} (hf : f_X1_standAt_0 x0 x1 x2 S = some o) (hM : zH D y A0 s H locs S) (hl : lv_has ls 6 [(0, .ref (zh y x0)), (1, .int x1), (2, .ref (zh y x2))]) : W p l e ({ frames := 2, cells := 0, slots := 0, locals := 81 } : Room) s m args below meth c H locs 0 0 Q (F0 m 0 ls []) := by
  obtain ⟨hx, hb, hml, hown, hts⟩ := id X
  unfold f_X1_standAt_0 at hf
  refine lv_aload_n hx hb dX1_standAt_0 rfl (lv_at hl 0 rfl) ?_
  obtain ⟨ca, hf⟩ := m_chkE hf
  replace ca := z_in hM (by decide) ca
  refine z_get (k := 1) (j := 7) (C := RX1) (T := TX1) (N := 8) (fl := zf_1) (v := va_rf ((zP S 7 x0).map (zh y))) X hw_X1_standAt_1 hM rfl zc_1 ca (by decide) fl_X1_standAt_1_7 rfl dX1_standAt_1 ?_
  clear ca
  obtain ⟨b1, hb9, hf⟩ := m_calE hf
  refine z_topr hb9 ?_
  clear hb9
  refine lv_astore_n (lv' := [(3, .ref (zh y b1)), (0, .ref (zh y x0)), (1, .int x1), (2, .ref (zh y x2))]) hx hb dX1_standAt_4 rfl hl (by decide) rfl (fun ls hl => ?_)
  refine lv_iconst (v := (0 : Int32)) hx hb dX1_standAt_5 (by decide) ?_
  refine lv_istore (lv' := [(4, .int (0 : Int32)), (3, .ref (zh y b1)), (0, .ref (zh y x0)), (1, .int x1), (2, .ref (zh y x2))]) hx hb dX1_standAt_6 hl (by decide) rfl (fun ls hl => ?_)
  refine lv_iload_n hx hb dX1_standAt_8 rfl (lv_at hl 3 rfl) ?_
  refine lv_istore (lv' := [(5, .int x1), (4, .int (0 : Int32)), (3, .ref (zh y b1)), (0, .ref (zh y x0)), (1, .int x1), (2, .ref (zh y x2))]) hx hb dX1_standAt_9 hl (by decide) rfl (fun ls hl => ?_)
  exact w_X1_standAt_11 X hret _ x0 x2 b1 (0 : Int32) x1 _ _ _ _ hf hM (lv_sub hl [3, 5, 2, 1, 0] rfl)
def f_X1_standAt (x0 : Nat) (x1 : Int32) (x2 : Nat) (S : ZS) : Option (Int32 × ZS) := f_X1_standAt_0 x0 x1 x2 S
theorem c_X1_standAt {l : Launch} {D : va_G} {y : Nat → ClassId} {x0 : Nat} {x1 : Int32} {x2 : Nat} {S : ZS} {o : Int32 × ZS} (hf : f_X1_standAt x0 x1 x2 S = some o) : zMv l yX1_standAt wsX1_standAt ({ frames := 2, cells := 0, slots := 0, locals := 81 } : Room) [.ref (zh y x0), .int x1, .ref (zh y x2)] D y S o :=
  z_entryV (own := RX1) (cc := cX1_standAt) (maxL := 6) (by decide) rfl rfl (Nat.le_of_ble_eq_true rfl) (fun p e s m args below meth c A0 Q H locs ls X hret hM hl => w_X1_standAt_0 X hret hf hM (lv_sub hl [0, 1, 2] rfl))
theorem hd_X10_init : yX10_init.cls = RX10 ∧ yX10_init.cls ≠ "java/lang/invoke/MethodHandle" ∧ yX10_init.cls ≠ "java/lang/invoke/VarHandle" ∧ (parseMethodDescriptor yX10_init.desc).map (fun d => d.parameters.length) = some 0 := by decide +kernel
theorem fl_X10_init_10_0 : Cond.fieldLink RX10 10 "MoveTexts$Tag" "name" "LMoveTexts$Row;" ∈ wsX10_init := by decide +kernel
theorem fl_X10_init_10_1 : Cond.fieldLink RX10 16 "MoveTexts$Tag" "value" "LMoveTexts$Row;" ∈ wsX10_init := by decide +kernel
theorem hw_X10_init_10 : ∀ w ∈ wsX100, w ∈ wsX10_init := by decide +kernel
theorem hw_X10_init_6 : ∀ w ∈ wsX60, w ∈ wsX10_init := by decide +kernel
theorem ii_X10_init_9 : (RX10, 9, yX6_init, "MoveTexts") ∈ zNW ∧ Cond.initialized yX6_init.cls ∈ wsX10_init ∧ Cond.instanceMethod yX6_init ∈ wsX10_init := by decide +kernel
theorem nw_X10_init_7 : Cond.classLink RX10 7 RX6 ∈ wsX10_init ∧ Cond.instantiable RX6 2 ∈ wsX10_init ∧ Cond.initialized RX6 ∈ wsX10_init := by decide +kernel
theorem ob_X10_init : (Cond.methodLink RX10 1 objectInit ∈ wsX10_init ∧ Cond.instanceMethod objectInit ∈ wsX10_init) ∧ Cond.code objectInit ⟨#[0xb1]⟩ 1 none ∈ wsX10_init := by decide +kernel
def g_X10_init_0 (Pw : Int32 → ZS → Prop) (x0 : Nat) (S : ZS) (C T : Nat) : Prop :=
  m_newP (C) (T) 2 (zt S) (fun q1 C3 T4 =>
  m_bndP (zsNewO S q1 6 2) (fun S2 =>
  m_calP (f_X6_init q1 S2) (fun o5 =>
  m_chkQ (zK o5.2 x0 = 10) (
  m_bndP (zsP o5.2 0 x0 (some q1)) (fun S6 =>
  m_newP (C3) (T4) 2 (zt S6) (fun q7 C9 T10 =>
  m_bndP (zsNewO S6 q7 6 2) (fun S8 =>
  m_calP (f_X6_init q7 S8) (fun o11 =>
  m_chkQ (zK o11.2 x0 = 10) (
  m_bndP (zsP o11.2 1 x0 (some q7)) (fun S12 =>
  Pw 0 S12))))))))))

set_option maxRecDepth 100000 in
set_option maxHeartbeats 4000000 in
theorem w_X10_init_0 {p : Program} {l : Launch} {e : Env} {s : State} {m : MethodId} {args : Array Value} {below : List Frame} {meth : Method} {c : Code} {Q : State → Prop} {D : va_G} {y : Nat → ClassId} {A0 : Nat → Prop} {kc kt : Nat} {Pw : Int32 → ZS → Prop} (X : CallFix p m c cX10_init 1 s args wsX10_init RX10) (hin : meth.name = "<init>") (hret : zQv p l e ({ frames := 2, cells := kc, slots := kt, locals := 44 } : Room) s m args below meth c Q cX10_init D y A0 Pw) {x0 : Nat} {S : ZS} {C T : Nat} {H : Heap} {locs : List Loc} {ls : Array Slot} (hf : g_X10_init_0 Pw x0 S C T) (hCT : C ≤ kc ∧ T ≤ kt) (hM : zH D y A0 s H locs S) (hl : lv_has ls 1 [(0, .ref (zh y x0))]) : W p l e ({ frames := 2, cells := kc, slots := kt, locals := 44 } : Room) s m args below meth c H locs (kc - C) (kt - T) Q (F0 m 0 ls []) := by
  obtain ⟨hx, hb, hml, hown, hts⟩ := id X
  unfold g_X10_init_0 at hf
  refine lv_aload_n hx hb dX10_init_0 rfl (lv_at hl 0 rfl) ?_
  refine z_obj X (by rw [hml]; exact hl.1.symm) ob_X10_init.1 ob_X10_init.2 (Nat.le_of_ble_eq_true rfl) (Nat.le_of_ble_eq_true rfl) dX10_init_1 ?_
  refine lv_aload_n hx hb dX10_init_4 rfl (lv_at hl 0 rfl) ?_
  obtain ⟨hcm, ho⟩ := hf
  refine z_newO (k := 6) (C := RX6) (T := TX6) (N := 2) (fl := zf_6) X hw_X10_init_6 tyX6_ok hM rfl zc_6 nw_X10_init_7 zd_6 ⟨by show kc - (C) + 1 ≤ kc; omega, by show kt - (T) + 2 ≤ kt; omega⟩ dX10_init_5 (fun q1 H hq hM => ?_)
  replace hf := ho q1 hq
  refine z_eqCS (c2 := kc - (C - 1)) (t2 := kt - (T - 2)) (by omega) (by omega) ?_
  replace hCT : C - 1 ≤ kc ∧ T - 2 ≤ kt := by omega
  generalize C - 1 = C3 at hf hCT ⊢
  generalize T - 2 = T4 at hf hCT ⊢
  obtain ⟨S2, ev, hf⟩ := m_bndPE hf
  replace hM := z_hS hM ev
  clear ev ho hcm hq
  refine lv_dup hx hb dX10_init_8 rfl ?_
  obtain ⟨o5, ho, hf⟩ := m_calPE hf
  refine z_gcallINv X hM (c_X6_init ho) gX10_init_X6_init_n9 ii_X10_init_9.1 ii_X10_init_9.2.1 ii_X10_init_9.2.2 rfl rfl ⟨rfl, rfl⟩ hd_X6_init.2 ⟨Nat.le_of_ble_eq_true rfl, Nat.le_of_ble_eq_true rfl⟩ rfl hl.1 rfl ⟨Nat.sub_le _ _, Nat.sub_le _ _⟩ (Nat.le_of_ble_eq_true rfl) dX10_init_9 (fun H locs hM => ?_)
  clear ho
  obtain ⟨ca, hf⟩ := m_chkPE hf
  replace ca := z_in hM (by decide) ca
  refine z_putPF (k := 10) (j := 0) (C := RX10) (T := TX10) (N := 2) (fl := zf_10) (ty := tyX10 0) X hw_X10_init_10 tyX10_ok nmX10 hM rfl zc_10 ca (by decide) fl_X10_init_10_0 rfl hin rfl (tyX10_ok 0 (by decide)) rfl rfl zp_10_0 (Nat.le_of_ble_eq_true rfl) dX10_init_12 (fun H locs hM => ?_)
  clear ca
  obtain ⟨S6, ev, hf⟩ := m_bndPE hf
  replace hM := z_hS hM ev
  clear ev
  refine lv_aload_n hx hb dX10_init_15 rfl (lv_at hl 0 rfl) ?_
  obtain ⟨hcm, ho⟩ := hf
  refine z_newO (k := 6) (C := RX6) (T := TX6) (N := 2) (fl := zf_6) X hw_X10_init_6 tyX6_ok hM rfl zc_6 nw_X10_init_7 zd_6 ⟨by show kc - (C3) + 1 ≤ kc; omega, by show kt - (T4) + 2 ≤ kt; omega⟩ dX10_init_16 (fun q7 H hq hM => ?_)
  replace hf := ho q7 hq
  refine z_eqCS (c2 := kc - (C3 - 1)) (t2 := kt - (T4 - 2)) (by omega) (by omega) ?_
  replace hCT : C3 - 1 ≤ kc ∧ T4 - 2 ≤ kt := by omega
  generalize C3 - 1 = C9 at hf hCT ⊢
  generalize T4 - 2 = T10 at hf hCT ⊢
  obtain ⟨S8, ev, hf⟩ := m_bndPE hf
  replace hM := z_hS hM ev
  clear ev ho hcm hq
  refine lv_dup hx hb dX10_init_19 rfl ?_
  obtain ⟨o11, ho, hf⟩ := m_calPE hf
  refine z_gcallINv X hM (c_X6_init ho) gX10_init_X6_init_n9 ii_X10_init_9.1 ii_X10_init_9.2.1 ii_X10_init_9.2.2 rfl rfl ⟨rfl, rfl⟩ hd_X6_init.2 ⟨Nat.le_of_ble_eq_true rfl, Nat.le_of_ble_eq_true rfl⟩ rfl hl.1 rfl ⟨Nat.sub_le _ _, Nat.sub_le _ _⟩ (Nat.le_of_ble_eq_true rfl) dX10_init_20 (fun H locs hM => ?_)
  clear ho
  obtain ⟨ca, hf⟩ := m_chkPE hf
  replace ca := z_in hM (by decide) ca
  refine z_putPF (k := 10) (j := 1) (C := RX10) (T := TX10) (N := 2) (fl := zf_10) (ty := tyX10 1) X hw_X10_init_10 tyX10_ok nmX10 hM rfl zc_10 ca (by decide) fl_X10_init_10_1 rfl hin rfl (tyX10_ok 1 (by decide)) rfl rfl zp_10_1 (Nat.le_of_ble_eq_true rfl) dX10_init_23 (fun H locs hM => ?_)
  clear ca
  obtain ⟨S12, ev, hf⟩ := m_bndPE hf
  replace hM := z_hS hM ev
  clear ev
  exact hret _ _ _ H locs _ ls hf hM dX10_init_26
def g_X10_init (x0 : Nat) (S : ZS) (mc ms : Nat) (Pw : Int32 → ZS → Prop) : Prop := g_X10_init_0 Pw x0 S mc ms
theorem c_X10_init {l : Launch} {D : va_G} {y : Nat → ClassId} {x0 : Nat} {S : ZS} {kc kt : Nat} {Pw : Int32 → ZS → Prop} (hf : g_X10_init x0 S kc kt Pw) : zWv l yX10_init wsX10_init ({ frames := 2, cells := kc, slots := kt, locals := 44 } : Room) [.ref (zh y x0)] D y S kc kt Pw :=
  z_wentC (own := RX10) (cc := cX10_init) (maxL := 1) (by decide) rfl rfl (Nat.le_of_ble_eq_true rfl) ⟨rfl, rfl⟩ rfl (fun p e s m args below meth c A0 Q H locs ls X hin hret hM hl => w_X10_init_0 X hin hret hf ⟨Nat.le_refl _, Nat.le_refl _⟩ hM (lv_sub hl [0] rfl))
theorem hd_X1_tagAt : yX1_tagAt.cls = RX1 ∧ yX1_tagAt.cls ≠ "java/lang/invoke/MethodHandle" ∧ yX1_tagAt.cls ≠ "java/lang/invoke/VarHandle" ∧ (parseMethodDescriptor yX1_tagAt.desc).map (fun d => d.parameters.length) = some 1 := by decide +kernel
theorem fl_X1_tagAt_1_4 : Cond.fieldLink RX1 35 "MoveTexts$Game" "tagRow" "[LMoveTexts$Tag;" ∈ wsX1_tagAt := by decide +kernel
theorem fl_X1_tagAt_1_5 : Cond.fieldLink RX1 39 "MoveTexts$Game" "tagCount" "I" ∈ wsX1_tagAt := by decide +kernel
theorem hw_X1_tagAt_1 : ∀ w ∈ wsX10, w ∈ wsX1_tagAt := by decide +kernel
theorem hw_X1_tagAt_10 : ∀ w ∈ wsX100, w ∈ wsX1_tagAt := by decide +kernel
theorem ii_X1_tagAt_84 : (RX1, 84, yX10_init, "MoveTexts") ∈ zNW ∧ Cond.initialized yX10_init.cls ∈ wsX1_tagAt ∧ Cond.instanceMethod yX10_init ∈ wsX1_tagAt := by decide +kernel
theorem nw_X1_tagAt_33 : Cond.classLink RX1 33 RX10 ∈ wsX1_tagAt ∧ Cond.instantiable RX10 2 ∈ wsX1_tagAt ∧ Cond.initialized RX10 ∈ wsX1_tagAt := by decide +kernel
def g_X1_tagAt_38 (Pw : Nat → ZS → Prop) (t0 : Option Nat) (S : ZS) (C T : Nat) : Prop :=
  m_calP t0 (fun b1 => Pw b1 S)

set_option maxRecDepth 100000 in
set_option maxHeartbeats 4000000 in
theorem w_X1_tagAt_38 {p : Program} {l : Launch} {e : Env} {s : State} {m : MethodId} {args : Array Value} {below : List Frame} {meth : Method} {c : Code} {Q : State → Prop} {D : va_G} {y : Nat → ClassId} {A0 : Nat → Prop} {kc kt : Nat} {Pw : Nat → ZS → Prop} (X : CallFix p m c cX1_tagAt 3 s args wsX1_tagAt RX1) (hret : zQr p l e ({ frames := 3, cells := kc, slots := kt, locals := 64 } : Room) s m args below meth c Q cX1_tagAt D y A0 Pw) {t0 : Option Nat} {S : ZS} {C T : Nat} {H : Heap} {locs : List Loc} {ls : Array Slot} (hf : g_X1_tagAt_38 Pw t0 S C T) (hCT : C ≤ kc ∧ T ≤ kt) (hM : zH D y A0 s H locs S) (hl : lv_has ls 3 []) : W p l e ({ frames := 3, cells := kc, slots := kt, locals := 64 } : Room) s m args below meth c H locs (kc - C) (kt - T) Q (F0 m 38 ls [va_rf ((t0).map (zh y))]) := by
  obtain ⟨hx, hb, hml, hown, hts⟩ := id X
  unfold g_X1_tagAt_38 at hf
  obtain ⟨b1, hb9, hf⟩ := m_calPE hf
  refine z_topr hb9 ?_
  exact hret _ _ _ _ H locs _ ls hf hM dX1_tagAt_38
def g_X1_tagAt_22 (Pw : Nat → ZS → Prop) (t0 : Option Nat) (S : ZS) (C T : Nat) : Prop :=
  m_optP t0 (
  m_newP (C) (T) 2 (zt S) (fun q2 C4 T5 =>
  m_bndP (zsNewO S q2 10 2) (fun S3 =>
  m_gal (C4) (T5) (fun mc ms Pw => g_X10_init q2 S3 mc ms Pw) (fun r7 S8 C9 T10 =>
  g_X1_tagAt_38 Pw (some q2) S8 (C9) (T10))))
  ) (fun b1 =>
  g_X1_tagAt_38 Pw (some b1) S (C) (T)
  )

set_option maxRecDepth 100000 in
set_option maxHeartbeats 4000000 in
theorem w_X1_tagAt_22 {p : Program} {l : Launch} {e : Env} {s : State} {m : MethodId} {args : Array Value} {below : List Frame} {meth : Method} {c : Code} {Q : State → Prop} {D : va_G} {y : Nat → ClassId} {A0 : Nat → Prop} {kc kt : Nat} {Pw : Nat → ZS → Prop} (X : CallFix p m c cX1_tagAt 3 s args wsX1_tagAt RX1) (hret : zQr p l e ({ frames := 3, cells := kc, slots := kt, locals := 64 } : Room) s m args below meth c Q cX1_tagAt D y A0 Pw) {t0 : Option Nat} {S : ZS} {C T : Nat} {H : Heap} {locs : List Loc} {ls : Array Slot} (hf : g_X1_tagAt_22 Pw t0 S C T) (hCT : C ≤ kc ∧ T ≤ kt) (hM : zH D y A0 s H locs S) (hl : lv_has ls 3 []) : W p l e ({ frames := 3, cells := kc, slots := kt, locals := 64 } : Room) s m args below meth c H locs (kc - C) (kt - T) Q (F0 m 22 ls [va_rf ((t0).map (zh y))]) := by
  obtain ⟨hx, hb, hml, hown, hts⟩ := id X
  unfold g_X1_tagAt_22 at hf
  cases t0 with
  | none =>
    replace hf := m_optPN hf
    refine lv_astore_nN (lv' := [(2, .null)]) hx hb dX1_tagAt_22 rfl hl (by decide) rfl (fun ls hl => ?_)
    refine lv_aload_nN hx hb dX1_tagAt_23 rfl (lv_at hl 0 rfl) ?_
    refine lv_ifnullN (tgt := 31) hx hb dX1_tagAt_24 (by decide) ?_
    obtain ⟨hcm, ho⟩ := hf
    refine z_newO (k := 10) (C := RX10) (T := TX10) (N := 2) (fl := zf_10) X hw_X1_tagAt_10 tyX10_ok hM rfl zc_10 nw_X1_tagAt_33 zd_10 ⟨by show kc - (C) + 1 ≤ kc; omega, by show kt - (T) + 2 ≤ kt; omega⟩ dX1_tagAt_31 (fun q2 H hq hM => ?_)
    replace hf := ho q2 hq
    refine z_eqCS (c2 := kc - (C - 1)) (t2 := kt - (T - 2)) (by omega) (by omega) ?_
    replace hCT : C - 1 ≤ kc ∧ T - 2 ≤ kt := by omega
    generalize C - 1 = C4 at hf hCT ⊢
    generalize T - 2 = T5 at hf hCT ⊢
    obtain ⟨S3, ev, hf⟩ := m_bndPE hf
    replace hM := z_hS hM ev
    clear ev ho hcm hq
    refine lv_dup hx hb dX1_tagAt_34 rfl ?_
    obtain ⟨mc, ms, hcm, ho⟩ := m_galE hf
    refine z_wcallINv X hM (c_X10_init ho) gX1_tagAt_X10_init_n84 ii_X1_tagAt_84.1 ii_X1_tagAt_84.2.1 ii_X1_tagAt_84.2.2 rfl rfl ⟨rfl, rfl⟩ ⟨by show kc - (C4) + mc ≤ kc; omega, by show kt - (T5) + ms ≤ kt; omega⟩ hd_X10_init.2 ⟨Nat.le_of_ble_eq_true rfl, Nat.le_of_ble_eq_true rfl⟩ rfl hl.1 rfl (Nat.le_of_ble_eq_true rfl) dX1_tagAt_35 (fun S8 H locs hf hM => ?_)
    refine z_eqCS (c2 := kc - (C4 - mc)) (t2 := kt - (T5 - ms)) (by omega) (by omega) ?_
    replace hCT : C4 - mc ≤ kc ∧ T5 - ms ≤ kt := by omega
    generalize C4 - mc = C9 at hf hCT ⊢
    generalize T5 - ms = T10 at hf hCT ⊢
    clear ho hcm
    exact w_X1_tagAt_38 (t0 := (some q2)) X hret hf hCT hM (lv_sub hl [] rfl)
  | some b1 =>
    replace hf := m_optPS hf
    refine lv_astore_n (lv' := [(2, .ref (zh y b1))]) hx hb dX1_tagAt_22 rfl hl (by decide) rfl (fun ls hl => ?_)
    refine lv_aload_n hx hb dX1_tagAt_23 rfl (lv_at hl 0 rfl) ?_
    refine lv_ifnull (x := (zh y b1)) hx hb dX1_tagAt_24 ?_
    refine lv_aload_n hx hb dX1_tagAt_27 rfl (lv_at hl 0 rfl) ?_
    refine lv_goto (tgt := 38) hx hb dX1_tagAt_28 (by decide) ?_
    exact w_X1_tagAt_38 (t0 := (some b1)) X hret hf hCT hM (lv_sub hl [] rfl)
def g_X1_tagAt_21 (Pw : Nat → ZS → Prop) (S : ZS) (C T : Nat) : Prop :=
  g_X1_tagAt_22 Pw none S (C) (T)

set_option maxRecDepth 100000 in
set_option maxHeartbeats 4000000 in
theorem w_X1_tagAt_21 {p : Program} {l : Launch} {e : Env} {s : State} {m : MethodId} {args : Array Value} {below : List Frame} {meth : Method} {c : Code} {Q : State → Prop} {D : va_G} {y : Nat → ClassId} {A0 : Nat → Prop} {kc kt : Nat} {Pw : Nat → ZS → Prop} (X : CallFix p m c cX1_tagAt 3 s args wsX1_tagAt RX1) (hret : zQr p l e ({ frames := 3, cells := kc, slots := kt, locals := 64 } : Room) s m args below meth c Q cX1_tagAt D y A0 Pw) {S : ZS} {C T : Nat} {H : Heap} {locs : List Loc} {ls : Array Slot} (hf : g_X1_tagAt_21 Pw  S C T) (hCT : C ≤ kc ∧ T ≤ kt) (hM : zH D y A0 s H locs S) (hl : lv_has ls 3 []) : W p l e ({ frames := 3, cells := kc, slots := kt, locals := 64 } : Room) s m args below meth c H locs (kc - C) (kt - T) Q (F0 m 21 ls []) := by
  obtain ⟨hx, hb, hml, hown, hts⟩ := id X
  unfold g_X1_tagAt_21 at hf
  refine lv_null hx hb dX1_tagAt_21 ?_
  exact w_X1_tagAt_22 (t0 := none) X hret hf hCT hM (lv_sub hl [] rfl)
def g_X1_tagAt_0 (Pw : Nat → ZS → Prop) (x0 : Nat) (x1 : Int32) (S : ZS) (C T : Nat) : Prop :=
  m_ifQ (x1 < 0) (
  g_X1_tagAt_21 Pw  S (C) (T)
  ) (
  m_chkQ (zK S x0 = 1) (
  m_ifQ ((zI S 5 x0) ≤ x1) (
  g_X1_tagAt_21 Pw  S (C) (T)
  ) (
  m_chkQ (zK S x0 = 1) (
  m_calP (zP S 4 x0) (fun b1 =>
  m_chkQ (zK S b1 = 17) (
  m_chkQ (¬ (x1 < 0 ∨ zN S b1 ≤ (x1).toNatClampNeg)) (
  m_bndP (zB S b1 (x1).toNatClampNeg) (fun v2 =>
  g_X1_tagAt_22 Pw v2 S (C) (T))))))
  ))
  )

set_option maxRecDepth 100000 in
set_option maxHeartbeats 4000000 in
theorem w_X1_tagAt_0 {p : Program} {l : Launch} {e : Env} {s : State} {m : MethodId} {args : Array Value} {below : List Frame} {meth : Method} {c : Code} {Q : State → Prop} {D : va_G} {y : Nat → ClassId} {A0 : Nat → Prop} {kc kt : Nat} {Pw : Nat → ZS → Prop} (X : CallFix p m c cX1_tagAt 3 s args wsX1_tagAt RX1) (hret : zQr p l e ({ frames := 3, cells := kc, slots := kt, locals := 64 } : Room) s m args below meth c Q cX1_tagAt D y A0 Pw) {x0 : Nat} {x1 : Int32} {S : ZS} {C T : Nat} {H : Heap} {locs : List Loc} {ls : Array Slot} (hf : g_X1_tagAt_0 Pw x0 x1 S C T) (hCT : C ≤ kc ∧ T ≤ kt) (hM : zH D y A0 s H locs S) (hl : lv_has ls 3 [(0, .ref (zh y x0)), (1, .int x1)]) : W p l e ({ frames := 3, cells := kc, slots := kt, locals := 64 } : Room) s m args below meth c H locs (kc - C) (kt - T) Q (F0 m 0 ls []) := by
  obtain ⟨hx, hb, hml, hown, hts⟩ := id X
  unfold g_X1_tagAt_0 at hf
  refine lv_iload_n hx hb dX1_tagAt_0 rfl (lv_at hl 1 rfl) ?_
  refine lv_if_lt (tgt := 21) hx hb dX1_tagAt_1 (by decide) (fun cc1 => ?_) (fun cc1 => ?_)
  · replace hf := m_ifPT hf cc1
    exact w_X1_tagAt_21 X hret hf hCT hM (lv_sub hl [] rfl)
  · replace hf := m_ifPF hf cc1
    refine lv_iload_n hx hb dX1_tagAt_4 rfl (lv_at hl 1 rfl) ?_
    refine lv_aload_n hx hb dX1_tagAt_5 rfl (lv_at hl 0 rfl) ?_
    obtain ⟨ca, hf⟩ := m_chkPE hf
    replace ca := z_in hM (by decide) ca
    refine z_get (k := 1) (j := 5) (C := RX1) (T := TX1) (N := 8) (fl := zf_1) (v := .int (zI S 5 x0)) X hw_X1_tagAt_1 hM rfl zc_1 ca (by decide) fl_X1_tagAt_1_5 rfl dX1_tagAt_6 ?_
    clear ca
    refine lv_icmp_ge (tgt := 21) hx hb dX1_tagAt_9 (by decide) (fun cc1 => ?_) (fun cc1 => ?_)
    · replace hf := m_ifPT hf cc1
      exact w_X1_tagAt_21 X hret hf hCT hM (lv_sub hl [] rfl)
    · replace hf := m_ifPF hf cc1
      refine lv_aload_n hx hb dX1_tagAt_12 rfl (lv_at hl 0 rfl) ?_
      obtain ⟨ca, hf⟩ := m_chkPE hf
      replace ca := z_in hM (by decide) ca
      refine z_get (k := 1) (j := 4) (C := RX1) (T := TX1) (N := 8) (fl := zf_1) (v := va_rf ((zP S 4 x0).map (zh y))) X hw_X1_tagAt_1 hM rfl zc_1 ca (by decide) fl_X1_tagAt_1_4 rfl dX1_tagAt_13 ?_
      clear ca
      obtain ⟨b1, hb9, hf⟩ := m_calPE hf
      refine z_topr hb9 ?_
      clear hb9
      refine lv_iload_n hx hb dX1_tagAt_16 rfl (lv_at hl 1 rfl) ?_
      obtain ⟨ca, hf⟩ := m_chkPE hf
      replace ca := z_in hM (by decide) ca
      obtain ⟨cd, hf⟩ := m_chkPE hf
      refine z_aald (k := 17) (t0 := 4) (C := "MoveTexts$Tag") X hM (fun _ _ _ _ _ => rfl) rfl ca cd dX1_tagAt_17 ?_
      clear ca cd
      obtain ⟨v2, ev, hf⟩ := m_bndPE hf
      refine z_topq ev ?_
      clear ev
      refine lv_goto (tgt := 22) hx hb dX1_tagAt_18 (by decide) ?_
      exact w_X1_tagAt_22 (t0 := v2) X hret hf hCT hM (lv_sub hl [] rfl)
def g_X1_tagAt (x0 : Nat) (x1 : Int32) (S : ZS) (mc ms : Nat) (Pw : Nat → ZS → Prop) : Prop := g_X1_tagAt_0 Pw x0 x1 S mc ms
theorem c_X1_tagAt {l : Launch} {D : va_G} {y : Nat → ClassId} {x0 : Nat} {x1 : Int32} {S : ZS} {kc kt : Nat} {Pw : Nat → ZS → Prop} (hf : g_X1_tagAt x0 x1 S kc kt Pw) : zWr l yX1_tagAt wsX1_tagAt ({ frames := 3, cells := kc, slots := kt, locals := 64 } : Room) [.ref (zh y x0), .int x1] D y S kc kt Pw :=
  z_wentR (rt := .object "MoveTexts$Tag") (own := RX1) (cc := cX1_tagAt) (maxL := 3) (by decide) rfl rfl (Nat.le_of_ble_eq_true rfl) ⟨rfl, rfl⟩ ⟨_, rfl⟩ (fun p e s m args below meth c A0 Q H locs ls X hret hM hl => w_X1_tagAt_0 X hret hf ⟨Nat.le_refl _, Nat.le_refl _⟩ hM (lv_sub hl [0, 1] rfl))
theorem hd_X6_at : yX6_at.cls = RX6 ∧ yX6_at.cls ≠ "java/lang/invoke/MethodHandle" ∧ yX6_at.cls ≠ "java/lang/invoke/VarHandle" ∧ (parseMethodDescriptor yX6_at.desc).map (fun d => d.parameters.length) = some 1 := by decide +kernel
theorem fl_X6_at_6_0 : Cond.fieldLink RX6 13 "MoveTexts$Row" "chars" "[C" ∈ wsX6_at := by decide +kernel
theorem fl_X6_at_6_1 : Cond.fieldLink RX6 16 "MoveTexts$Row" "length" "I" ∈ wsX6_at := by decide +kernel
theorem hw_X6_at_6 : ∀ w ∈ wsX60, w ∈ wsX6_at := by decide +kernel
def f_X6_at_22 (t0 : Int32) (S : ZS) : Option (Int32 × ZS) :=
  m_chk (vp_nar .char t0 = t0) (some (t0, S))

set_option maxRecDepth 100000 in
set_option maxHeartbeats 4000000 in
theorem w_X6_at_22 {p : Program} {l : Launch} {e : Env} {s : State} {m : MethodId} {args : Array Value} {below : List Frame} {meth : Method} {c : Code} {Q : State → Prop} {D : va_G} {y : Nat → ClassId} {A0 : Nat → Prop} {o : Int32 × ZS} (X : CallFix p m c cX6_at 2 s args wsX6_at RX6) (hret : zRi p l e ({ frames := 0, cells := 0, slots := 0, locals := 0 } : Room) s m args below meth c Q cX6_at D y A0 .char o) {t0 : Int32} {S : ZS} {H : Heap} {locs : List Loc} {ls : Array Slot} (hf : f_X6_at_22 t0 S = some o) (hM : zH D y A0 s H locs S) (hl : lv_has ls 2 []) : W p l e ({ frames := 0, cells := 0, slots := 0, locals := 0 } : Room) s m args below meth c H locs 0 0 Q (F0 m 22 ls [.int t0]) := by
  obtain ⟨hx, hb, hml, hown, hts⟩ := id X
  unfold f_X6_at_22 at hf
  obtain ⟨cd, hf⟩ := m_chkE hf
  cases hf
  exact hret H locs _ ls hM (m_nc cd) dX6_at_22
def f_X6_at_21 (S : ZS) : Option (Int32 × ZS) :=
  f_X6_at_22 (0 : Int32) S

set_option maxRecDepth 100000 in
set_option maxHeartbeats 4000000 in
theorem w_X6_at_21 {p : Program} {l : Launch} {e : Env} {s : State} {m : MethodId} {args : Array Value} {below : List Frame} {meth : Method} {c : Code} {Q : State → Prop} {D : va_G} {y : Nat → ClassId} {A0 : Nat → Prop} {o : Int32 × ZS} (X : CallFix p m c cX6_at 2 s args wsX6_at RX6) (hret : zRi p l e ({ frames := 0, cells := 0, slots := 0, locals := 0 } : Room) s m args below meth c Q cX6_at D y A0 .char o) {S : ZS} {H : Heap} {locs : List Loc} {ls : Array Slot} (hf : f_X6_at_21  S = some o) (hM : zH D y A0 s H locs S) (hl : lv_has ls 2 []) : W p l e ({ frames := 0, cells := 0, slots := 0, locals := 0 } : Room) s m args below meth c H locs 0 0 Q (F0 m 21 ls []) := by
  obtain ⟨hx, hb, hml, hown, hts⟩ := id X
  unfold f_X6_at_21 at hf
  refine lv_iconst (v := (0 : Int32)) hx hb dX6_at_21 (by decide) ?_
  exact w_X6_at_22 (t0 := (0 : Int32)) X hret hf hM (lv_sub hl [] rfl)
def f_X6_at_0 (x0 : Nat) (x1 : Int32) (S : ZS) : Option (Int32 × ZS) :=
  m_if (x1 < 0) (
  f_X6_at_21  S
  ) (
  m_chk (zK S x0 = 6) (
  m_if ((zI S 1 x0) ≤ x1) (
  f_X6_at_21  S
  ) (
  m_chk (zK S x0 = 6) (
  m_cal (zP S 0 x0) (fun b1 =>
  m_chk (zK S b1 = 13) (
  m_chk (¬ (x1 < 0 ∨ zN S b1 ≤ (x1).toNatClampNeg)) (
  m_bnd (zA S b1 (x1).toNatClampNeg) (fun v2 =>
  f_X6_at_22 v2 S)))))
  ))
  )

set_option maxRecDepth 100000 in
set_option maxHeartbeats 4000000 in
theorem w_X6_at_0 {p : Program} {l : Launch} {e : Env} {s : State} {m : MethodId} {args : Array Value} {below : List Frame} {meth : Method} {c : Code} {Q : State → Prop} {D : va_G} {y : Nat → ClassId} {A0 : Nat → Prop} {o : Int32 × ZS} (X : CallFix p m c cX6_at 2 s args wsX6_at RX6) (hret : zRi p l e ({ frames := 0, cells := 0, slots := 0, locals := 0 } : Room) s m args below meth c Q cX6_at D y A0 .char o) {x0 : Nat} {x1 : Int32} {S : ZS} {H : Heap} {locs : List Loc} {ls : Array Slot} (hf : f_X6_at_0 x0 x1 S = some o) (hM : zH D y A0 s H locs S) (hl : lv_has ls 2 [(0, .ref (zh y x0)), (1, .int x1)]) : W p l e ({ frames := 0, cells := 0, slots := 0, locals := 0 } : Room) s m args below meth c H locs 0 0 Q (F0 m 0 ls []) := by
  obtain ⟨hx, hb, hml, hown, hts⟩ := id X
  unfold f_X6_at_0 at hf
  refine lv_iload_n hx hb dX6_at_0 rfl (lv_at hl 1 rfl) ?_
  refine lv_if_lt (tgt := 21) hx hb dX6_at_1 (by decide) (fun cc1 => ?_) (fun cc1 => ?_)
  · replace hf := m_ifT hf cc1
    exact w_X6_at_21 X hret hf hM (lv_sub hl [] rfl)
  · replace hf := m_ifF hf cc1
    refine lv_iload_n hx hb dX6_at_4 rfl (lv_at hl 1 rfl) ?_
    refine lv_aload_n hx hb dX6_at_5 rfl (lv_at hl 0 rfl) ?_
    obtain ⟨ca, hf⟩ := m_chkE hf
    replace ca := z_in hM (by decide) ca
    refine z_get (k := 6) (j := 1) (C := RX6) (T := TX6) (N := 2) (fl := zf_6) (v := .int (zI S 1 x0)) X hw_X6_at_6 hM rfl zc_6 ca (by decide) fl_X6_at_6_1 rfl dX6_at_6 ?_
    clear ca
    refine lv_icmp_ge (tgt := 21) hx hb dX6_at_9 (by decide) (fun cc1 => ?_) (fun cc1 => ?_)
    · replace hf := m_ifT hf cc1
      exact w_X6_at_21 X hret hf hM (lv_sub hl [] rfl)
    · replace hf := m_ifF hf cc1
      refine lv_aload_n hx hb dX6_at_12 rfl (lv_at hl 0 rfl) ?_
      obtain ⟨ca, hf⟩ := m_chkE hf
      replace ca := z_in hM (by decide) ca
      refine z_get (k := 6) (j := 0) (C := RX6) (T := TX6) (N := 2) (fl := zf_6) (v := va_rf ((zP S 0 x0).map (zh y))) X hw_X6_at_6 hM rfl zc_6 ca (by decide) fl_X6_at_6_0 rfl dX6_at_13 ?_
      clear ca
      obtain ⟨b1, hb9, hf⟩ := m_calE hf
      refine z_topr hb9 ?_
      clear hb9
      refine lv_iload_n hx hb dX6_at_16 rfl (lv_at hl 1 rfl) ?_
      obtain ⟨ca, hf⟩ := m_chkE hf
      replace ca := z_in hM (by decide) ca
      obtain ⟨cd, hf⟩ := m_chkE hf
      refine z_cald X hM ca cd dX6_at_17 ?_
      clear ca cd
      obtain ⟨v2, ev, hf⟩ := m_bndE hf
      refine m_top ev ?_
      clear ev
      refine lv_goto (tgt := 22) hx hb dX6_at_18 (by decide) ?_
      exact w_X6_at_22 (t0 := v2) X hret hf hM (lv_sub hl [] rfl)
def f_X6_at (x0 : Nat) (x1 : Int32) (S : ZS) : Option (Int32 × ZS) := f_X6_at_0 x0 x1 S
theorem c_X6_at {l : Launch} {D : va_G} {y : Nat → ClassId} {x0 : Nat} {x1 : Int32} {S : ZS} {o : Int32 × ZS} (hf : f_X6_at x0 x1 S = some o) : zMi l yX6_at wsX6_at ({ frames := 0, cells := 0, slots := 0, locals := 0 } : Room) [.ref (zh y x0), .int x1] D y S o :=
  z_entryI (own := RX6) (cc := cX6_at) (maxL := 2) (by decide) rfl rfl (Nat.le_of_ble_eq_true rfl) (fun p e s m args below meth c A0 Q H locs ls X hret hM hl => w_X6_at_0 X hret hf hM (lv_sub hl [0, 1] rfl))
theorem hd_X6_isLike : yX6_isLike.cls = RX6 ∧ yX6_isLike.cls ≠ "java/lang/invoke/MethodHandle" ∧ yX6_isLike.cls ≠ "java/lang/invoke/VarHandle" ∧ (parseMethodDescriptor yX6_isLike.desc).map (fun d => d.parameters.length) = some 1 := by decide +kernel
theorem fl_X6_isLike_6_0 : Cond.fieldLink RX6 13 "MoveTexts$Row" "chars" "[C" ∈ wsX6_isLike := by decide +kernel
theorem fl_X6_isLike_6_1 : Cond.fieldLink RX6 16 "MoveTexts$Row" "length" "I" ∈ wsX6_isLike := by decide +kernel
theorem hw_X6_isLike_6 : ∀ w ∈ wsX60, w ∈ wsX6_isLike := by decide +kernel
def f_X6_isLike_15s (self15 : Nat → Nat → Int32 → ZS → Option (Int32 × ZS)) (x0 : Nat) (x1 : Nat) (x2 : Int32) (S : ZS) : Option (Int32 × ZS) :=
  m_chk (zK S x0 = 6) (
  m_if ((zI S 1 x0) ≤ x2) (
  m_chk (vp_nar .boolean (1 : Int32) = (1 : Int32)) (some ((1 : Int32), S))
  ) (
  m_chk (zK S x0 = 6) (
  m_cal (zP S 0 x0) (fun b1 =>
  m_chk (zK S b1 = 13) (
  m_chk (¬ (x2 < 0 ∨ zN S b1 ≤ (x2).toNatClampNeg)) (
  m_bnd (zA S b1 (x2).toNatClampNeg) (fun v2 =>
  m_chk (zK S x1 = 6) (
  m_cal (f_X6_at x1 x2 S) (fun o3 =>
  m_if (v2 = o3.1) (
  m_bnd (x2 + (1 : Int32)) (fun v4 =>
  self15 x0 x1 v4 o3.2)
  ) (
  m_chk (vp_nar .boolean (0 : Int32) = (0 : Int32)) (some ((0 : Int32), o3.2))
  ))))))))
  ))

set_option maxRecDepth 100000 in
set_option maxHeartbeats 4000000 in
theorem ws_X6_isLike_15 {p : Program} {l : Launch} {e : Env} {s : State} {m : MethodId} {args : Array Value} {below : List Frame} {meth : Method} {c : Code} {Q : State → Prop} {D : va_G} {y : Nat → ClassId} {A0 : Nat → Prop} {o : Int32 × ZS} (X : CallFix p m c cX6_isLike 3 s args wsX6_isLike RX6) (hret : zRi p l e ({ frames := 1, cells := 0, slots := 0, locals := 21 } : Room) s m args below meth c Q cX6_isLike D y A0 .boolean o) {self15 : Nat → Nat → Int32 → ZS → Option (Int32 × ZS)} (hself15 : ∀ (x0 : Nat) (x1 : Nat) (x2 : Int32) (S : ZS) (H : Heap) (locs : List Loc) (ls : Array Slot), self15 x0 x1 x2 S = some o → zH D y A0 s H locs S → lv_has ls 3 [(0, .ref (zh y x0)), (1, .ref (zh y x1)), (2, .int x2)] → W p l e ({ frames := 1, cells := 0, slots := 0, locals := 21 } : Room) s m args below meth c H locs 0 0 Q (F0 m 15 ls [])) {x0 : Nat} {x1 : Nat} {x2 : Int32} {S : ZS} {H : Heap} {locs : List Loc} {ls : Array Slot} (hf : f_X6_isLike_15s self15 x0 x1 x2 S = some o) (hM : zH D y A0 s H locs S) (hl : lv_has ls 3 [(0, .ref (zh y x0)), (1, .ref (zh y x1)), (2, .int x2)]) : W p l e ({ frames := 1, cells := 0, slots := 0, locals := 21 } : Room) s m args below meth c H locs 0 0 Q (F0 m 15 ls []) := by
  obtain ⟨hx, hb, hml, hown, hts⟩ := id X
  unfold f_X6_isLike_15s at hf
  refine lv_iload_n hx hb dX6_isLike_15 rfl (lv_at hl 2 rfl) ?_
  refine lv_aload_n hx hb dX6_isLike_16 rfl (lv_at hl 0 rfl) ?_
  obtain ⟨ca, hf⟩ := m_chkE hf
  replace ca := z_in hM (by decide) ca
  refine z_get (k := 6) (j := 1) (C := RX6) (T := TX6) (N := 2) (fl := zf_6) (v := .int (zI S 1 x0)) X hw_X6_isLike_6 hM rfl zc_6 ca (by decide) fl_X6_isLike_6_1 rfl dX6_isLike_17 ?_
  clear ca
  refine lv_icmp_ge (tgt := 45) hx hb dX6_isLike_20 (by decide) (fun cc1 => ?_) (fun cc1 => ?_)
  · replace hf := m_ifT hf cc1
    refine lv_iconst (v := (1 : Int32)) hx hb dX6_isLike_45 (by decide) ?_
    obtain ⟨cd, hf⟩ := m_chkE hf
    cases hf
    exact hret H locs _ ls hM (m_nb cd) dX6_isLike_46
  · replace hf := m_ifF hf cc1
    refine lv_aload_n hx hb dX6_isLike_23 rfl (lv_at hl 0 rfl) ?_
    obtain ⟨ca, hf⟩ := m_chkE hf
    replace ca := z_in hM (by decide) ca
    refine z_get (k := 6) (j := 0) (C := RX6) (T := TX6) (N := 2) (fl := zf_6) (v := va_rf ((zP S 0 x0).map (zh y))) X hw_X6_isLike_6 hM rfl zc_6 ca (by decide) fl_X6_isLike_6_0 rfl dX6_isLike_24 ?_
    clear ca
    obtain ⟨b1, hb9, hf⟩ := m_calE hf
    refine z_topr hb9 ?_
    clear hb9
    refine lv_iload_n hx hb dX6_isLike_27 rfl (lv_at hl 2 rfl) ?_
    obtain ⟨ca, hf⟩ := m_chkE hf
    replace ca := z_in hM (by decide) ca
    obtain ⟨cd, hf⟩ := m_chkE hf
    refine z_cald X hM ca cd dX6_isLike_28 ?_
    clear ca cd
    obtain ⟨v2, ev, hf⟩ := m_bndE hf
    refine m_top ev ?_
    clear ev
    refine lv_aload_n hx hb dX6_isLike_29 rfl (lv_at hl 1 rfl) ?_
    refine lv_iload_n hx hb dX6_isLike_30 rfl (lv_at hl 2 rfl) ?_
    obtain ⟨ca, hf⟩ := m_chkE hf
    replace ca := z_in hM (by decide) ca
    obtain ⟨o3, ho, hf⟩ := m_calE hf
    refine z_callVi (k := 6) (C := RX6) (T := TX6) (N := 2) (fl := zf_6) X hM rfl zc_6 ca (c_X6_at ho) gX6_isLike_X6_at rfl ⟨rfl, rfl⟩ hd_X6_at ⟨Nat.le_of_ble_eq_true rfl, Nat.le_of_ble_eq_true rfl⟩ rfl hl.1 rfl (Nat.le_of_ble_eq_true rfl) dX6_isLike_31 (fun H locs hM => ?_)
    clear ho
    refine lv_icmp_eq (tgt := 39) hx hb dX6_isLike_34 (by decide) (fun cc1 => ?_) (fun cc1 => ?_)
    · replace hf := m_ifT hf cc1
      obtain ⟨v4, ev, hf⟩ := m_bndE hf
      refine lv_iinc (v := v4) (lv' := [(2, .int v4), (0, .ref (zh y x0)), (1, .ref (zh y x1))]) hx hb dX6_isLike_39 hl (k := 2) rfl (by rw [ev]; rfl) (by decide) rfl (fun ls hl => ?_)
      clear ev
      refine lv_goto (tgt := 15) hx hb dX6_isLike_42 (by decide) ?_
      exact hself15 x0 x1 v4 _ _ _ _ hf hM (lv_sub hl [1, 2, 0] rfl)
    · replace hf := m_ifF hf cc1
      refine lv_iconst (v := (0 : Int32)) hx hb dX6_isLike_37 (by decide) ?_
      obtain ⟨cd, hf⟩ := m_chkE hf
      cases hf
      exact hret H locs _ ls hM (m_nb cd) dX6_isLike_38
def f_X6_isLike_15 : Nat → Nat → Nat → Int32 → ZS → Option (Int32 × ZS)
  | 0 => fun _ _ _ _ => none
  | n + 1 => f_X6_isLike_15s (f_X6_isLike_15 n)
theorem w_X6_isLike_15 {p : Program} {l : Launch} {e : Env} {s : State} {m : MethodId} {args : Array Value} {below : List Frame} {meth : Method} {c : Code} {Q : State → Prop} {D : va_G} {y : Nat → ClassId} {A0 : Nat → Prop} {o : Int32 × ZS} (X : CallFix p m c cX6_isLike 3 s args wsX6_isLike RX6) (hret : zRi p l e ({ frames := 1, cells := 0, slots := 0, locals := 21 } : Room) s m args below meth c Q cX6_isLike D y A0 .boolean o) (n : Nat) : ∀ (x0 : Nat) (x1 : Nat) (x2 : Int32) (S : ZS) (H : Heap) (locs : List Loc) (ls : Array Slot), f_X6_isLike_15 n x0 x1 x2 S = some o → zH D y A0 s H locs S → lv_has ls 3 [(0, .ref (zh y x0)), (1, .ref (zh y x1)), (2, .int x2)] → W p l e ({ frames := 1, cells := 0, slots := 0, locals := 21 } : Room) s m args below meth c H locs 0 0 Q (F0 m 15 ls []) := by
  induction n with
  | zero => intro x0 x1 x2 S H locs ls hf; cases hf
  | succ n ih => intro x0 x1 x2 S H locs ls hf hM hl; exact ws_X6_isLike_15 X hret (self15 := f_X6_isLike_15 n) ih hf hM hl
def f_X6_isLike_0 (x0 : Nat) (x1 : Nat) (S : ZS) : Option (Int32 × ZS) :=
  m_chk (zK S x0 = 6) (
  m_chk (zK S x1 = 6) (
  m_if ((zI S 1 x0) = (zI S 1 x1)) (
  f_X6_isLike_15 mFuel x0 x1 (0 : Int32) S
  ) (
  m_chk (vp_nar .boolean (0 : Int32) = (0 : Int32)) (some ((0 : Int32), S))
  )))

set_option maxRecDepth 100000 in
set_option maxHeartbeats 4000000 in
theorem w_X6_isLike_0 {p : Program} {l : Launch} {e : Env} {s : State} {m : MethodId} {args : Array Value} {below : List Frame} {meth : Method} {c : Code} {Q : State → Prop} {D : va_G} {y : Nat → ClassId} {A0 : Nat → Prop} {o : Int32 × ZS} (X : CallFix p m c cX6_isLike 3 s args wsX6_isLike RX6) (hret : zRi p l e ({ frames := 1, cells := 0, slots := 0, locals := 21 } : Room) s m args below meth c Q cX6_isLike D y A0 .boolean o) {x0 : Nat} {x1 : Nat} {S : ZS} {H : Heap} {locs : List Loc} {ls : Array Slot} (hf : f_X6_isLike_0 x0 x1 S = some o) (hM : zH D y A0 s H locs S) (hl : lv_has ls 3 [(0, .ref (zh y x0)), (1, .ref (zh y x1))]) : W p l e ({ frames := 1, cells := 0, slots := 0, locals := 21 } : Room) s m args below meth c H locs 0 0 Q (F0 m 0 ls []) := by
  obtain ⟨hx, hb, hml, hown, hts⟩ := id X
  unfold f_X6_isLike_0 at hf
  refine lv_aload_n hx hb dX6_isLike_0 rfl (lv_at hl 0 rfl) ?_
  obtain ⟨ca, hf⟩ := m_chkE hf
  replace ca := z_in hM (by decide) ca
  refine z_get (k := 6) (j := 1) (C := RX6) (T := TX6) (N := 2) (fl := zf_6) (v := .int (zI S 1 x0)) X hw_X6_isLike_6 hM rfl zc_6 ca (by decide) fl_X6_isLike_6_1 rfl dX6_isLike_1 ?_
  clear ca
  refine lv_aload_n hx hb dX6_isLike_4 rfl (lv_at hl 1 rfl) ?_
  obtain ⟨ca, hf⟩ := m_chkE hf
  replace ca := z_in hM (by decide) ca
  refine z_get (k := 6) (j := 1) (C := RX6) (T := TX6) (N := 2) (fl := zf_6) (v := .int (zI S 1 x1)) X hw_X6_isLike_6 hM rfl zc_6 ca (by decide) fl_X6_isLike_6_1 rfl dX6_isLike_5 ?_
  clear ca
  refine lv_icmp_eq (tgt := 13) hx hb dX6_isLike_8 (by decide) (fun cc1 => ?_) (fun cc1 => ?_)
  · replace hf := m_ifT hf cc1
    refine lv_iconst (v := (0 : Int32)) hx hb dX6_isLike_13 (by decide) ?_
    refine lv_istore_n (lv' := [(2, .int (0 : Int32)), (0, .ref (zh y x0)), (1, .ref (zh y x1))]) hx hb dX6_isLike_14 rfl hl (by decide) rfl (fun ls hl => ?_)
    exact w_X6_isLike_15 X hret _ x0 x1 (0 : Int32) _ _ _ _ hf hM (lv_sub hl [1, 2, 0] rfl)
  · replace hf := m_ifF hf cc1
    refine lv_iconst (v := (0 : Int32)) hx hb dX6_isLike_11 (by decide) ?_
    obtain ⟨cd, hf⟩ := m_chkE hf
    cases hf
    exact hret H locs _ ls hM (m_nb cd) dX6_isLike_12
def f_X6_isLike (x0 : Nat) (x1 : Nat) (S : ZS) : Option (Int32 × ZS) := f_X6_isLike_0 x0 x1 S
theorem c_X6_isLike {l : Launch} {D : va_G} {y : Nat → ClassId} {x0 : Nat} {x1 : Nat} {S : ZS} {o : Int32 × ZS} (hf : f_X6_isLike x0 x1 S = some o) : zMi l yX6_isLike wsX6_isLike ({ frames := 1, cells := 0, slots := 0, locals := 21 } : Room) [.ref (zh y x0), .ref (zh y x1)] D y S o :=
  z_entryI (own := RX6) (cc := cX6_isLike) (maxL := 3) (by decide) rfl rfl (Nat.le_of_ble_eq_true rfl) (fun p e s m args below meth c A0 Q H locs ls X hret hM hl => w_X6_isLike_0 X hret hf hM (lv_sub hl [0, 1] rfl))
theorem hd_X1_hasTag : yX1_hasTag.cls = RX1 ∧ yX1_hasTag.cls ≠ "java/lang/invoke/MethodHandle" ∧ yX1_hasTag.cls ≠ "java/lang/invoke/VarHandle" ∧ (parseMethodDescriptor yX1_hasTag.desc).map (fun d => d.parameters.length) = some 1 := by decide +kernel
theorem fl_X1_hasTag_10_0 : Cond.fieldLink RX1 89 "MoveTexts$Tag" "name" "LMoveTexts$Row;" ∈ wsX1_hasTag := by decide +kernel
theorem fl_X1_hasTag_1_5 : Cond.fieldLink RX1 39 "MoveTexts$Game" "tagCount" "I" ∈ wsX1_hasTag := by decide +kernel
theorem hw_X1_hasTag_1 : ∀ w ∈ wsX10, w ∈ wsX1_hasTag := by decide +kernel
theorem hw_X1_hasTag_10 : ∀ w ∈ wsX100, w ∈ wsX1_hasTag := by decide +kernel
def g_X1_hasTag_2s (Pw : Int32 → ZS → Prop) (self2 : Nat → Nat → Int32 → ZS → Nat → Nat → Prop) (x0 : Nat) (x1 : Nat) (x2 : Int32) (S : ZS) (C T : Nat) : Prop :=
  m_chkQ (zK S x0 = 1) (
  m_ifQ ((zI S 5 x0) ≤ x2) (
  m_chkQ (vp_nar .boolean (0 : Int32) = (0 : Int32)) (Pw (0 : Int32) S)
  ) (
  m_chkQ (zK S x0 = 1) (
  m_galN (C) (T) (fun mc ms Pw => g_X1_tagAt x0 x2 S mc ms Pw) (fun r2 S3 C4 T5 =>
  m_chkQ (zK S3 r2 = 10) (
  m_calP (zP S3 0 r2) (fun b6 =>
  m_chkQ (zK S3 b6 = 6) (
  m_calP (f_X6_isLike b6 x1 S3) (fun o7 =>
  m_ifQ (o7.1 = 0) (
  m_bndP (x2 + (1 : Int32)) (fun v8 =>
  self2 x0 x1 v8 o7.2 (C4) (T5))
  ) (
  m_chkQ (vp_nar .boolean (1 : Int32) = (1 : Int32)) (Pw (1 : Int32) o7.2)
  )))))))
  ))

set_option maxRecDepth 100000 in
set_option maxHeartbeats 4000000 in
theorem ws_X1_hasTag_2 {p : Program} {l : Launch} {e : Env} {s : State} {m : MethodId} {args : Array Value} {below : List Frame} {meth : Method} {c : Code} {Q : State → Prop} {D : va_G} {y : Nat → ClassId} {A0 : Nat → Prop} {kc kt : Nat} {Pw : Int32 → ZS → Prop} (X : CallFix p m c cX1_hasTag 3 s args wsX1_hasTag RX1) (hret : zQi p l e ({ frames := 4, cells := kc, slots := kt, locals := 86 } : Room) s m args below meth c Q cX1_hasTag D y A0 .boolean Pw) {self2 : Nat → Nat → Int32 → ZS → Nat → Nat → Prop} (hself2 : ∀ (x0 : Nat) (x1 : Nat) (x2 : Int32) (S : ZS) (C T : Nat) (H : Heap) (locs : List Loc) (ls : Array Slot), self2 x0 x1 x2 S C T → C ≤ kc ∧ T ≤ kt → zH D y A0 s H locs S → lv_has ls 3 [(0, .ref (zh y x0)), (1, .ref (zh y x1)), (2, .int x2)] → W p l e ({ frames := 4, cells := kc, slots := kt, locals := 86 } : Room) s m args below meth c H locs (kc - C) (kt - T) Q (F0 m 2 ls [])) {x0 : Nat} {x1 : Nat} {x2 : Int32} {S : ZS} {C T : Nat} {H : Heap} {locs : List Loc} {ls : Array Slot} (hf : g_X1_hasTag_2s Pw self2 x0 x1 x2 S C T) (hCT : C ≤ kc ∧ T ≤ kt) (hM : zH D y A0 s H locs S) (hl : lv_has ls 3 [(0, .ref (zh y x0)), (1, .ref (zh y x1)), (2, .int x2)]) : W p l e ({ frames := 4, cells := kc, slots := kt, locals := 86 } : Room) s m args below meth c H locs (kc - C) (kt - T) Q (F0 m 2 ls []) := by
  obtain ⟨hx, hb, hml, hown, hts⟩ := id X
  unfold g_X1_hasTag_2s at hf
  refine lv_iload_n hx hb dX1_hasTag_2 rfl (lv_at hl 2 rfl) ?_
  refine lv_aload_n hx hb dX1_hasTag_3 rfl (lv_at hl 0 rfl) ?_
  obtain ⟨ca, hf⟩ := m_chkPE hf
  replace ca := z_in hM (by decide) ca
  refine z_get (k := 1) (j := 5) (C := RX1) (T := TX1) (N := 8) (fl := zf_1) (v := .int (zI S 5 x0)) X hw_X1_hasTag_1 hM rfl zc_1 ca (by decide) fl_X1_hasTag_1_5 rfl dX1_hasTag_4 ?_
  clear ca
  refine lv_icmp_ge (tgt := 33) hx hb dX1_hasTag_7 (by decide) (fun cc1 => ?_) (fun cc1 => ?_)
  · replace hf := m_ifPT hf cc1
    refine lv_iconst (v := (0 : Int32)) hx hb dX1_hasTag_33 (by decide) ?_
    obtain ⟨cd, hf⟩ := m_chkPE hf
    exact hret _ _ _ _ H locs _ ls hf hM (m_nb cd) dX1_hasTag_34
  · replace hf := m_ifPF hf cc1
    refine lv_aload_n hx hb dX1_hasTag_10 rfl (lv_at hl 0 rfl) ?_
    refine lv_iload_n hx hb dX1_hasTag_11 rfl (lv_at hl 2 rfl) ?_
    obtain ⟨ca, hf⟩ := m_chkPE hf
    replace ca := z_in hM (by decide) ca
    obtain ⟨mc, ms, hcm, ho⟩ := m_galNE hf
    refine z_wcallVr (k := 1) (C := RX1) (T := TX1) (N := 8) (fl := zf_1) X hM rfl zc_1 ca (c_X1_tagAt ho) gX1_hasTag_X1_tagAt rfl ⟨rfl, rfl⟩ ⟨by show kc - (C) + mc ≤ kc; omega, by show kt - (T) + ms ≤ kt; omega⟩ hd_X1_tagAt ⟨Nat.le_of_ble_eq_true rfl, Nat.le_of_ble_eq_true rfl⟩ rfl hl.1 rfl (Nat.le_of_ble_eq_true rfl) dX1_hasTag_12 (fun r2 S3 H locs hf hM => ?_)
    refine z_eqCS (c2 := kc - (C - mc)) (t2 := kt - (T - ms)) (by omega) (by omega) ?_
    replace hCT : C - mc ≤ kc ∧ T - ms ≤ kt := by omega
    generalize C - mc = C4 at hf hCT ⊢
    generalize T - ms = T5 at hf hCT ⊢
    clear ho hcm
    obtain ⟨ca, hf⟩ := m_chkPE hf
    replace ca := z_in hM (by decide) ca
    refine z_get (k := 10) (j := 0) (C := RX10) (T := TX10) (N := 2) (fl := zf_10) (v := va_rf ((zP S3 0 r2).map (zh y))) X hw_X1_hasTag_10 hM rfl zc_10 ca (by decide) fl_X1_hasTag_10_0 rfl dX1_hasTag_15 ?_
    clear ca
    obtain ⟨b6, hb9, hf⟩ := m_calPE hf
    refine z_topr hb9 ?_
    clear hb9
    refine lv_aload_n hx hb dX1_hasTag_18 rfl (lv_at hl 1 rfl) ?_
    obtain ⟨ca, hf⟩ := m_chkPE hf
    replace ca := z_in hM (by decide) ca
    obtain ⟨o7, ho, hf⟩ := m_calPE hf
    refine z_gcallVi (k := 6) (C := RX6) (T := TX6) (N := 2) (fl := zf_6) X hM rfl zc_6 ca (c_X6_isLike ho) gX1_hasTag_X6_isLike rfl ⟨rfl, rfl⟩ hd_X6_isLike ⟨Nat.le_of_ble_eq_true rfl, Nat.le_of_ble_eq_true rfl⟩ rfl hl.1 rfl ⟨Nat.sub_le _ _, Nat.sub_le _ _⟩ (Nat.le_of_ble_eq_true rfl) dX1_hasTag_19 (fun H locs hM => ?_)
    clear ho
    refine lv_if_eq (tgt := 27) hx hb dX1_hasTag_22 (by decide) (fun cc1 => ?_) (fun cc1 => ?_)
    · replace hf := m_ifPT hf cc1
      obtain ⟨v8, ev, hf⟩ := m_bndPE hf
      refine lv_iinc (v := v8) (lv' := [(2, .int v8), (0, .ref (zh y x0)), (1, .ref (zh y x1))]) hx hb dX1_hasTag_27 hl (k := 2) rfl (by rw [ev]; rfl) (by decide) rfl (fun ls hl => ?_)
      clear ev
      refine lv_goto (tgt := 2) hx hb dX1_hasTag_30 (by decide) ?_
      exact hself2 x0 x1 v8 _ _ _ _ _ _ hf hCT hM (lv_sub hl [1, 2, 0] rfl)
    · replace hf := m_ifPF hf cc1
      refine lv_iconst (v := (1 : Int32)) hx hb dX1_hasTag_25 (by decide) ?_
      obtain ⟨cd, hf⟩ := m_chkPE hf
      exact hret _ _ _ _ H locs _ ls hf hM (m_nb cd) dX1_hasTag_26
def g_X1_hasTag_2 (Pw : Int32 → ZS → Prop) : Nat → Nat → Nat → Int32 → ZS → Nat → Nat → Prop
  | 0 => fun _ _ _ _ _ _ => False
  | n + 1 => g_X1_hasTag_2s Pw (g_X1_hasTag_2 Pw n)
theorem w_X1_hasTag_2 {p : Program} {l : Launch} {e : Env} {s : State} {m : MethodId} {args : Array Value} {below : List Frame} {meth : Method} {c : Code} {Q : State → Prop} {D : va_G} {y : Nat → ClassId} {A0 : Nat → Prop} {kc kt : Nat} {Pw : Int32 → ZS → Prop} (X : CallFix p m c cX1_hasTag 3 s args wsX1_hasTag RX1) (hret : zQi p l e ({ frames := 4, cells := kc, slots := kt, locals := 86 } : Room) s m args below meth c Q cX1_hasTag D y A0 .boolean Pw) (n : Nat) : ∀ (x0 : Nat) (x1 : Nat) (x2 : Int32) (S : ZS) (C T : Nat) (H : Heap) (locs : List Loc) (ls : Array Slot), g_X1_hasTag_2 Pw n x0 x1 x2 S C T → C ≤ kc ∧ T ≤ kt → zH D y A0 s H locs S → lv_has ls 3 [(0, .ref (zh y x0)), (1, .ref (zh y x1)), (2, .int x2)] → W p l e ({ frames := 4, cells := kc, slots := kt, locals := 86 } : Room) s m args below meth c H locs (kc - C) (kt - T) Q (F0 m 2 ls []) := by
  induction n with
  | zero => intro x0 x1 x2 S C T H locs ls hf; exact absurd hf id
  | succ n ih => intro x0 x1 x2 S C T H locs ls hf hCT hM hl; exact ws_X1_hasTag_2 X hret (self2 := g_X1_hasTag_2 Pw n) ih hf hCT hM hl
def g_X1_hasTag_0 (Pw : Int32 → ZS → Prop) (x0 : Nat) (x1 : Nat) (S : ZS) (C T : Nat) : Prop :=
  g_X1_hasTag_2 Pw mFuel x0 x1 (0 : Int32) S (C) (T)

set_option maxRecDepth 100000 in
set_option maxHeartbeats 4000000 in
theorem w_X1_hasTag_0 {p : Program} {l : Launch} {e : Env} {s : State} {m : MethodId} {args : Array Value} {below : List Frame} {meth : Method} {c : Code} {Q : State → Prop} {D : va_G} {y : Nat → ClassId} {A0 : Nat → Prop} {kc kt : Nat} {Pw : Int32 → ZS → Prop} (X : CallFix p m c cX1_hasTag 3 s args wsX1_hasTag RX1) (hret : zQi p l e ({ frames := 4, cells := kc, slots := kt, locals := 86 } : Room) s m args below meth c Q cX1_hasTag D y A0 .boolean Pw) {x0 : Nat} {x1 : Nat} {S : ZS} {C T : Nat} {H : Heap} {locs : List Loc} {ls : Array Slot} (hf : g_X1_hasTag_0 Pw x0 x1 S C T) (hCT : C ≤ kc ∧ T ≤ kt) (hM : zH D y A0 s H locs S) (hl : lv_has ls 3 [(0, .ref (zh y x0)), (1, .ref (zh y x1))]) : W p l e ({ frames := 4, cells := kc, slots := kt, locals := 86 } : Room) s m args below meth c H locs (kc - C) (kt - T) Q (F0 m 0 ls []) := by
  obtain ⟨hx, hb, hml, hown, hts⟩ := id X
  unfold g_X1_hasTag_0 at hf
  refine lv_iconst (v := (0 : Int32)) hx hb dX1_hasTag_0 (by decide) ?_
  refine lv_istore_n (lv' := [(2, .int (0 : Int32)), (0, .ref (zh y x0)), (1, .ref (zh y x1))]) hx hb dX1_hasTag_1 rfl hl (by decide) rfl (fun ls hl => ?_)
  exact w_X1_hasTag_2 X hret _ x0 x1 (0 : Int32) _ _ _ _ _ _ hf hCT hM (lv_sub hl [1, 2, 0] rfl)
def g_X1_hasTag (x0 : Nat) (x1 : Nat) (S : ZS) (mc ms : Nat) (Pw : Int32 → ZS → Prop) : Prop := g_X1_hasTag_0 Pw x0 x1 S mc ms
theorem c_X1_hasTag {l : Launch} {D : va_G} {y : Nat → ClassId} {x0 : Nat} {x1 : Nat} {S : ZS} {kc kt : Nat} {Pw : Int32 → ZS → Prop} (hf : g_X1_hasTag x0 x1 S kc kt Pw) : zWi l yX1_hasTag wsX1_hasTag ({ frames := 4, cells := kc, slots := kt, locals := 86 } : Room) [.ref (zh y x0), .ref (zh y x1)] D y S kc kt Pw :=
  z_wentI (own := RX1) (cc := cX1_hasTag) (maxL := 3) (by decide) rfl rfl (Nat.le_of_ble_eq_true rfl) ⟨rfl, rfl⟩ (fun p e s m args below meth c A0 Q H locs ls X hret hM hl => w_X1_hasTag_0 X hret hf ⟨Nat.le_refl _, Nat.le_refl _⟩ hM (lv_sub hl [0, 1] rfl))
theorem hd_X6_put : yX6_put.cls = RX6 ∧ yX6_put.cls ≠ "java/lang/invoke/MethodHandle" ∧ yX6_put.cls ≠ "java/lang/invoke/VarHandle" ∧ (parseMethodDescriptor yX6_put.desc).map (fun d => d.parameters.length) = some 1 := by decide +kernel
theorem ac_X6_put : (Cond.methodLink RX6 20 arraycopyName ∈ wsX6_put ∧ Cond.native arraycopyName ∈ wsX6_put) ∧ Cond.static arraycopyName ∈ wsX6_put ∧ Cond.initialized "java/lang/System" ∈ wsX6_put := by decide +kernel
theorem ar_X6_put_char : Cond.arrayClass .char ∈ wsX6_put := by decide +kernel
theorem fl_X6_put_6_0 : Cond.fieldLink RX6 13 "MoveTexts$Row" "chars" "[C" ∈ wsX6_put := by decide +kernel
theorem fl_X6_put_6_1 : Cond.fieldLink RX6 16 "MoveTexts$Row" "length" "I" ∈ wsX6_put := by decide +kernel
theorem hw_X6_put_6 : ∀ w ∈ wsX60, w ∈ wsX6_put := by decide +kernel
def g_X6_put_43 (Pw : Int32 → ZS → Prop) (x0 : Nat) (x1 : Int32) (S : ZS) (C T : Nat) : Prop :=
  m_chkQ (zK S x0 = 6) (
  m_calP (zP S 0 x0) (fun b1 =>
  m_chkQ (zK S x0 = 6) (
  m_chkQ (zK S b1 = 13) (
  m_chkQ (¬ ((zI S 1 x0) < 0 ∨ zN S b1 ≤ ((zI S 1 x0)).toNatClampNeg)) (
  m_bndP (zsA S b1 ((zI S 1 x0)).toNatClampNeg (vp_nar .char x1)) (fun S2 =>
  m_chkQ (zK S2 x0 = 6) (
  m_bndP ((zI S2 1 x0) + (1 : Int32)) (fun v3 =>
  m_chkQ (zK S2 x0 = 6) (
  m_bndP (zsI S2 1 x0 v3) (fun S4 =>
  Pw 0 S4))))))))))

set_option maxRecDepth 100000 in
set_option maxHeartbeats 4000000 in
theorem w_X6_put_43 {p : Program} {l : Launch} {e : Env} {s : State} {m : MethodId} {args : Array Value} {below : List Frame} {meth : Method} {c : Code} {Q : State → Prop} {D : va_G} {y : Nat → ClassId} {A0 : Nat → Prop} {kc kt : Nat} {Pw : Int32 → ZS → Prop} (X : CallFix p m c cX6_put 3 s args wsX6_put RX6) (hret : zQv p l e ({ frames := 1, cells := kc, slots := kt, locals := 60 } : Room) s m args below meth c Q cX6_put D y A0 Pw) {x0 : Nat} {x1 : Int32} {S : ZS} {C T : Nat} {H : Heap} {locs : List Loc} {ls : Array Slot} (hf : g_X6_put_43 Pw x0 x1 S C T) (hCT : C ≤ kc ∧ T ≤ kt) (hM : zH D y A0 s H locs S) (hl : lv_has ls 3 [(0, .ref (zh y x0)), (1, .int x1)]) : W p l e ({ frames := 1, cells := kc, slots := kt, locals := 60 } : Room) s m args below meth c H locs (kc - C) (kt - T) Q (F0 m 43 ls []) := by
  obtain ⟨hx, hb, hml, hown, hts⟩ := id X
  unfold g_X6_put_43 at hf
  refine lv_aload_n hx hb dX6_put_43 rfl (lv_at hl 0 rfl) ?_
  obtain ⟨ca, hf⟩ := m_chkPE hf
  replace ca := z_in hM (by decide) ca
  refine z_get (k := 6) (j := 0) (C := RX6) (T := TX6) (N := 2) (fl := zf_6) (v := va_rf ((zP S 0 x0).map (zh y))) X hw_X6_put_6 hM rfl zc_6 ca (by decide) fl_X6_put_6_0 rfl dX6_put_44 ?_
  clear ca
  obtain ⟨b1, hb9, hf⟩ := m_calPE hf
  refine z_topr hb9 ?_
  clear hb9
  refine lv_aload_n hx hb dX6_put_47 rfl (lv_at hl 0 rfl) ?_
  obtain ⟨ca, hf⟩ := m_chkPE hf
  replace ca := z_in hM (by decide) ca
  refine z_get (k := 6) (j := 1) (C := RX6) (T := TX6) (N := 2) (fl := zf_6) (v := .int (zI S 1 x0)) X hw_X6_put_6 hM rfl zc_6 ca (by decide) fl_X6_put_6_1 rfl dX6_put_48 ?_
  clear ca
  refine lv_iload_n hx hb dX6_put_51 rfl (lv_at hl 1 rfl) ?_
  obtain ⟨ca, hf⟩ := m_chkPE hf
  replace ca := z_in hM (by decide) ca
  obtain ⟨cd, hf⟩ := m_chkPE hf
  refine z_cast X hM ca cd dX6_put_52 (fun H locs hM => ?_)
  clear ca cd
  obtain ⟨S2, ev, hf⟩ := m_bndPE hf
  replace hM := z_hS hM ev
  clear ev
  refine lv_aload_n hx hb dX6_put_53 rfl (lv_at hl 0 rfl) ?_
  refine lv_dup hx hb dX6_put_54 rfl ?_
  obtain ⟨ca, hf⟩ := m_chkPE hf
  replace ca := z_in hM (by decide) ca
  refine z_get (k := 6) (j := 1) (C := RX6) (T := TX6) (N := 2) (fl := zf_6) (v := .int (zI S2 1 x0)) X hw_X6_put_6 hM rfl zc_6 ca (by decide) fl_X6_put_6_1 rfl dX6_put_55 ?_
  clear ca
  refine lv_iconst (v := (1 : Int32)) hx hb dX6_put_58 (by decide) ?_
  refine lv_iadd hx hb dX6_put_59 ?_
  obtain ⟨v3, ev, hf⟩ := m_bndPE hf
  refine m_top ev ?_
  clear ev
  obtain ⟨ca, hf⟩ := m_chkPE hf
  replace ca := z_in hM (by decide) ca
  refine z_putI (k := 6) (j := 1) (C := RX6) (T := TX6) (N := 2) (fl := zf_6) (ty := .int) X hw_X6_put_6 tyX6_ok nmX6 hM rfl zc_6 ca (by decide) fl_X6_put_6_1 rfl (tyX6_ok 1 (by decide)) rfl rfl zi_6_1 (Nat.le_of_ble_eq_true rfl) dX6_put_60 (fun H locs hM => ?_)
  clear ca
  obtain ⟨S4, ev, hf⟩ := m_bndPE hf
  replace hM := z_hS hM ev
  clear ev
  exact hret _ _ _ H locs _ ls hf hM dX6_put_63
def g_X6_put_0 (Pw : Int32 → ZS → Prop) (x0 : Nat) (x1 : Int32) (S : ZS) (C T : Nat) : Prop :=
  m_chkQ (zK S x0 = 6) (
  m_chkQ (zK S x0 = 6) (
  m_calP (zP S 0 x0) (fun b1 =>
  m_chkQ (b1 = 0 ∨ zK S b1 = 13) (
  m_bndP (Int32.ofNat (if b1 = 0 then 0 else zN S b1)) (fun v2 =>
  m_ifQ ((zI S 1 x0) < v2) (
  g_X6_put_43 Pw x0 x1 S (C) (T)
  ) (
  m_chkQ (zK S x0 = 6) (
  m_bndP ((2 : Int32) * (zI S 1 x0)) (fun v3 =>
  m_bndP (v3 + (8 : Int32)) (fun v4 =>
  m_chkQ (¬ v4 < 0 ∧ (v4).toNatClampNeg * componentBytes .char ≤ 536870912) (
  m_newP (C) (T) (v4).toNatClampNeg (zt S) (fun q5 C7 T8 =>
  m_bndP (zsNewA S q5 13 (v4).toNatClampNeg) (fun S6 =>
  m_chkQ (zK S6 x0 = 6) (
  m_calP (zP S6 0 x0) (fun b9 =>
  m_chkQ (zK S6 x0 = 6) (
  m_chkQ (zK S6 q5 = 13) (
  m_chkQ ((b9 = 0 ∧ (zI S6 1 x0) = 0) ∨ (zK S6 b9 = 13 ∧ ¬ b9 = 0 ∧ ¬ (zI S6 1 x0) < 0 ∧ ((zI S6 1 x0)).toNatClampNeg ≤ zN S6 b9 ∧ ((zI S6 1 x0)).toNatClampNeg ≤ zN S6 q5 ∧ ∀ i, i < ((zI S6 1 x0)).toNatClampNeg → fits .char (.int (zA S6 b9 i)) = true)) (
  m_bndP (zsD S6 b9 q5 0 0 ((zI S6 1 x0)).toNatClampNeg) (fun S10 =>
  m_chkQ (zK S10 x0 = 6) (
  m_bndP (zsP S10 0 x0 (some q5)) (fun S11 =>
  g_X6_put_43 Pw x0 x1 S11 (C7) (T8)))))))))))))))
  ))))))

set_option maxRecDepth 100000 in
set_option maxHeartbeats 4000000 in
theorem w_X6_put_0 {p : Program} {l : Launch} {e : Env} {s : State} {m : MethodId} {args : Array Value} {below : List Frame} {meth : Method} {c : Code} {Q : State → Prop} {D : va_G} {y : Nat → ClassId} {A0 : Nat → Prop} {kc kt : Nat} {Pw : Int32 → ZS → Prop} (X : CallFix p m c cX6_put 3 s args wsX6_put RX6) (hret : zQv p l e ({ frames := 1, cells := kc, slots := kt, locals := 60 } : Room) s m args below meth c Q cX6_put D y A0 Pw) {x0 : Nat} {x1 : Int32} {S : ZS} {C T : Nat} {H : Heap} {locs : List Loc} {ls : Array Slot} (hf : g_X6_put_0 Pw x0 x1 S C T) (hCT : C ≤ kc ∧ T ≤ kt) (hM : zH D y A0 s H locs S) (hl : lv_has ls 3 [(0, .ref (zh y x0)), (1, .int x1)]) : W p l e ({ frames := 1, cells := kc, slots := kt, locals := 60 } : Room) s m args below meth c H locs (kc - C) (kt - T) Q (F0 m 0 ls []) := by
  obtain ⟨hx, hb, hml, hown, hts⟩ := id X
  unfold g_X6_put_0 at hf
  refine lv_aload_n hx hb dX6_put_0 rfl (lv_at hl 0 rfl) ?_
  obtain ⟨ca, hf⟩ := m_chkPE hf
  replace ca := z_in hM (by decide) ca
  refine z_get (k := 6) (j := 1) (C := RX6) (T := TX6) (N := 2) (fl := zf_6) (v := .int (zI S 1 x0)) X hw_X6_put_6 hM rfl zc_6 ca (by decide) fl_X6_put_6_1 rfl dX6_put_1 ?_
  clear ca
  refine lv_aload_n hx hb dX6_put_4 rfl (lv_at hl 0 rfl) ?_
  obtain ⟨ca, hf⟩ := m_chkPE hf
  replace ca := z_in hM (by decide) ca
  refine z_get (k := 6) (j := 0) (C := RX6) (T := TX6) (N := 2) (fl := zf_6) (v := va_rf ((zP S 0 x0).map (zh y))) X hw_X6_put_6 hM rfl zc_6 ca (by decide) fl_X6_put_6_0 rfl dX6_put_5 ?_
  clear ca
  obtain ⟨b1, hb9, hf⟩ := m_calPE hf
  refine z_topr hb9 ?_
  clear hb9
  obtain ⟨ca, hf⟩ := m_chkPE hf
  refine z_alenC X hM ca dX6_put_8 ?_
  clear ca
  obtain ⟨v2, ev, hf⟩ := m_bndPE hf
  refine m_top ev ?_
  clear ev
  refine lv_icmp_lt (tgt := 43) hx hb dX6_put_9 (by decide) (fun cc1 => ?_) (fun cc1 => ?_)
  · replace hf := m_ifPT hf cc1
    exact w_X6_put_43 (x0 := x0) (x1 := x1) X hret hf hCT hM (lv_sub hl [0, 1] rfl)
  · replace hf := m_ifPF hf cc1
    refine lv_iconst (v := (2 : Int32)) hx hb dX6_put_12 (by decide) ?_
    refine lv_aload_n hx hb dX6_put_13 rfl (lv_at hl 0 rfl) ?_
    obtain ⟨ca, hf⟩ := m_chkPE hf
    replace ca := z_in hM (by decide) ca
    refine z_get (k := 6) (j := 1) (C := RX6) (T := TX6) (N := 2) (fl := zf_6) (v := .int (zI S 1 x0)) X hw_X6_put_6 hM rfl zc_6 ca (by decide) fl_X6_put_6_1 rfl dX6_put_14 ?_
    clear ca
    refine lv_imul hx hb dX6_put_17 ?_
    obtain ⟨v3, ev, hf⟩ := m_bndPE hf
    refine m_top ev ?_
    clear ev
    refine lv_bipush (v := (8 : Int32)) hx hb dX6_put_18 (by decide) ?_
    refine lv_iadd hx hb dX6_put_20 ?_
    obtain ⟨v4, ev, hf⟩ := m_bndPE hf
    refine m_top ev ?_
    clear ev
    obtain ⟨cd, hf⟩ := m_chkPE hf
    obtain ⟨hcm, ho⟩ := hf
    refine z_newC X hM ar_X6_put_char cd.1 cd.2 ⟨by show kc - (C) + 1 ≤ kc; omega, by show kt - (T) + _ ≤ kt; omega⟩ dX6_put_21 (fun q5 H hq hM => ?_)
    replace hf := ho q5 hq
    refine z_eqCS (c2 := kc - (C - 1)) (t2 := kt - (T - (v4).toNatClampNeg)) (by omega) (by omega) ?_
    replace hCT : C - 1 ≤ kc ∧ T - (v4).toNatClampNeg ≤ kt := by omega
    generalize C - 1 = C7 at hf hCT ⊢
    generalize T - (v4).toNatClampNeg = T8 at hf hCT ⊢
    obtain ⟨S6, ev, hf⟩ := m_bndPE hf
    replace hM := z_hS hM ev
    clear ev ho hcm cd hq
    refine lv_astore_n (lv' := [(2, .ref (zh y q5)), (0, .ref (zh y x0)), (1, .int x1)]) hx hb dX6_put_23 rfl hl (by decide) rfl (fun ls hl => ?_)
    refine lv_aload_n hx hb dX6_put_24 rfl (lv_at hl 1 rfl) ?_
    obtain ⟨ca, hf⟩ := m_chkPE hf
    replace ca := z_in hM (by decide) ca
    refine z_get (k := 6) (j := 0) (C := RX6) (T := TX6) (N := 2) (fl := zf_6) (v := va_rf ((zP S6 0 x0).map (zh y))) X hw_X6_put_6 hM rfl zc_6 ca (by decide) fl_X6_put_6_0 rfl dX6_put_25 ?_
    clear ca
    obtain ⟨b9, hb9, hf⟩ := m_calPE hf
    refine z_topr hb9 ?_
    clear hb9
    refine lv_iconst (v := (0 : Int32)) hx hb dX6_put_28 (by decide) ?_
    refine lv_aload_n hx hb dX6_put_29 rfl (lv_at hl 0 rfl) ?_
    refine lv_iconst (v := (0 : Int32)) hx hb dX6_put_30 (by decide) ?_
    refine lv_aload_n hx hb dX6_put_31 rfl (lv_at hl 1 rfl) ?_
    obtain ⟨ca, hf⟩ := m_chkPE hf
    replace ca := z_in hM (by decide) ca
    refine z_get (k := 6) (j := 1) (C := RX6) (T := TX6) (N := 2) (fl := zf_6) (v := .int (zI S6 1 x0)) X hw_X6_put_6 hM rfl zc_6 ca (by decide) fl_X6_put_6_1 rfl dX6_put_32 ?_
    clear ca
    obtain ⟨cb, hf⟩ := m_chkPE hf
    replace cb := z_in hM (by decide) cb
    obtain ⟨cd, hf⟩ := m_chkPE hf
    refine z_copyc X hM (by rw [hml]; exact hl.1.symm) ac_X6_put.1 ac_X6_put.2 cb cd (Nat.le_of_ble_eq_true rfl) (Nat.le_of_ble_eq_true rfl) dX6_put_35 (fun H locs hM => ?_)
    clear cb cd
    obtain ⟨S10, ev, hf⟩ := m_bndPE hf
    replace hM := z_hS hM ev
    clear ev
    refine lv_aload_n hx hb dX6_put_38 rfl (lv_at hl 1 rfl) ?_
    refine lv_aload_n hx hb dX6_put_39 rfl (lv_at hl 0 rfl) ?_
    obtain ⟨ca, hf⟩ := m_chkPE hf
    replace ca := z_in hM (by decide) ca
    refine z_putP (k := 6) (j := 0) (C := RX6) (T := TX6) (N := 2) (fl := zf_6) (ty := tyX6 0) X hw_X6_put_6 tyX6_ok nmX6 hM rfl zc_6 ca (by decide) fl_X6_put_6_0 rfl (tyX6_ok 0 (by decide)) rfl rfl zp_6_0 (Nat.le_of_ble_eq_true rfl) dX6_put_40 (fun H locs hM => ?_)
    clear ca
    obtain ⟨S11, ev, hf⟩ := m_bndPE hf
    replace hM := z_hS hM ev
    clear ev
    exact w_X6_put_43 (x0 := x0) (x1 := x1) X hret hf hCT hM (lv_sub hl [1, 2] rfl)
def g_X6_put (x0 : Nat) (x1 : Int32) (S : ZS) (mc ms : Nat) (Pw : Int32 → ZS → Prop) : Prop := g_X6_put_0 Pw x0 x1 S mc ms
theorem c_X6_put {l : Launch} {D : va_G} {y : Nat → ClassId} {x0 : Nat} {x1 : Int32} {S : ZS} {kc kt : Nat} {Pw : Int32 → ZS → Prop} (hf : g_X6_put x0 x1 S kc kt Pw) : zWv l yX6_put wsX6_put ({ frames := 1, cells := kc, slots := kt, locals := 60 } : Room) [.ref (zh y x0), .int x1] D y S kc kt Pw :=
  z_wentV (own := RX6) (cc := cX6_put) (maxL := 3) (by decide) rfl rfl (Nat.le_of_ble_eq_true rfl) ⟨rfl, rfl⟩ (fun p e s m args below meth c A0 Q H locs ls X hret hM hl => w_X6_put_0 X hret hf ⟨Nat.le_refl _, Nat.le_refl _⟩ hM (lv_sub hl [0, 1] rfl))
theorem hd_X6_putAll : yX6_putAll.cls = RX6 ∧ yX6_putAll.cls ≠ "java/lang/invoke/MethodHandle" ∧ yX6_putAll.cls ≠ "java/lang/invoke/VarHandle" ∧ (parseMethodDescriptor yX6_putAll.desc).map (fun d => d.parameters.length) = some 1 := by decide +kernel
theorem fl_X6_putAll_6_1 : Cond.fieldLink RX6 16 "MoveTexts$Row" "length" "I" ∈ wsX6_putAll := by decide +kernel
theorem hw_X6_putAll_6 : ∀ w ∈ wsX60, w ∈ wsX6_putAll := by decide +kernel
def g_X6_putAll_2s (Pw : Int32 → ZS → Prop) (self2 : Nat → Nat → Int32 → ZS → Nat → Nat → Prop) (x0 : Nat) (x1 : Nat) (x2 : Int32) (S : ZS) (C T : Nat) : Prop :=
  m_chkQ (zK S x1 = 6) (
  m_ifQ ((zI S 1 x1) ≤ x2) (
  Pw 0 S
  ) (
  m_chkQ (zK S x1 = 6) (
  m_calP (f_X6_at x1 x2 S) (fun o1 =>
  m_chkQ (zK o1.2 x0 = 6) (
  m_gal (C) (T) (fun mc ms Pw => g_X6_put x0 o1.1 o1.2 mc ms Pw) (fun r3 S4 C5 T6 =>
  m_bndP (x2 + (1 : Int32)) (fun v7 =>
  self2 x0 x1 v7 S4 (C5) (T6))))))
  ))

set_option maxRecDepth 100000 in
set_option maxHeartbeats 4000000 in
theorem ws_X6_putAll_2 {p : Program} {l : Launch} {e : Env} {s : State} {m : MethodId} {args : Array Value} {below : List Frame} {meth : Method} {c : Code} {Q : State → Prop} {D : va_G} {y : Nat → ClassId} {A0 : Nat → Prop} {kc kt : Nat} {Pw : Int32 → ZS → Prop} (X : CallFix p m c cX6_putAll 3 s args wsX6_putAll RX6) (hret : zQv p l e ({ frames := 2, cells := kc, slots := kt, locals := 82 } : Room) s m args below meth c Q cX6_putAll D y A0 Pw) {self2 : Nat → Nat → Int32 → ZS → Nat → Nat → Prop} (hself2 : ∀ (x0 : Nat) (x1 : Nat) (x2 : Int32) (S : ZS) (C T : Nat) (H : Heap) (locs : List Loc) (ls : Array Slot), self2 x0 x1 x2 S C T → C ≤ kc ∧ T ≤ kt → zH D y A0 s H locs S → lv_has ls 3 [(0, .ref (zh y x0)), (1, .ref (zh y x1)), (2, .int x2)] → W p l e ({ frames := 2, cells := kc, slots := kt, locals := 82 } : Room) s m args below meth c H locs (kc - C) (kt - T) Q (F0 m 2 ls [])) {x0 : Nat} {x1 : Nat} {x2 : Int32} {S : ZS} {C T : Nat} {H : Heap} {locs : List Loc} {ls : Array Slot} (hf : g_X6_putAll_2s Pw self2 x0 x1 x2 S C T) (hCT : C ≤ kc ∧ T ≤ kt) (hM : zH D y A0 s H locs S) (hl : lv_has ls 3 [(0, .ref (zh y x0)), (1, .ref (zh y x1)), (2, .int x2)]) : W p l e ({ frames := 2, cells := kc, slots := kt, locals := 82 } : Room) s m args below meth c H locs (kc - C) (kt - T) Q (F0 m 2 ls []) := by
  obtain ⟨hx, hb, hml, hown, hts⟩ := id X
  unfold g_X6_putAll_2s at hf
  refine lv_iload_n hx hb dX6_putAll_2 rfl (lv_at hl 2 rfl) ?_
  refine lv_aload_n hx hb dX6_putAll_3 rfl (lv_at hl 1 rfl) ?_
  obtain ⟨ca, hf⟩ := m_chkPE hf
  replace ca := z_in hM (by decide) ca
  refine z_get (k := 6) (j := 1) (C := RX6) (T := TX6) (N := 2) (fl := zf_6) (v := .int (zI S 1 x1)) X hw_X6_putAll_6 hM rfl zc_6 ca (by decide) fl_X6_putAll_6_1 rfl dX6_putAll_4 ?_
  clear ca
  refine lv_icmp_ge (tgt := 25) hx hb dX6_putAll_7 (by decide) (fun cc1 => ?_) (fun cc1 => ?_)
  · replace hf := m_ifPT hf cc1
    exact hret _ _ _ H locs _ ls hf hM dX6_putAll_25
  · replace hf := m_ifPF hf cc1
    refine lv_aload_n hx hb dX6_putAll_10 rfl (lv_at hl 0 rfl) ?_
    refine lv_aload_n hx hb dX6_putAll_11 rfl (lv_at hl 1 rfl) ?_
    refine lv_iload_n hx hb dX6_putAll_12 rfl (lv_at hl 2 rfl) ?_
    obtain ⟨ca, hf⟩ := m_chkPE hf
    replace ca := z_in hM (by decide) ca
    obtain ⟨o1, ho, hf⟩ := m_calPE hf
    refine z_gcallVi (k := 6) (C := RX6) (T := TX6) (N := 2) (fl := zf_6) X hM rfl zc_6 ca (c_X6_at ho) gX6_putAll_X6_at rfl ⟨rfl, rfl⟩ hd_X6_at ⟨Nat.le_of_ble_eq_true rfl, Nat.le_of_ble_eq_true rfl⟩ rfl hl.1 rfl ⟨Nat.sub_le _ _, Nat.sub_le _ _⟩ (Nat.le_of_ble_eq_true rfl) dX6_putAll_13 (fun H locs hM => ?_)
    clear ho
    obtain ⟨ca, hf⟩ := m_chkPE hf
    replace ca := z_in hM (by decide) ca
    obtain ⟨mc, ms, hcm, ho⟩ := m_galE hf
    refine z_wcallVv (k := 6) (C := RX6) (T := TX6) (N := 2) (fl := zf_6) X hM rfl zc_6 ca (c_X6_put ho) gX6_putAll_X6_put rfl ⟨rfl, rfl⟩ ⟨by show kc - (C) + mc ≤ kc; omega, by show kt - (T) + ms ≤ kt; omega⟩ hd_X6_put ⟨Nat.le_of_ble_eq_true rfl, Nat.le_of_ble_eq_true rfl⟩ rfl hl.1 rfl (Nat.le_of_ble_eq_true rfl) dX6_putAll_16 (fun S4 H locs hf hM => ?_)
    refine z_eqCS (c2 := kc - (C - mc)) (t2 := kt - (T - ms)) (by omega) (by omega) ?_
    replace hCT : C - mc ≤ kc ∧ T - ms ≤ kt := by omega
    generalize C - mc = C5 at hf hCT ⊢
    generalize T - ms = T6 at hf hCT ⊢
    clear ho hcm
    obtain ⟨v7, ev, hf⟩ := m_bndPE hf
    refine lv_iinc (v := v7) (lv' := [(2, .int v7), (0, .ref (zh y x0)), (1, .ref (zh y x1))]) hx hb dX6_putAll_19 hl (k := 2) rfl (by rw [ev]; rfl) (by decide) rfl (fun ls hl => ?_)
    clear ev
    refine lv_goto (tgt := 2) hx hb dX6_putAll_22 (by decide) ?_
    exact hself2 x0 x1 v7 _ _ _ _ _ _ hf hCT hM (lv_sub hl [1, 2, 0] rfl)
def g_X6_putAll_2 (Pw : Int32 → ZS → Prop) : Nat → Nat → Nat → Int32 → ZS → Nat → Nat → Prop
  | 0 => fun _ _ _ _ _ _ => False
  | n + 1 => g_X6_putAll_2s Pw (g_X6_putAll_2 Pw n)
theorem w_X6_putAll_2 {p : Program} {l : Launch} {e : Env} {s : State} {m : MethodId} {args : Array Value} {below : List Frame} {meth : Method} {c : Code} {Q : State → Prop} {D : va_G} {y : Nat → ClassId} {A0 : Nat → Prop} {kc kt : Nat} {Pw : Int32 → ZS → Prop} (X : CallFix p m c cX6_putAll 3 s args wsX6_putAll RX6) (hret : zQv p l e ({ frames := 2, cells := kc, slots := kt, locals := 82 } : Room) s m args below meth c Q cX6_putAll D y A0 Pw) (n : Nat) : ∀ (x0 : Nat) (x1 : Nat) (x2 : Int32) (S : ZS) (C T : Nat) (H : Heap) (locs : List Loc) (ls : Array Slot), g_X6_putAll_2 Pw n x0 x1 x2 S C T → C ≤ kc ∧ T ≤ kt → zH D y A0 s H locs S → lv_has ls 3 [(0, .ref (zh y x0)), (1, .ref (zh y x1)), (2, .int x2)] → W p l e ({ frames := 2, cells := kc, slots := kt, locals := 82 } : Room) s m args below meth c H locs (kc - C) (kt - T) Q (F0 m 2 ls []) := by
  induction n with
  | zero => intro x0 x1 x2 S C T H locs ls hf; exact absurd hf id
  | succ n ih => intro x0 x1 x2 S C T H locs ls hf hCT hM hl; exact ws_X6_putAll_2 X hret (self2 := g_X6_putAll_2 Pw n) ih hf hCT hM hl
def g_X6_putAll_0 (Pw : Int32 → ZS → Prop) (x0 : Nat) (x1 : Nat) (S : ZS) (C T : Nat) : Prop :=
  g_X6_putAll_2 Pw mFuel x0 x1 (0 : Int32) S (C) (T)

set_option maxRecDepth 100000 in
set_option maxHeartbeats 4000000 in
theorem w_X6_putAll_0 {p : Program} {l : Launch} {e : Env} {s : State} {m : MethodId} {args : Array Value} {below : List Frame} {meth : Method} {c : Code} {Q : State → Prop} {D : va_G} {y : Nat → ClassId} {A0 : Nat → Prop} {kc kt : Nat} {Pw : Int32 → ZS → Prop} (X : CallFix p m c cX6_putAll 3 s args wsX6_putAll RX6) (hret : zQv p l e ({ frames := 2, cells := kc, slots := kt, locals := 82 } : Room) s m args below meth c Q cX6_putAll D y A0 Pw) {x0 : Nat} {x1 : Nat} {S : ZS} {C T : Nat} {H : Heap} {locs : List Loc} {ls : Array Slot} (hf : g_X6_putAll_0 Pw x0 x1 S C T) (hCT : C ≤ kc ∧ T ≤ kt) (hM : zH D y A0 s H locs S) (hl : lv_has ls 3 [(0, .ref (zh y x0)), (1, .ref (zh y x1))]) : W p l e ({ frames := 2, cells := kc, slots := kt, locals := 82 } : Room) s m args below meth c H locs (kc - C) (kt - T) Q (F0 m 0 ls []) := by
  obtain ⟨hx, hb, hml, hown, hts⟩ := id X
  unfold g_X6_putAll_0 at hf
  refine lv_iconst (v := (0 : Int32)) hx hb dX6_putAll_0 (by decide) ?_
  refine lv_istore_n (lv' := [(2, .int (0 : Int32)), (0, .ref (zh y x0)), (1, .ref (zh y x1))]) hx hb dX6_putAll_1 rfl hl (by decide) rfl (fun ls hl => ?_)
  exact w_X6_putAll_2 X hret _ x0 x1 (0 : Int32) _ _ _ _ _ _ hf hCT hM (lv_sub hl [1, 2, 0] rfl)
def g_X6_putAll (x0 : Nat) (x1 : Nat) (S : ZS) (mc ms : Nat) (Pw : Int32 → ZS → Prop) : Prop := g_X6_putAll_0 Pw x0 x1 S mc ms
theorem c_X6_putAll {l : Launch} {D : va_G} {y : Nat → ClassId} {x0 : Nat} {x1 : Nat} {S : ZS} {kc kt : Nat} {Pw : Int32 → ZS → Prop} (hf : g_X6_putAll x0 x1 S kc kt Pw) : zWv l yX6_putAll wsX6_putAll ({ frames := 2, cells := kc, slots := kt, locals := 82 } : Room) [.ref (zh y x0), .ref (zh y x1)] D y S kc kt Pw :=
  z_wentV (own := RX6) (cc := cX6_putAll) (maxL := 3) (by decide) rfl rfl (Nat.le_of_ble_eq_true rfl) ⟨rfl, rfl⟩ (fun p e s m args below meth c A0 Q H locs ls X hret hM hl => w_X6_putAll_0 X hret hf ⟨Nat.le_refl _, Nat.le_refl _⟩ hM (lv_sub hl [0, 1] rfl))
theorem hd_X6_copyFrom : yX6_copyFrom.cls = RX6 ∧ yX6_copyFrom.cls ≠ "java/lang/invoke/MethodHandle" ∧ yX6_copyFrom.cls ≠ "java/lang/invoke/VarHandle" ∧ (parseMethodDescriptor yX6_copyFrom.desc).map (fun d => d.parameters.length) = some 1 := by decide +kernel
theorem fl_X6_copyFrom_6_1 : Cond.fieldLink RX6 16 "MoveTexts$Row" "length" "I" ∈ wsX6_copyFrom := by decide +kernel
theorem hw_X6_copyFrom_6 : ∀ w ∈ wsX60, w ∈ wsX6_copyFrom := by decide +kernel
def g_X6_copyFrom_0 (Pw : Int32 → ZS → Prop) (x0 : Nat) (x1 : Nat) (S : ZS) (C T : Nat) : Prop :=
  m_chkQ (zK S x0 = 6) (
  m_bndP (zsI S 1 x0 (0 : Int32)) (fun S1 =>
  m_chkQ (zK S1 x0 = 6) (
  m_gal (C) (T) (fun mc ms Pw => g_X6_putAll x0 x1 S1 mc ms Pw) (fun r3 S4 C5 T6 =>
  Pw 0 S4))))

set_option maxRecDepth 100000 in
set_option maxHeartbeats 4000000 in
theorem w_X6_copyFrom_0 {p : Program} {l : Launch} {e : Env} {s : State} {m : MethodId} {args : Array Value} {below : List Frame} {meth : Method} {c : Code} {Q : State → Prop} {D : va_G} {y : Nat → ClassId} {A0 : Nat → Prop} {kc kt : Nat} {Pw : Int32 → ZS → Prop} (X : CallFix p m c cX6_copyFrom 2 s args wsX6_copyFrom RX6) (hret : zQv p l e ({ frames := 3, cells := kc, slots := kt, locals := 104 } : Room) s m args below meth c Q cX6_copyFrom D y A0 Pw) {x0 : Nat} {x1 : Nat} {S : ZS} {C T : Nat} {H : Heap} {locs : List Loc} {ls : Array Slot} (hf : g_X6_copyFrom_0 Pw x0 x1 S C T) (hCT : C ≤ kc ∧ T ≤ kt) (hM : zH D y A0 s H locs S) (hl : lv_has ls 2 [(0, .ref (zh y x0)), (1, .ref (zh y x1))]) : W p l e ({ frames := 3, cells := kc, slots := kt, locals := 104 } : Room) s m args below meth c H locs (kc - C) (kt - T) Q (F0 m 0 ls []) := by
  obtain ⟨hx, hb, hml, hown, hts⟩ := id X
  unfold g_X6_copyFrom_0 at hf
  refine lv_aload_n hx hb dX6_copyFrom_0 rfl (lv_at hl 0 rfl) ?_
  refine lv_iconst (v := (0 : Int32)) hx hb dX6_copyFrom_1 (by decide) ?_
  obtain ⟨ca, hf⟩ := m_chkPE hf
  replace ca := z_in hM (by decide) ca
  refine z_putI (k := 6) (j := 1) (C := RX6) (T := TX6) (N := 2) (fl := zf_6) (ty := .int) X hw_X6_copyFrom_6 tyX6_ok nmX6 hM rfl zc_6 ca (by decide) fl_X6_copyFrom_6_1 rfl (tyX6_ok 1 (by decide)) rfl rfl zi_6_1 (Nat.le_of_ble_eq_true rfl) dX6_copyFrom_2 (fun H locs hM => ?_)
  clear ca
  obtain ⟨S1, ev, hf⟩ := m_bndPE hf
  replace hM := z_hS hM ev
  clear ev
  refine lv_aload_n hx hb dX6_copyFrom_5 rfl (lv_at hl 0 rfl) ?_
  refine lv_aload_n hx hb dX6_copyFrom_6 rfl (lv_at hl 1 rfl) ?_
  obtain ⟨ca, hf⟩ := m_chkPE hf
  replace ca := z_in hM (by decide) ca
  obtain ⟨mc, ms, hcm, ho⟩ := m_galE hf
  refine z_wcallVv (k := 6) (C := RX6) (T := TX6) (N := 2) (fl := zf_6) X hM rfl zc_6 ca (c_X6_putAll ho) gX6_copyFrom_X6_putAll rfl ⟨rfl, rfl⟩ ⟨by show kc - (C) + mc ≤ kc; omega, by show kt - (T) + ms ≤ kt; omega⟩ hd_X6_putAll ⟨Nat.le_of_ble_eq_true rfl, Nat.le_of_ble_eq_true rfl⟩ rfl hl.1 rfl (Nat.le_of_ble_eq_true rfl) dX6_copyFrom_7 (fun S4 H locs hf hM => ?_)
  refine z_eqCS (c2 := kc - (C - mc)) (t2 := kt - (T - ms)) (by omega) (by omega) ?_
  replace hCT : C - mc ≤ kc ∧ T - ms ≤ kt := by omega
  generalize C - mc = C5 at hf hCT ⊢
  generalize T - ms = T6 at hf hCT ⊢
  clear ho hcm
  exact hret _ _ _ H locs _ ls hf hM dX6_copyFrom_10
def g_X6_copyFrom (x0 : Nat) (x1 : Nat) (S : ZS) (mc ms : Nat) (Pw : Int32 → ZS → Prop) : Prop := g_X6_copyFrom_0 Pw x0 x1 S mc ms
theorem c_X6_copyFrom {l : Launch} {D : va_G} {y : Nat → ClassId} {x0 : Nat} {x1 : Nat} {S : ZS} {kc kt : Nat} {Pw : Int32 → ZS → Prop} (hf : g_X6_copyFrom x0 x1 S kc kt Pw) : zWv l yX6_copyFrom wsX6_copyFrom ({ frames := 3, cells := kc, slots := kt, locals := 104 } : Room) [.ref (zh y x0), .ref (zh y x1)] D y S kc kt Pw :=
  z_wentV (own := RX6) (cc := cX6_copyFrom) (maxL := 2) (by decide) rfl rfl (Nat.le_of_ble_eq_true rfl) ⟨rfl, rfl⟩ (fun p e s m args below meth c A0 Q H locs ls X hret hM hl => w_X6_copyFrom_0 X hret hf ⟨Nat.le_refl _, Nat.le_refl _⟩ hM (lv_sub hl [0, 1] rfl))
theorem hd_X1_putTag : yX1_putTag.cls = RX1 ∧ yX1_putTag.cls ≠ "java/lang/invoke/MethodHandle" ∧ yX1_putTag.cls ≠ "java/lang/invoke/VarHandle" ∧ (parseMethodDescriptor yX1_putTag.desc).map (fun d => d.parameters.length) = some 2 := by decide +kernel
theorem fl_X1_putTag_10_0 : Cond.fieldLink RX1 89 "MoveTexts$Tag" "name" "LMoveTexts$Row;" ∈ wsX1_putTag := by decide +kernel
theorem fl_X1_putTag_10_1 : Cond.fieldLink RX1 102 "MoveTexts$Tag" "value" "LMoveTexts$Row;" ∈ wsX1_putTag := by decide +kernel
theorem fl_X1_putTag_1_4 : Cond.fieldLink RX1 35 "MoveTexts$Game" "tagRow" "[LMoveTexts$Tag;" ∈ wsX1_putTag := by decide +kernel
theorem fl_X1_putTag_1_5 : Cond.fieldLink RX1 39 "MoveTexts$Game" "tagCount" "I" ∈ wsX1_putTag := by decide +kernel
theorem hw_X1_putTag_1 : ∀ w ∈ wsX10, w ∈ wsX1_putTag := by decide +kernel
theorem hw_X1_putTag_10 : ∀ w ∈ wsX100, w ∈ wsX1_putTag := by decide +kernel
theorem ii_X1_putTag_84 : (RX1, 84, yX10_init, "MoveTexts") ∈ zNW ∧ Cond.initialized yX10_init.cls ∈ wsX1_putTag ∧ Cond.instanceMethod yX10_init ∈ wsX1_putTag := by decide +kernel
theorem nw_X1_putTag_33 : Cond.classLink RX1 33 RX10 ∈ wsX1_putTag ∧ Cond.instantiable RX10 2 ∈ wsX1_putTag ∧ Cond.initialized RX10 ∈ wsX1_putTag := by decide +kernel
def g_X1_putTag_38 (Pw : Int32 → ZS → Prop) (x0 : Nat) (x1 : Nat) (x2 : Nat) (S : ZS) (C T : Nat) : Prop :=
  m_chkQ (zK S x0 = 1) (
  m_bndP ((zI S 5 x0) + (1 : Int32)) (fun v1 =>
  m_chkQ (zK S x0 = 1) (
  m_bndP (zsI S 5 x0 v1) (fun S2 =>
  m_chkQ (zK S2 x0 = 1) (
  m_bndP ((zI S2 5 x0) - (1 : Int32)) (fun v3 =>
  m_chkQ (zK S2 x0 = 1) (
  m_galN (C) (T) (fun mc ms Pw => g_X1_tagAt x0 v3 S2 mc ms Pw) (fun r5 S6 C7 T8 =>
  m_chkQ (zK S6 r5 = 10) (
  m_calP (zP S6 0 r5) (fun b9 =>
  m_chkQ (zK S6 b9 = 6) (
  m_gal (C7) (T8) (fun mc ms Pw => g_X6_copyFrom b9 x1 S6 mc ms Pw) (fun r11 S12 C13 T14 =>
  m_chkQ (zK S12 x0 = 1) (
  m_bndP ((zI S12 5 x0) - (1 : Int32)) (fun v15 =>
  m_chkQ (zK S12 x0 = 1) (
  m_galN (C13) (T14) (fun mc ms Pw => g_X1_tagAt x0 v15 S12 mc ms Pw) (fun r17 S18 C19 T20 =>
  m_chkQ (zK S18 r17 = 10) (
  m_calP (zP S18 1 r17) (fun b21 =>
  m_chkQ (zK S18 b21 = 6) (
  m_gal (C19) (T20) (fun mc ms Pw => g_X6_copyFrom b21 x2 S18 mc ms Pw) (fun r23 S24 C25 T26 =>
  Pw 0 S24))))))))))))))))))))

set_option maxRecDepth 100000 in
set_option maxHeartbeats 4000000 in
theorem w_X1_putTag_38 {p : Program} {l : Launch} {e : Env} {s : State} {m : MethodId} {args : Array Value} {below : List Frame} {meth : Method} {c : Code} {Q : State → Prop} {D : va_G} {y : Nat → ClassId} {A0 : Nat → Prop} {kc kt : Nat} {Pw : Int32 → ZS → Prop} (X : CallFix p m c cX1_putTag 3 s args wsX1_putTag RX1) (hret : zQv p l e ({ frames := 4, cells := kc, slots := kt, locals := 125 } : Room) s m args below meth c Q cX1_putTag D y A0 Pw) {x0 : Nat} {x1 : Nat} {x2 : Nat} {S : ZS} {C T : Nat} {H : Heap} {locs : List Loc} {ls : Array Slot} (hf : g_X1_putTag_38 Pw x0 x1 x2 S C T) (hCT : C ≤ kc ∧ T ≤ kt) (hM : zH D y A0 s H locs S) (hl : lv_has ls 3 [(0, .ref (zh y x0)), (1, .ref (zh y x1)), (2, .ref (zh y x2))]) : W p l e ({ frames := 4, cells := kc, slots := kt, locals := 125 } : Room) s m args below meth c H locs (kc - C) (kt - T) Q (F0 m 38 ls []) := by
  obtain ⟨hx, hb, hml, hown, hts⟩ := id X
  unfold g_X1_putTag_38 at hf
  refine lv_aload_n hx hb dX1_putTag_38 rfl (lv_at hl 0 rfl) ?_
  refine lv_dup hx hb dX1_putTag_39 rfl ?_
  obtain ⟨ca, hf⟩ := m_chkPE hf
  replace ca := z_in hM (by decide) ca
  refine z_get (k := 1) (j := 5) (C := RX1) (T := TX1) (N := 8) (fl := zf_1) (v := .int (zI S 5 x0)) X hw_X1_putTag_1 hM rfl zc_1 ca (by decide) fl_X1_putTag_1_5 rfl dX1_putTag_40 ?_
  clear ca
  refine lv_iconst (v := (1 : Int32)) hx hb dX1_putTag_43 (by decide) ?_
  refine lv_iadd hx hb dX1_putTag_44 ?_
  obtain ⟨v1, ev, hf⟩ := m_bndPE hf
  refine m_top ev ?_
  clear ev
  obtain ⟨ca, hf⟩ := m_chkPE hf
  replace ca := z_in hM (by decide) ca
  refine z_putI (k := 1) (j := 5) (C := RX1) (T := TX1) (N := 8) (fl := zf_1) (ty := .int) X hw_X1_putTag_1 tyX1_ok nmX1 hM rfl zc_1 ca (by decide) fl_X1_putTag_1_5 rfl (tyX1_ok 5 (by decide)) rfl rfl zi_1_5 (Nat.le_of_ble_eq_true rfl) dX1_putTag_45 (fun H locs hM => ?_)
  clear ca
  obtain ⟨S2, ev, hf⟩ := m_bndPE hf
  replace hM := z_hS hM ev
  clear ev
  refine lv_aload_n hx hb dX1_putTag_48 rfl (lv_at hl 0 rfl) ?_
  refine lv_aload_n hx hb dX1_putTag_49 rfl (lv_at hl 0 rfl) ?_
  obtain ⟨ca, hf⟩ := m_chkPE hf
  replace ca := z_in hM (by decide) ca
  refine z_get (k := 1) (j := 5) (C := RX1) (T := TX1) (N := 8) (fl := zf_1) (v := .int (zI S2 5 x0)) X hw_X1_putTag_1 hM rfl zc_1 ca (by decide) fl_X1_putTag_1_5 rfl dX1_putTag_50 ?_
  clear ca
  refine lv_iconst (v := (1 : Int32)) hx hb dX1_putTag_53 (by decide) ?_
  refine lv_isub hx hb dX1_putTag_54 ?_
  obtain ⟨v3, ev, hf⟩ := m_bndPE hf
  refine m_top ev ?_
  clear ev
  obtain ⟨ca, hf⟩ := m_chkPE hf
  replace ca := z_in hM (by decide) ca
  obtain ⟨mc, ms, hcm, ho⟩ := m_galNE hf
  refine z_wcallVr (k := 1) (C := RX1) (T := TX1) (N := 8) (fl := zf_1) X hM rfl zc_1 ca (c_X1_tagAt ho) gX1_putTag_X1_tagAt rfl ⟨rfl, rfl⟩ ⟨by show kc - (C) + mc ≤ kc; omega, by show kt - (T) + ms ≤ kt; omega⟩ hd_X1_tagAt ⟨Nat.le_of_ble_eq_true rfl, Nat.le_of_ble_eq_true rfl⟩ rfl hl.1 rfl (Nat.le_of_ble_eq_true rfl) dX1_putTag_55 (fun r5 S6 H locs hf hM => ?_)
  refine z_eqCS (c2 := kc - (C - mc)) (t2 := kt - (T - ms)) (by omega) (by omega) ?_
  replace hCT : C - mc ≤ kc ∧ T - ms ≤ kt := by omega
  generalize C - mc = C7 at hf hCT ⊢
  generalize T - ms = T8 at hf hCT ⊢
  clear ho hcm
  obtain ⟨ca, hf⟩ := m_chkPE hf
  replace ca := z_in hM (by decide) ca
  refine z_get (k := 10) (j := 0) (C := RX10) (T := TX10) (N := 2) (fl := zf_10) (v := va_rf ((zP S6 0 r5).map (zh y))) X hw_X1_putTag_10 hM rfl zc_10 ca (by decide) fl_X1_putTag_10_0 rfl dX1_putTag_58 ?_
  clear ca
  obtain ⟨b9, hb9, hf⟩ := m_calPE hf
  refine z_topr hb9 ?_
  clear hb9
  refine lv_aload_n hx hb dX1_putTag_61 rfl (lv_at hl 1 rfl) ?_
  obtain ⟨ca, hf⟩ := m_chkPE hf
  replace ca := z_in hM (by decide) ca
  obtain ⟨mc, ms, hcm, ho⟩ := m_galE hf
  refine z_wcallVv (k := 6) (C := RX6) (T := TX6) (N := 2) (fl := zf_6) X hM rfl zc_6 ca (c_X6_copyFrom ho) gX1_putTag_X6_copyFrom rfl ⟨rfl, rfl⟩ ⟨by show kc - (C7) + mc ≤ kc; omega, by show kt - (T8) + ms ≤ kt; omega⟩ hd_X6_copyFrom ⟨Nat.le_of_ble_eq_true rfl, Nat.le_of_ble_eq_true rfl⟩ rfl hl.1 rfl (Nat.le_of_ble_eq_true rfl) dX1_putTag_62 (fun S12 H locs hf hM => ?_)
  refine z_eqCS (c2 := kc - (C7 - mc)) (t2 := kt - (T8 - ms)) (by omega) (by omega) ?_
  replace hCT : C7 - mc ≤ kc ∧ T8 - ms ≤ kt := by omega
  generalize C7 - mc = C13 at hf hCT ⊢
  generalize T8 - ms = T14 at hf hCT ⊢
  clear ho hcm
  refine lv_aload_n hx hb dX1_putTag_65 rfl (lv_at hl 0 rfl) ?_
  refine lv_aload_n hx hb dX1_putTag_66 rfl (lv_at hl 0 rfl) ?_
  obtain ⟨ca, hf⟩ := m_chkPE hf
  replace ca := z_in hM (by decide) ca
  refine z_get (k := 1) (j := 5) (C := RX1) (T := TX1) (N := 8) (fl := zf_1) (v := .int (zI S12 5 x0)) X hw_X1_putTag_1 hM rfl zc_1 ca (by decide) fl_X1_putTag_1_5 rfl dX1_putTag_67 ?_
  clear ca
  refine lv_iconst (v := (1 : Int32)) hx hb dX1_putTag_70 (by decide) ?_
  refine lv_isub hx hb dX1_putTag_71 ?_
  obtain ⟨v15, ev, hf⟩ := m_bndPE hf
  refine m_top ev ?_
  clear ev
  obtain ⟨ca, hf⟩ := m_chkPE hf
  replace ca := z_in hM (by decide) ca
  obtain ⟨mc, ms, hcm, ho⟩ := m_galNE hf
  refine z_wcallVr (k := 1) (C := RX1) (T := TX1) (N := 8) (fl := zf_1) X hM rfl zc_1 ca (c_X1_tagAt ho) gX1_putTag_X1_tagAt rfl ⟨rfl, rfl⟩ ⟨by show kc - (C13) + mc ≤ kc; omega, by show kt - (T14) + ms ≤ kt; omega⟩ hd_X1_tagAt ⟨Nat.le_of_ble_eq_true rfl, Nat.le_of_ble_eq_true rfl⟩ rfl hl.1 rfl (Nat.le_of_ble_eq_true rfl) dX1_putTag_72 (fun r17 S18 H locs hf hM => ?_)
  refine z_eqCS (c2 := kc - (C13 - mc)) (t2 := kt - (T14 - ms)) (by omega) (by omega) ?_
  replace hCT : C13 - mc ≤ kc ∧ T14 - ms ≤ kt := by omega
  generalize C13 - mc = C19 at hf hCT ⊢
  generalize T14 - ms = T20 at hf hCT ⊢
  clear ho hcm
  obtain ⟨ca, hf⟩ := m_chkPE hf
  replace ca := z_in hM (by decide) ca
  refine z_get (k := 10) (j := 1) (C := RX10) (T := TX10) (N := 2) (fl := zf_10) (v := va_rf ((zP S18 1 r17).map (zh y))) X hw_X1_putTag_10 hM rfl zc_10 ca (by decide) fl_X1_putTag_10_1 rfl dX1_putTag_75 ?_
  clear ca
  obtain ⟨b21, hb9, hf⟩ := m_calPE hf
  refine z_topr hb9 ?_
  clear hb9
  refine lv_aload_n hx hb dX1_putTag_78 rfl (lv_at hl 2 rfl) ?_
  obtain ⟨ca, hf⟩ := m_chkPE hf
  replace ca := z_in hM (by decide) ca
  obtain ⟨mc, ms, hcm, ho⟩ := m_galE hf
  refine z_wcallVv (k := 6) (C := RX6) (T := TX6) (N := 2) (fl := zf_6) X hM rfl zc_6 ca (c_X6_copyFrom ho) gX1_putTag_X6_copyFrom rfl ⟨rfl, rfl⟩ ⟨by show kc - (C19) + mc ≤ kc; omega, by show kt - (T20) + ms ≤ kt; omega⟩ hd_X6_copyFrom ⟨Nat.le_of_ble_eq_true rfl, Nat.le_of_ble_eq_true rfl⟩ rfl hl.1 rfl (Nat.le_of_ble_eq_true rfl) dX1_putTag_79 (fun S24 H locs hf hM => ?_)
  refine z_eqCS (c2 := kc - (C19 - mc)) (t2 := kt - (T20 - ms)) (by omega) (by omega) ?_
  replace hCT : C19 - mc ≤ kc ∧ T20 - ms ≤ kt := by omega
  generalize C19 - mc = C25 at hf hCT ⊢
  generalize T20 - ms = T26 at hf hCT ⊢
  clear ho hcm
  exact hret _ _ _ H locs _ ls hf hM dX1_putTag_82
def g_X1_putTag_0 (Pw : Int32 → ZS → Prop) (x0 : Nat) (x1 : Nat) (x2 : Nat) (S : ZS) (C T : Nat) : Prop :=
  m_chkQ (zK S x0 = 1) (
  m_ifQ ((zI S 5 x0) < (8 : Int32)) (
  m_chkQ (zK S x0 = 1) (
  m_calP (zP S 4 x0) (fun b1 =>
  m_chkQ (zK S x0 = 1) (
  m_chkQ (zK S b1 = 17) (
  m_chkQ (¬ ((zI S 5 x0) < 0 ∨ zN S b1 ≤ ((zI S 5 x0)).toNatClampNeg)) (
  m_bndP (zB S b1 ((zI S 5 x0)).toNatClampNeg) (fun v2 =>
  m_optP v2 (
  m_chkQ (zK S x0 = 1) (
  m_calP (zP S 4 x0) (fun b4 =>
  m_chkQ (zK S x0 = 1) (
  m_newP (C) (T) 2 (zt S) (fun q5 C7 T8 =>
  m_bndP (zsNewO S q5 10 2) (fun S6 =>
  m_gal (C7) (T8) (fun mc ms Pw => g_X10_init q5 S6 mc ms Pw) (fun r10 S11 C12 T13 =>
  m_chkQ (zK S11 b4 = 17) (
  m_chkQ (zK S11 q5 = 10) (
  m_chkQ (¬ ((zI S 5 x0) < 0 ∨ zN S11 b4 ≤ ((zI S 5 x0)).toNatClampNeg)) (
  m_bndP (zsB S11 b4 ((zI S 5 x0)).toNatClampNeg (some q5)) (fun S14 =>
  g_X1_putTag_38 Pw x0 x1 x2 S14 (C12) (T13)))))))))))
  ) (fun b3 =>
  g_X1_putTag_38 Pw x0 x1 x2 S (C) (T)
  )))))))
  ) (
  Pw 0 S
  ))

set_option maxRecDepth 100000 in
set_option maxHeartbeats 4000000 in
theorem w_X1_putTag_0 {p : Program} {l : Launch} {e : Env} {s : State} {m : MethodId} {args : Array Value} {below : List Frame} {meth : Method} {c : Code} {Q : State → Prop} {D : va_G} {y : Nat → ClassId} {A0 : Nat → Prop} {kc kt : Nat} {Pw : Int32 → ZS → Prop} (X : CallFix p m c cX1_putTag 3 s args wsX1_putTag RX1) (hret : zQv p l e ({ frames := 4, cells := kc, slots := kt, locals := 125 } : Room) s m args below meth c Q cX1_putTag D y A0 Pw) {x0 : Nat} {x1 : Nat} {x2 : Nat} {S : ZS} {C T : Nat} {H : Heap} {locs : List Loc} {ls : Array Slot} (hf : g_X1_putTag_0 Pw x0 x1 x2 S C T) (hCT : C ≤ kc ∧ T ≤ kt) (hM : zH D y A0 s H locs S) (hl : lv_has ls 3 [(0, .ref (zh y x0)), (1, .ref (zh y x1)), (2, .ref (zh y x2))]) : W p l e ({ frames := 4, cells := kc, slots := kt, locals := 125 } : Room) s m args below meth c H locs (kc - C) (kt - T) Q (F0 m 0 ls []) := by
  obtain ⟨hx, hb, hml, hown, hts⟩ := id X
  unfold g_X1_putTag_0 at hf
  refine lv_aload_n hx hb dX1_putTag_0 rfl (lv_at hl 0 rfl) ?_
  obtain ⟨ca, hf⟩ := m_chkPE hf
  replace ca := z_in hM (by decide) ca
  refine z_get (k := 1) (j := 5) (C := RX1) (T := TX1) (N := 8) (fl := zf_1) (v := .int (zI S 5 x0)) X hw_X1_putTag_1 hM rfl zc_1 ca (by decide) fl_X1_putTag_1_5 rfl dX1_putTag_1 ?_
  clear ca
  refine lv_bipush (v := (8 : Int32)) hx hb dX1_putTag_4 (by decide) ?_
  refine lv_icmp_lt (tgt := 10) hx hb dX1_putTag_6 (by decide) (fun cc1 => ?_) (fun cc1 => ?_)
  · replace hf := m_ifPT hf cc1
    refine lv_aload_n hx hb dX1_putTag_10 rfl (lv_at hl 0 rfl) ?_
    obtain ⟨ca, hf⟩ := m_chkPE hf
    replace ca := z_in hM (by decide) ca
    refine z_get (k := 1) (j := 4) (C := RX1) (T := TX1) (N := 8) (fl := zf_1) (v := va_rf ((zP S 4 x0).map (zh y))) X hw_X1_putTag_1 hM rfl zc_1 ca (by decide) fl_X1_putTag_1_4 rfl dX1_putTag_11 ?_
    clear ca
    obtain ⟨b1, hb9, hf⟩ := m_calPE hf
    refine z_topr hb9 ?_
    clear hb9
    refine lv_aload_n hx hb dX1_putTag_14 rfl (lv_at hl 0 rfl) ?_
    obtain ⟨ca, hf⟩ := m_chkPE hf
    replace ca := z_in hM (by decide) ca
    refine z_get (k := 1) (j := 5) (C := RX1) (T := TX1) (N := 8) (fl := zf_1) (v := .int (zI S 5 x0)) X hw_X1_putTag_1 hM rfl zc_1 ca (by decide) fl_X1_putTag_1_5 rfl dX1_putTag_15 ?_
    clear ca
    obtain ⟨ca, hf⟩ := m_chkPE hf
    replace ca := z_in hM (by decide) ca
    obtain ⟨cd, hf⟩ := m_chkPE hf
    refine z_aald (k := 17) (t0 := 4) (C := "MoveTexts$Tag") X hM (fun _ _ _ _ _ => rfl) rfl ca cd dX1_putTag_18 ?_
    clear ca cd
    obtain ⟨v2, ev, hf⟩ := m_bndPE hf
    refine z_topq ev ?_
    clear ev
    cases v2 with
    | none =>
      replace hf := m_optPN hf
      refine lv_ifnonnullN hx hb dX1_putTag_19 ?_
      refine lv_aload_n hx hb dX1_putTag_22 rfl (lv_at hl 0 rfl) ?_
      obtain ⟨ca, hf⟩ := m_chkPE hf
      replace ca := z_in hM (by decide) ca
      refine z_get (k := 1) (j := 4) (C := RX1) (T := TX1) (N := 8) (fl := zf_1) (v := va_rf ((zP S 4 x0).map (zh y))) X hw_X1_putTag_1 hM rfl zc_1 ca (by decide) fl_X1_putTag_1_4 rfl dX1_putTag_23 ?_
      clear ca
      obtain ⟨b4, hb9, hf⟩ := m_calPE hf
      refine z_topr hb9 ?_
      clear hb9
      refine lv_aload_n hx hb dX1_putTag_26 rfl (lv_at hl 0 rfl) ?_
      obtain ⟨ca, hf⟩ := m_chkPE hf
      replace ca := z_in hM (by decide) ca
      refine z_get (k := 1) (j := 5) (C := RX1) (T := TX1) (N := 8) (fl := zf_1) (v := .int (zI S 5 x0)) X hw_X1_putTag_1 hM rfl zc_1 ca (by decide) fl_X1_putTag_1_5 rfl dX1_putTag_27 ?_
      clear ca
      obtain ⟨hcm, ho⟩ := hf
      refine z_newO (k := 10) (C := RX10) (T := TX10) (N := 2) (fl := zf_10) X hw_X1_putTag_10 tyX10_ok hM rfl zc_10 nw_X1_putTag_33 zd_10 ⟨by show kc - (C) + 1 ≤ kc; omega, by show kt - (T) + 2 ≤ kt; omega⟩ dX1_putTag_30 (fun q5 H hq hM => ?_)
      replace hf := ho q5 hq
      refine z_eqCS (c2 := kc - (C - 1)) (t2 := kt - (T - 2)) (by omega) (by omega) ?_
      replace hCT : C - 1 ≤ kc ∧ T - 2 ≤ kt := by omega
      generalize C - 1 = C7 at hf hCT ⊢
      generalize T - 2 = T8 at hf hCT ⊢
      obtain ⟨S6, ev, hf⟩ := m_bndPE hf
      replace hM := z_hS hM ev
      clear ev ho hcm hq
      refine lv_dup hx hb dX1_putTag_33 rfl ?_
      obtain ⟨mc, ms, hcm, ho⟩ := m_galE hf
      refine z_wcallINv X hM (c_X10_init ho) gX1_putTag_X10_init_n84 ii_X1_putTag_84.1 ii_X1_putTag_84.2.1 ii_X1_putTag_84.2.2 rfl rfl ⟨rfl, rfl⟩ ⟨by show kc - (C7) + mc ≤ kc; omega, by show kt - (T8) + ms ≤ kt; omega⟩ hd_X10_init.2 ⟨Nat.le_of_ble_eq_true rfl, Nat.le_of_ble_eq_true rfl⟩ rfl hl.1 rfl (Nat.le_of_ble_eq_true rfl) dX1_putTag_34 (fun S11 H locs hf hM => ?_)
      refine z_eqCS (c2 := kc - (C7 - mc)) (t2 := kt - (T8 - ms)) (by omega) (by omega) ?_
      replace hCT : C7 - mc ≤ kc ∧ T8 - ms ≤ kt := by omega
      generalize C7 - mc = C12 at hf hCT ⊢
      generalize T8 - ms = T13 at hf hCT ⊢
      clear ho hcm
      obtain ⟨ca, hf⟩ := m_chkPE hf
      replace ca := z_in hM (by decide) ca
      obtain ⟨cb, hf⟩ := m_chkPE hf
      replace cb := z_in hM (by decide) cb
      obtain ⟨cd, hf⟩ := m_chkPE hf
      refine z_aast (k := 17) (t0 := 4) (kv := 10) (C := RX10) (T := TX10) (N := 2) (fl := zf_10) X hM (fun _ _ _ _ _ => rfl) rfl rfl zc_10 ca cb cd dX1_putTag_37 (fun H locs hM => ?_)
      clear ca cb cd
      obtain ⟨S14, ev, hf⟩ := m_bndPE hf
      replace hM := z_hS hM ev
      clear ev
      exact w_X1_putTag_38 (x0 := x0) (x1 := x1) (x2 := x2) X hret hf hCT hM (lv_sub hl [0, 1, 2] rfl)
    | some b3 =>
      replace hf := m_optPS hf
      refine lv_ifnonnull (x := (zh y b3)) (tgt := 38) hx hb dX1_putTag_19 (by decide) ?_
      exact w_X1_putTag_38 (x0 := x0) (x1 := x1) (x2 := x2) X hret hf hCT hM (lv_sub hl [0, 1, 2] rfl)
  · replace hf := m_ifPF hf cc1
    exact hret _ _ _ H locs _ ls hf hM dX1_putTag_9
def g_X1_putTag (x0 : Nat) (x1 : Nat) (x2 : Nat) (S : ZS) (mc ms : Nat) (Pw : Int32 → ZS → Prop) : Prop := g_X1_putTag_0 Pw x0 x1 x2 S mc ms
theorem c_X1_putTag {l : Launch} {D : va_G} {y : Nat → ClassId} {x0 : Nat} {x1 : Nat} {x2 : Nat} {S : ZS} {kc kt : Nat} {Pw : Int32 → ZS → Prop} (hf : g_X1_putTag x0 x1 x2 S kc kt Pw) : zWv l yX1_putTag wsX1_putTag ({ frames := 4, cells := kc, slots := kt, locals := 125 } : Room) [.ref (zh y x0), .ref (zh y x1), .ref (zh y x2)] D y S kc kt Pw :=
  z_wentV (own := RX1) (cc := cX1_putTag) (maxL := 3) (by decide) rfl rfl (Nat.le_of_ble_eq_true rfl) ⟨rfl, rfl⟩ (fun p e s m args below meth c A0 Q H locs ls X hret hM hl => w_X1_putTag_0 X hret hf ⟨Nat.le_refl _, Nat.le_refl _⟩ hM (lv_sub hl [0, 1, 2] rfl))
theorem hd_J0_coder_7d493 : yJ0_coder_7d493.cls = RJ0 ∧ yJ0_coder_7d493.cls ≠ "java/lang/invoke/MethodHandle" ∧ yJ0_coder_7d493.cls ≠ "java/lang/invoke/VarHandle" ∧ (parseMethodDescriptor yJ0_coder_7d493.desc).map (fun d => d.parameters.length) = some 0 := by decide +kernel
theorem gs_J0_coder_7d493_COMPACT_STRINGS : Cond.fieldLink RJ0 38 "java/lang/String" "COMPACT_STRINGS" "Z" ∈ wsJ0_coder_7d493 := by decide +kernel
theorem sl_J0_coder_7d493_coder : Cond.fieldLink RJ0 15 "java/lang/String" "coder" "B" ∈ wsJ0_coder_7d493 := by decide +kernel
def f_J0_coder_7d493_14 (t0 : Int32) (S : ZS) : Option (Int32 × ZS) :=
  m_chk (vp_nar .byte t0 = t0) (some (t0, S))

set_option maxRecDepth 100000 in
set_option maxHeartbeats 4000000 in
theorem w_J0_coder_7d493_14 {p : Program} {l : Launch} {e : Env} {s : State} {m : MethodId} {args : Array Value} {below : List Frame} {meth : Method} {c : Code} {Q : State → Prop} {D : va_G} {y : Nat → ClassId} {A0 : Nat → Prop} {o : Int32 × ZS} (X : CallFix p m c cJ0_coder_7d493 1 s args wsJ0_coder_7d493 RJ0) (hret : zRi p l e ({ frames := 0, cells := 0, slots := 0, locals := 0 } : Room) s m args below meth c Q cJ0_coder_7d493 D y A0 .byte o) {t0 : Int32} {S : ZS} {H : Heap} {locs : List Loc} {ls : Array Slot} (hf : f_J0_coder_7d493_14 t0 S = some o) (hM : zH D y A0 s H locs S) (hl : lv_has ls 1 []) : W p l e ({ frames := 0, cells := 0, slots := 0, locals := 0 } : Room) s m args below meth c H locs 0 0 Q (F0 m 14 ls [.int t0]) := by
  obtain ⟨hx, hb, hml, hown, hts⟩ := id X
  unfold f_J0_coder_7d493_14 at hf
  obtain ⟨cd, hf⟩ := m_chkE hf
  cases hf
  exact hret H locs _ ls hM (m_nby cd) dJ0_coder_7d493_14
def f_J0_coder_7d493_0 (x0 : Nat) (S : ZS) : Option (Int32 × ZS) :=
  m_if ((1 : Int32) = 0) (
  f_J0_coder_7d493_14 (1 : Int32) S
  ) (
  m_chk (x0 < zSn) (
  f_J0_coder_7d493_14 (0 : Int32) S)
  )

set_option maxRecDepth 100000 in
set_option maxHeartbeats 4000000 in
theorem w_J0_coder_7d493_0 {p : Program} {l : Launch} {e : Env} {s : State} {m : MethodId} {args : Array Value} {below : List Frame} {meth : Method} {c : Code} {Q : State → Prop} {D : va_G} {y : Nat → ClassId} {A0 : Nat → Prop} {o : Int32 × ZS} (X : CallFix p m c cJ0_coder_7d493 1 s args wsJ0_coder_7d493 RJ0) (hret : zRi p l e ({ frames := 0, cells := 0, slots := 0, locals := 0 } : Room) s m args below meth c Q cJ0_coder_7d493 D y A0 .byte o) {x0 : Nat} {S : ZS} {H : Heap} {locs : List Loc} {ls : Array Slot} (hf : f_J0_coder_7d493_0 x0 S = some o) (hM : zH D y A0 s H locs S) (hl : lv_has ls 1 [(0, .ref (y (100 + x0)))]) : W p l e ({ frames := 0, cells := 0, slots := 0, locals := 0 } : Room) s m args below meth c H locs 0 0 Q (F0 m 0 ls []) := by
  obtain ⟨hx, hb, hml, hown, hts⟩ := id X
  unfold f_J0_coder_7d493_0 at hf
  refine z_compact X hM gs_J0_coder_7d493_COMPACT_STRINGS dJ0_coder_7d493_0 ?_
  refine lv_if_eq (tgt := 13) hx hb dJ0_coder_7d493_3 (by decide) (fun cc1 => ?_) (fun cc1 => ?_)
  · replace hf := m_ifT hf cc1
    refine lv_iconst (v := (1 : Int32)) hx hb dJ0_coder_7d493_13 (by decide) ?_
    exact w_J0_coder_7d493_14 (t0 := (1 : Int32)) X hret hf hM (lv_sub hl [] rfl)
  · replace hf := m_ifF hf cc1
    refine lv_aload_n hx hb dJ0_coder_7d493_6 rfl (lv_at hl 0 rfl) ?_
    obtain ⟨cd, hf⟩ := m_chkE hf
    refine z_scod X hM cd sl_J0_coder_7d493_coder dJ0_coder_7d493_7 ?_
    clear cd
    refine lv_goto (tgt := 14) hx hb dJ0_coder_7d493_10 (by decide) ?_
    exact w_J0_coder_7d493_14 (t0 := (0 : Int32)) X hret hf hM (lv_sub hl [] rfl)
def f_J0_coder_7d493 (x0 : Nat) (S : ZS) : Option (Int32 × ZS) := f_J0_coder_7d493_0 x0 S
theorem c_J0_coder_7d493 {l : Launch} {D : va_G} {y : Nat → ClassId} {x0 : Nat} {S : ZS} {o : Int32 × ZS} (hf : f_J0_coder_7d493 x0 S = some o) : zMi l yJ0_coder_7d493 wsJ0_coder_7d493 ({ frames := 0, cells := 0, slots := 0, locals := 0 } : Room) [.ref (y (100 + x0))] D y S o :=
  z_entryI (own := RJ0) (cc := cJ0_coder_7d493) (maxL := 1) (by decide) rfl rfl (Nat.le_of_ble_eq_true rfl) (fun p e s m args below meth c A0 Q H locs ls X hret hM hl => w_J0_coder_7d493_0 X hret hf hM (lv_sub hl [0] rfl))
theorem hd_J0_length_8abf5 : yJ0_length_8abf5.cls = RJ0 ∧ yJ0_length_8abf5.cls ≠ "java/lang/invoke/MethodHandle" ∧ yJ0_length_8abf5.cls ≠ "java/lang/invoke/VarHandle" ∧ (parseMethodDescriptor yJ0_length_8abf5.desc).map (fun d => d.parameters.length) = some 0 := by decide +kernel
theorem sl_J0_length_8abf5_value : Cond.fieldLink RJ0 9 "java/lang/String" "value" "[B" ∈ wsJ0_length_8abf5 := by decide +kernel
def f_J0_length_8abf5_0 (x0 : Nat) (S : ZS) : Option (Int32 × ZS) :=
  m_chk (x0 < zSn) (
  m_chk (x0 < zSn) (
  m_bnd (Int32.ofNat (zSl.getD x0 0)) (fun v1 =>
  m_chk (x0 < zSn) (
  m_cal (f_J0_coder_7d493 x0 S) (fun o2 =>
  m_bnd (v1 >>> (o2.1 &&& 31)) (fun v3 =>
  some (v3, o2.2)))))))

set_option maxRecDepth 100000 in
set_option maxHeartbeats 4000000 in
theorem w_J0_length_8abf5_0 {p : Program} {l : Launch} {e : Env} {s : State} {m : MethodId} {args : Array Value} {below : List Frame} {meth : Method} {c : Code} {Q : State → Prop} {D : va_G} {y : Nat → ClassId} {A0 : Nat → Prop} {o : Int32 × ZS} (X : CallFix p m c cJ0_length_8abf5 1 s args wsJ0_length_8abf5 RJ0) (hret : zRi p l e ({ frames := 1, cells := 0, slots := 0, locals := 20 } : Room) s m args below meth c Q cJ0_length_8abf5 D y A0 .int o) {x0 : Nat} {S : ZS} {H : Heap} {locs : List Loc} {ls : Array Slot} (hf : f_J0_length_8abf5_0 x0 S = some o) (hM : zH D y A0 s H locs S) (hl : lv_has ls 1 [(0, .ref (y (100 + x0)))]) : W p l e ({ frames := 1, cells := 0, slots := 0, locals := 20 } : Room) s m args below meth c H locs 0 0 Q (F0 m 0 ls []) := by
  obtain ⟨hx, hb, hml, hown, hts⟩ := id X
  unfold f_J0_length_8abf5_0 at hf
  refine lv_aload_n hx hb dJ0_length_8abf5_0 rfl (lv_at hl 0 rfl) ?_
  obtain ⟨cd, hf⟩ := m_chkE hf
  refine z_sval X hM cd sl_J0_length_8abf5_value dJ0_length_8abf5_1 ?_
  clear cd
  obtain ⟨cd, hf⟩ := m_chkE hf
  refine z_slen X hM cd dJ0_length_8abf5_4 ?_
  clear cd
  obtain ⟨v1, ev, hf⟩ := m_bndE hf
  refine m_top ev ?_
  clear ev
  refine lv_aload_n hx hb dJ0_length_8abf5_5 rfl (lv_at hl 0 rfl) ?_
  obtain ⟨ca, hf⟩ := m_chkE hf
  obtain ⟨o2, ho, hf⟩ := m_calE hf
  refine z_callTi X hM ca (c_J0_coder_7d493 ho) gJ0_length_8abf5_J0_coder_7d493 rfl ⟨rfl, rfl⟩ hd_J0_coder_7d493 ⟨Nat.le_of_ble_eq_true rfl, Nat.le_of_ble_eq_true rfl⟩ rfl hl.1 rfl (Nat.le_of_ble_eq_true rfl) dJ0_length_8abf5_6 (fun H locs hM => ?_)
  clear ho
  refine lv_ishr hx hb dJ0_length_8abf5_9 ?_
  obtain ⟨v3, ev, hf⟩ := m_bndE hf
  refine m_top ev ?_
  clear ev
  cases hf
  exact hret H locs _ ls hM rfl dJ0_length_8abf5_10
def f_J0_length_8abf5 (x0 : Nat) (S : ZS) : Option (Int32 × ZS) := f_J0_length_8abf5_0 x0 S
theorem c_J0_length_8abf5 {l : Launch} {D : va_G} {y : Nat → ClassId} {x0 : Nat} {S : ZS} {o : Int32 × ZS} (hf : f_J0_length_8abf5 x0 S = some o) : zMi l yJ0_length_8abf5 wsJ0_length_8abf5 ({ frames := 1, cells := 0, slots := 0, locals := 20 } : Room) [.ref (y (100 + x0))] D y S o :=
  z_entryI (own := RJ0) (cc := cJ0_length_8abf5) (maxL := 1) (by decide) rfl rfl (Nat.le_of_ble_eq_true rfl) (fun p e s m args below meth c A0 Q H locs ls X hret hM hl => w_J0_length_8abf5_0 X hret hf hM (lv_sub hl [0] rfl))
theorem hd_J0_isLatin1_aae02 : yJ0_isLatin1_aae02.cls = RJ0 ∧ yJ0_isLatin1_aae02.cls ≠ "java/lang/invoke/MethodHandle" ∧ yJ0_isLatin1_aae02.cls ≠ "java/lang/invoke/VarHandle" ∧ (parseMethodDescriptor yJ0_isLatin1_aae02.desc).map (fun d => d.parameters.length) = some 0 := by decide +kernel
theorem gs_J0_isLatin1_aae02_COMPACT_STRINGS : Cond.fieldLink RJ0 38 "java/lang/String" "COMPACT_STRINGS" "Z" ∈ wsJ0_isLatin1_aae02 := by decide +kernel
theorem sl_J0_isLatin1_aae02_coder : Cond.fieldLink RJ0 15 "java/lang/String" "coder" "B" ∈ wsJ0_isLatin1_aae02 := by decide +kernel
def f_J0_isLatin1_aae02_18 (t0 : Int32) (S : ZS) : Option (Int32 × ZS) :=
  m_chk (vp_nar .boolean t0 = t0) (some (t0, S))

set_option maxRecDepth 100000 in
set_option maxHeartbeats 4000000 in
theorem w_J0_isLatin1_aae02_18 {p : Program} {l : Launch} {e : Env} {s : State} {m : MethodId} {args : Array Value} {below : List Frame} {meth : Method} {c : Code} {Q : State → Prop} {D : va_G} {y : Nat → ClassId} {A0 : Nat → Prop} {o : Int32 × ZS} (X : CallFix p m c cJ0_isLatin1_aae02 1 s args wsJ0_isLatin1_aae02 RJ0) (hret : zRi p l e ({ frames := 0, cells := 0, slots := 0, locals := 0 } : Room) s m args below meth c Q cJ0_isLatin1_aae02 D y A0 .boolean o) {t0 : Int32} {S : ZS} {H : Heap} {locs : List Loc} {ls : Array Slot} (hf : f_J0_isLatin1_aae02_18 t0 S = some o) (hM : zH D y A0 s H locs S) (hl : lv_has ls 1 []) : W p l e ({ frames := 0, cells := 0, slots := 0, locals := 0 } : Room) s m args below meth c H locs 0 0 Q (F0 m 18 ls [.int t0]) := by
  obtain ⟨hx, hb, hml, hown, hts⟩ := id X
  unfold f_J0_isLatin1_aae02_18 at hf
  obtain ⟨cd, hf⟩ := m_chkE hf
  cases hf
  exact hret H locs _ ls hM (m_nb cd) dJ0_isLatin1_aae02_18
def f_J0_isLatin1_aae02_17 (S : ZS) : Option (Int32 × ZS) :=
  f_J0_isLatin1_aae02_18 (0 : Int32) S

set_option maxRecDepth 100000 in
set_option maxHeartbeats 4000000 in
theorem w_J0_isLatin1_aae02_17 {p : Program} {l : Launch} {e : Env} {s : State} {m : MethodId} {args : Array Value} {below : List Frame} {meth : Method} {c : Code} {Q : State → Prop} {D : va_G} {y : Nat → ClassId} {A0 : Nat → Prop} {o : Int32 × ZS} (X : CallFix p m c cJ0_isLatin1_aae02 1 s args wsJ0_isLatin1_aae02 RJ0) (hret : zRi p l e ({ frames := 0, cells := 0, slots := 0, locals := 0 } : Room) s m args below meth c Q cJ0_isLatin1_aae02 D y A0 .boolean o) {S : ZS} {H : Heap} {locs : List Loc} {ls : Array Slot} (hf : f_J0_isLatin1_aae02_17  S = some o) (hM : zH D y A0 s H locs S) (hl : lv_has ls 1 []) : W p l e ({ frames := 0, cells := 0, slots := 0, locals := 0 } : Room) s m args below meth c H locs 0 0 Q (F0 m 17 ls []) := by
  obtain ⟨hx, hb, hml, hown, hts⟩ := id X
  unfold f_J0_isLatin1_aae02_17 at hf
  refine lv_iconst (v := (0 : Int32)) hx hb dJ0_isLatin1_aae02_17 (by decide) ?_
  exact w_J0_isLatin1_aae02_18 (t0 := (0 : Int32)) X hret hf hM (lv_sub hl [] rfl)
def f_J0_isLatin1_aae02_0 (x0 : Nat) (S : ZS) : Option (Int32 × ZS) :=
  m_if ((1 : Int32) = 0) (
  f_J0_isLatin1_aae02_17  S
  ) (
  m_chk (x0 < zSn) (
  m_if ((0 : Int32) = 0) (
  f_J0_isLatin1_aae02_18 (1 : Int32) S
  ) (
  f_J0_isLatin1_aae02_17  S
  ))
  )

set_option maxRecDepth 100000 in
set_option maxHeartbeats 4000000 in
theorem w_J0_isLatin1_aae02_0 {p : Program} {l : Launch} {e : Env} {s : State} {m : MethodId} {args : Array Value} {below : List Frame} {meth : Method} {c : Code} {Q : State → Prop} {D : va_G} {y : Nat → ClassId} {A0 : Nat → Prop} {o : Int32 × ZS} (X : CallFix p m c cJ0_isLatin1_aae02 1 s args wsJ0_isLatin1_aae02 RJ0) (hret : zRi p l e ({ frames := 0, cells := 0, slots := 0, locals := 0 } : Room) s m args below meth c Q cJ0_isLatin1_aae02 D y A0 .boolean o) {x0 : Nat} {S : ZS} {H : Heap} {locs : List Loc} {ls : Array Slot} (hf : f_J0_isLatin1_aae02_0 x0 S = some o) (hM : zH D y A0 s H locs S) (hl : lv_has ls 1 [(0, .ref (y (100 + x0)))]) : W p l e ({ frames := 0, cells := 0, slots := 0, locals := 0 } : Room) s m args below meth c H locs 0 0 Q (F0 m 0 ls []) := by
  obtain ⟨hx, hb, hml, hown, hts⟩ := id X
  unfold f_J0_isLatin1_aae02_0 at hf
  refine z_compact X hM gs_J0_isLatin1_aae02_COMPACT_STRINGS dJ0_isLatin1_aae02_0 ?_
  refine lv_if_eq (tgt := 17) hx hb dJ0_isLatin1_aae02_3 (by decide) (fun cc1 => ?_) (fun cc1 => ?_)
  · replace hf := m_ifT hf cc1
    exact w_J0_isLatin1_aae02_17 X hret hf hM (lv_sub hl [] rfl)
  · replace hf := m_ifF hf cc1
    refine lv_aload_n hx hb dJ0_isLatin1_aae02_6 rfl (lv_at hl 0 rfl) ?_
    obtain ⟨cd, hf⟩ := m_chkE hf
    refine z_scod X hM cd sl_J0_isLatin1_aae02_coder dJ0_isLatin1_aae02_7 ?_
    clear cd
    refine lv_if_ne (tgt := 17) hx hb dJ0_isLatin1_aae02_10 (by decide) (fun cc1 => ?_) (fun cc1 => ?_)
    · replace hf := m_ifF hf cc1
      exact w_J0_isLatin1_aae02_17 X hret hf hM (lv_sub hl [] rfl)
    · replace hf := m_ifT hf cc1
      refine lv_iconst (v := (1 : Int32)) hx hb dJ0_isLatin1_aae02_13 (by decide) ?_
      refine lv_goto (tgt := 18) hx hb dJ0_isLatin1_aae02_14 (by decide) ?_
      exact w_J0_isLatin1_aae02_18 (t0 := (1 : Int32)) X hret hf hM (lv_sub hl [] rfl)
def f_J0_isLatin1_aae02 (x0 : Nat) (S : ZS) : Option (Int32 × ZS) := f_J0_isLatin1_aae02_0 x0 S
theorem c_J0_isLatin1_aae02 {l : Launch} {D : va_G} {y : Nat → ClassId} {x0 : Nat} {S : ZS} {o : Int32 × ZS} (hf : f_J0_isLatin1_aae02 x0 S = some o) : zMi l yJ0_isLatin1_aae02 wsJ0_isLatin1_aae02 ({ frames := 0, cells := 0, slots := 0, locals := 0 } : Room) [.ref (y (100 + x0))] D y S o :=
  z_entryI (own := RJ0) (cc := cJ0_isLatin1_aae02) (maxL := 1) (by decide) rfl rfl (Nat.le_of_ble_eq_true rfl) (fun p e s m args below meth c A0 Q H locs ls X hret hM hl => w_J0_isLatin1_aae02_0 X hret hf hM (lv_sub hl [0] rfl))
theorem hd_J3_checkIndex_8e157 : yJ3_checkIndex_8e157.cls ≠ "java/lang/invoke/MethodHandle" ∧ yJ3_checkIndex_8e157.cls ≠ "java/lang/invoke/VarHandle" ∧ (parseMethodDescriptor yJ3_checkIndex_8e157.desc).map (fun d => d.parameters.length) = some 3 := by decide +kernel
def f_J3_checkIndex_8e157_0 (x0 : Int32) (x1 : Int32) (S : ZS) : Option (Int32 × ZS) :=
  m_if (x0 < 0) (
  none
  ) (
  m_if (x0 < x1) (
  some (x0, S)
  ) (
  none
  )
  )

set_option maxRecDepth 100000 in
set_option maxHeartbeats 4000000 in
theorem w_J3_checkIndex_8e157_0 {p : Program} {l : Launch} {e : Env} {s : State} {m : MethodId} {args : Array Value} {below : List Frame} {meth : Method} {c : Code} {Q : State → Prop} {D : va_G} {y : Nat → ClassId} {A0 : Nat → Prop} {o : Int32 × ZS} (X : CallFix p m c cJ3_checkIndex_8e157 3 s args wsJ3_checkIndex_8e157 RJ3) (hret : zRi p l e ({ frames := 0, cells := 0, slots := 0, locals := 0 } : Room) s m args below meth c Q cJ3_checkIndex_8e157 D y A0 .int o) {x0 : Int32} {x1 : Int32} {S : ZS} {H : Heap} {locs : List Loc} {ls : Array Slot} (hf : f_J3_checkIndex_8e157_0 x0 x1 S = some o) (hM : zH D y A0 s H locs S) (hl : lv_has ls 3 [(0, .int x0), (1, .int x1)]) : W p l e ({ frames := 0, cells := 0, slots := 0, locals := 0 } : Room) s m args below meth c H locs 0 0 Q (F0 m 0 ls []) := by
  obtain ⟨hx, hb, hml, hown, hts⟩ := id X
  unfold f_J3_checkIndex_8e157_0 at hf
  refine lv_iload_n hx hb dJ3_checkIndex_8e157_0 rfl (lv_at hl 0 rfl) ?_
  refine lv_if_lt (tgt := 9) hx hb dJ3_checkIndex_8e157_1 (by decide) (fun cc1 => ?_) (fun cc1 => ?_)
  · replace hf := m_ifT hf cc1
    cases hf
  · replace hf := m_ifF hf cc1
    refine lv_iload_n hx hb dJ3_checkIndex_8e157_4 rfl (lv_at hl 0 rfl) ?_
    refine lv_iload_n hx hb dJ3_checkIndex_8e157_5 rfl (lv_at hl 1 rfl) ?_
    refine lv_icmp_lt (tgt := 16) hx hb dJ3_checkIndex_8e157_6 (by decide) (fun cc1 => ?_) (fun cc1 => ?_)
    · replace hf := m_ifT hf cc1
      refine lv_iload_n hx hb dJ3_checkIndex_8e157_16 rfl (lv_at hl 0 rfl) ?_
      cases hf
      exact hret H locs _ ls hM rfl dJ3_checkIndex_8e157_17
    · replace hf := m_ifF hf cc1
      cases hf
def f_J3_checkIndex_8e157 (x0 : Int32) (x1 : Int32) (S : ZS) : Option (Int32 × ZS) := f_J3_checkIndex_8e157_0 x0 x1 S
theorem c_J3_checkIndex_8e157 {l : Launch} {D : va_G} {y : Nat → ClassId} {x0 : Int32} {x1 : Int32} {x2 : Option Nat} {S : ZS} {o : Int32 × ZS} (hf : f_J3_checkIndex_8e157 x0 x1 S = some o) : zMi l yJ3_checkIndex_8e157 wsJ3_checkIndex_8e157 ({ frames := 0, cells := 0, slots := 0, locals := 0 } : Room) [.int x0, .int x1, va_rf x2] D y S o :=
  z_entryI (own := RJ3) (cc := cJ3_checkIndex_8e157) (maxL := 3) (by decide) rfl rfl (by cases x2 <;> exact Nat.le_of_ble_eq_true rfl) (fun p e s m args below meth c A0 Q H locs ls X hret hM hl => w_J3_checkIndex_8e157_0 X hret hf hM (lv_sub hl [0, 1] rfl))
theorem hd_J0_checkIndex_df160 : yJ0_checkIndex_df160.cls ≠ "java/lang/invoke/MethodHandle" ∧ yJ0_checkIndex_df160.cls ≠ "java/lang/invoke/VarHandle" ∧ (parseMethodDescriptor yJ0_checkIndex_df160.desc).map (fun d => d.parameters.length) = some 2 := by decide +kernel
theorem gs_J0_checkIndex_df160_SIOOBE_FORMATTER : Cond.fieldLink RJ0 1053 "jdk/internal/util/Preconditions" "SIOOBE_FORMATTER" "Ljava/util/function/BiFunction;" ∈ wsJ0_checkIndex_df160 := by decide +kernel
def f_J0_checkIndex_df160_0 (x0 : Int32) (x1 : Int32) (S : ZS) : Option (Int32 × ZS) :=
  m_cal (f_J3_checkIndex_8e157 x0 x1 S) (fun o1 =>
  some (0, o1.2))

set_option maxRecDepth 100000 in
set_option maxHeartbeats 4000000 in
theorem w_J0_checkIndex_df160_0 {p : Program} {l : Launch} {e : Env} {s : State} {m : MethodId} {args : Array Value} {below : List Frame} {meth : Method} {c : Code} {Q : State → Prop} {D : va_G} {y : Nat → ClassId} {A0 : Nat → Prop} {o : Int32 × ZS} (X : CallFix p m c cJ0_checkIndex_df160 2 s args wsJ0_checkIndex_df160 RJ0) (hret : zRv p l e ({ frames := 1, cells := 0, slots := 0, locals := 22 } : Room) s m args below meth c Q cJ0_checkIndex_df160 D y A0 o) {x0 : Int32} {x1 : Int32} {S : ZS} {H : Heap} {locs : List Loc} {ls : Array Slot} (hf : f_J0_checkIndex_df160_0 x0 x1 S = some o) (hM : zH D y A0 s H locs S) (hl : lv_has ls 2 [(0, .int x0), (1, .int x1)]) : W p l e ({ frames := 1, cells := 0, slots := 0, locals := 22 } : Room) s m args below meth c H locs 0 0 Q (F0 m 0 ls []) := by
  obtain ⟨hx, hb, hml, hown, hts⟩ := id X
  unfold f_J0_checkIndex_df160_0 at hf
  refine lv_iload_n hx hb dJ0_checkIndex_df160_0 rfl (lv_at hl 0 rfl) ?_
  refine lv_iload_n hx hb dJ0_checkIndex_df160_1 rfl (lv_at hl 1 rfl) ?_
  refine z_form X hM gs_J0_checkIndex_df160_SIOOBE_FORMATTER dJ0_checkIndex_df160_2 ?_
  obtain ⟨o1, ho, hf⟩ := m_calE hf
  refine z_callSi X hM (c_J3_checkIndex_8e157 ho) gJ0_checkIndex_df160_J3_checkIndex_8e157 rfl ⟨rfl, rfl⟩ hd_J3_checkIndex_8e157 ⟨Nat.le_of_ble_eq_true rfl, Nat.le_of_ble_eq_true rfl⟩ rfl hl.1 rfl (Nat.le_of_ble_eq_true rfl) dJ0_checkIndex_df160_5 (fun H locs hM => ?_)
  clear ho
  refine lv_pop hx hb dJ0_checkIndex_df160_8 rfl ?_
  cases hf
  exact hret H locs _ ls hM dJ0_checkIndex_df160_9
def f_J0_checkIndex_df160 (x0 : Int32) (x1 : Int32) (S : ZS) : Option (Int32 × ZS) := f_J0_checkIndex_df160_0 x0 x1 S
theorem c_J0_checkIndex_df160 {l : Launch} {D : va_G} {y : Nat → ClassId} {x0 : Int32} {x1 : Int32} {S : ZS} {o : Int32 × ZS} (hf : f_J0_checkIndex_df160 x0 x1 S = some o) : zMv l yJ0_checkIndex_df160 wsJ0_checkIndex_df160 ({ frames := 1, cells := 0, slots := 0, locals := 22 } : Room) [.int x0, .int x1] D y S o :=
  z_entryV (own := RJ0) (cc := cJ0_checkIndex_df160) (maxL := 2) (by decide) rfl rfl (Nat.le_of_ble_eq_true rfl) (fun p e s m args below meth c A0 Q H locs ls X hret hM hl => w_J0_checkIndex_df160_0 X hret hf hM (lv_sub hl [0, 1] rfl))
theorem hd_J1_charAt_3b067 : yJ1_charAt_3b067.cls ≠ "java/lang/invoke/MethodHandle" ∧ yJ1_charAt_3b067.cls ≠ "java/lang/invoke/VarHandle" ∧ (parseMethodDescriptor yJ1_charAt_3b067.desc).map (fun d => d.parameters.length) = some 2 := by decide +kernel
def f_J1_charAt_3b067_0 (x0 : Nat) (x1 : Int32) (S : ZS) : Option (Int32 × ZS) :=
  m_chk (x0 < zSn) (
  m_bnd (Int32.ofNat (zSl.getD x0 0)) (fun v1 =>
  m_cal (f_J0_checkIndex_df160 x1 v1 S) (fun o2 =>
  m_chk (x0 < zSn) (
  m_chk (¬ (x1 < 0 ∨ zSl.getD x0 0 ≤ (x1).toNatClampNeg)) (
  m_bnd ((zSb.getD x0 []).getD (x1).toNatClampNeg 0) (fun v3 =>
  m_bnd (v3 &&& (255 : Int32)) (fun v4 =>
  m_bnd ((v4.toUInt32 % 65536).toInt32) (fun v5 =>
  m_chk (vp_nar .char v5 = v5) (some (v5, o2.2))))))))))

set_option maxRecDepth 100000 in
set_option maxHeartbeats 4000000 in
theorem w_J1_charAt_3b067_0 {p : Program} {l : Launch} {e : Env} {s : State} {m : MethodId} {args : Array Value} {below : List Frame} {meth : Method} {c : Code} {Q : State → Prop} {D : va_G} {y : Nat → ClassId} {A0 : Nat → Prop} {o : Int32 × ZS} (X : CallFix p m c cJ1_charAt_3b067 2 s args wsJ1_charAt_3b067 RJ1) (hret : zRi p l e ({ frames := 2, cells := 0, slots := 0, locals := 43 } : Room) s m args below meth c Q cJ1_charAt_3b067 D y A0 .char o) {x0 : Nat} {x1 : Int32} {S : ZS} {H : Heap} {locs : List Loc} {ls : Array Slot} (hf : f_J1_charAt_3b067_0 x0 x1 S = some o) (hM : zH D y A0 s H locs S) (hl : lv_has ls 2 [(0, .ref (y (200 + x0))), (1, .int x1)]) : W p l e ({ frames := 2, cells := 0, slots := 0, locals := 43 } : Room) s m args below meth c H locs 0 0 Q (F0 m 0 ls []) := by
  obtain ⟨hx, hb, hml, hown, hts⟩ := id X
  unfold f_J1_charAt_3b067_0 at hf
  refine lv_iload_n hx hb dJ1_charAt_3b067_0 rfl (lv_at hl 1 rfl) ?_
  refine lv_aload_n hx hb dJ1_charAt_3b067_1 rfl (lv_at hl 0 rfl) ?_
  obtain ⟨cd, hf⟩ := m_chkE hf
  refine z_slen X hM cd dJ1_charAt_3b067_2 ?_
  clear cd
  obtain ⟨v1, ev, hf⟩ := m_bndE hf
  refine m_top ev ?_
  clear ev
  obtain ⟨o2, ho, hf⟩ := m_calE hf
  refine z_callSv X hM (c_J0_checkIndex_df160 ho) gJ1_charAt_3b067_J0_checkIndex_df160 rfl ⟨rfl, rfl⟩ hd_J0_checkIndex_df160 ⟨Nat.le_of_ble_eq_true rfl, Nat.le_of_ble_eq_true rfl⟩ rfl hl.1 rfl (Nat.le_of_ble_eq_true rfl) dJ1_charAt_3b067_3 (fun H locs hM => ?_)
  clear ho
  refine lv_aload_n hx hb dJ1_charAt_3b067_6 rfl (lv_at hl 0 rfl) ?_
  refine lv_iload_n hx hb dJ1_charAt_3b067_7 rfl (lv_at hl 1 rfl) ?_
  obtain ⟨ca, hf⟩ := m_chkE hf
  obtain ⟨cd, hf⟩ := m_chkE hf
  refine z_sbyt X hM ca cd dJ1_charAt_3b067_8 ?_
  clear ca cd
  obtain ⟨v3, ev, hf⟩ := m_bndE hf
  refine m_top ev ?_
  clear ev
  refine lv_sipush (v := (255 : Int32)) hx hb dJ1_charAt_3b067_9 (by decide) ?_
  refine lv_iand hx hb dJ1_charAt_3b067_12 ?_
  obtain ⟨v4, ev, hf⟩ := m_bndE hf
  refine m_top ev ?_
  clear ev
  refine lv_i2c (v := (v4.toUInt32 % 65536).toInt32) hx hb dJ1_charAt_3b067_13 rfl ?_
  obtain ⟨v5, ev, hf⟩ := m_bndE hf
  refine m_top ev ?_
  clear ev
  obtain ⟨cd, hf⟩ := m_chkE hf
  cases hf
  exact hret H locs _ ls hM (m_nc cd) dJ1_charAt_3b067_14
def f_J1_charAt_3b067 (x0 : Nat) (x1 : Int32) (S : ZS) : Option (Int32 × ZS) := f_J1_charAt_3b067_0 x0 x1 S
theorem c_J1_charAt_3b067 {l : Launch} {D : va_G} {y : Nat → ClassId} {x0 : Nat} {x1 : Int32} {S : ZS} {o : Int32 × ZS} (hf : f_J1_charAt_3b067 x0 x1 S = some o) : zMi l yJ1_charAt_3b067 wsJ1_charAt_3b067 ({ frames := 2, cells := 0, slots := 0, locals := 43 } : Room) [.ref (y (200 + x0)), .int x1] D y S o :=
  z_entryI (own := RJ1) (cc := cJ1_charAt_3b067) (maxL := 2) (by decide) rfl rfl (Nat.le_of_ble_eq_true rfl) (fun p e s m args below meth c A0 Q H locs ls X hret hM hl => w_J1_charAt_3b067_0 X hret hf hM (lv_sub hl [0, 1] rfl))
theorem hd_J0_charAt_5068e : yJ0_charAt_5068e.cls = RJ0 ∧ yJ0_charAt_5068e.cls ≠ "java/lang/invoke/MethodHandle" ∧ yJ0_charAt_5068e.cls ≠ "java/lang/invoke/VarHandle" ∧ (parseMethodDescriptor yJ0_charAt_5068e.desc).map (fun d => d.parameters.length) = some 1 := by decide +kernel
theorem sl_J0_charAt_5068e_value : Cond.fieldLink RJ0 9 "java/lang/String" "value" "[B" ∈ wsJ0_charAt_5068e := by decide +kernel
def f_J0_charAt_5068e_0 (x0 : Nat) (x1 : Int32) (S : ZS) : Option (Int32 × ZS) :=
  m_chk (x0 < zSn) (
  m_cal (f_J0_isLatin1_aae02 x0 S) (fun o1 =>
  m_if (o1.1 = 0) (
  none
  ) (
  m_chk (x0 < zSn) (
  m_cal (f_J1_charAt_3b067 x0 x1 o1.2) (fun o2 =>
  m_chk (vp_nar .char o2.1 = o2.1) (some (o2.1, o2.2))))
  )))

set_option maxRecDepth 100000 in
set_option maxHeartbeats 4000000 in
theorem w_J0_charAt_5068e_0 {p : Program} {l : Launch} {e : Env} {s : State} {m : MethodId} {args : Array Value} {below : List Frame} {meth : Method} {c : Code} {Q : State → Prop} {D : va_G} {y : Nat → ClassId} {A0 : Nat → Prop} {o : Int32 × ZS} (X : CallFix p m c cJ0_charAt_5068e 2 s args wsJ0_charAt_5068e RJ0) (hret : zRi p l e ({ frames := 3, cells := 0, slots := 0, locals := 64 } : Room) s m args below meth c Q cJ0_charAt_5068e D y A0 .char o) {x0 : Nat} {x1 : Int32} {S : ZS} {H : Heap} {locs : List Loc} {ls : Array Slot} (hf : f_J0_charAt_5068e_0 x0 x1 S = some o) (hM : zH D y A0 s H locs S) (hl : lv_has ls 2 [(0, .ref (y (100 + x0))), (1, .int x1)]) : W p l e ({ frames := 3, cells := 0, slots := 0, locals := 64 } : Room) s m args below meth c H locs 0 0 Q (F0 m 0 ls []) := by
  obtain ⟨hx, hb, hml, hown, hts⟩ := id X
  unfold f_J0_charAt_5068e_0 at hf
  refine lv_aload_n hx hb dJ0_charAt_5068e_0 rfl (lv_at hl 0 rfl) ?_
  obtain ⟨ca, hf⟩ := m_chkE hf
  obtain ⟨o1, ho, hf⟩ := m_calE hf
  refine z_callTi X hM ca (c_J0_isLatin1_aae02 ho) gJ0_charAt_5068e_J0_isLatin1_aae02 rfl ⟨rfl, rfl⟩ hd_J0_isLatin1_aae02 ⟨Nat.le_of_ble_eq_true rfl, Nat.le_of_ble_eq_true rfl⟩ rfl hl.1 rfl (Nat.le_of_ble_eq_true rfl) dJ0_charAt_5068e_1 (fun H locs hM => ?_)
  clear ho
  refine lv_if_eq (tgt := 16) hx hb dJ0_charAt_5068e_4 (by decide) (fun cc1 => ?_) (fun cc1 => ?_)
  · replace hf := m_ifT hf cc1
    cases hf
  · replace hf := m_ifF hf cc1
    refine lv_aload_n hx hb dJ0_charAt_5068e_7 rfl (lv_at hl 0 rfl) ?_
    obtain ⟨cd, hf⟩ := m_chkE hf
    refine z_sval X hM cd sl_J0_charAt_5068e_value dJ0_charAt_5068e_8 ?_
    clear cd
    refine lv_iload_n hx hb dJ0_charAt_5068e_11 rfl (lv_at hl 1 rfl) ?_
    obtain ⟨o2, ho, hf⟩ := m_calE hf
    refine z_callSi X hM (c_J1_charAt_3b067 ho) gJ0_charAt_5068e_J1_charAt_3b067 rfl ⟨rfl, rfl⟩ hd_J1_charAt_3b067 ⟨Nat.le_of_ble_eq_true rfl, Nat.le_of_ble_eq_true rfl⟩ rfl hl.1 rfl (Nat.le_of_ble_eq_true rfl) dJ0_charAt_5068e_12 (fun H locs hM => ?_)
    clear ho
    obtain ⟨cd, hf⟩ := m_chkE hf
    cases hf
    exact hret H locs _ ls hM (m_nc cd) dJ0_charAt_5068e_15
def f_J0_charAt_5068e (x0 : Nat) (x1 : Int32) (S : ZS) : Option (Int32 × ZS) := f_J0_charAt_5068e_0 x0 x1 S
theorem c_J0_charAt_5068e {l : Launch} {D : va_G} {y : Nat → ClassId} {x0 : Nat} {x1 : Int32} {S : ZS} {o : Int32 × ZS} (hf : f_J0_charAt_5068e x0 x1 S = some o) : zMi l yJ0_charAt_5068e wsJ0_charAt_5068e ({ frames := 3, cells := 0, slots := 0, locals := 64 } : Room) [.ref (y (100 + x0)), .int x1] D y S o :=
  z_entryI (own := RJ0) (cc := cJ0_charAt_5068e) (maxL := 2) (by decide) rfl rfl (Nat.le_of_ble_eq_true rfl) (fun p e s m args below meth c A0 Q H locs ls X hret hM hl => w_J0_charAt_5068e_0 X hret hf hM (lv_sub hl [0, 1] rfl))
theorem hd_X6_holds : yX6_holds.cls = RX6 ∧ yX6_holds.cls ≠ "java/lang/invoke/MethodHandle" ∧ yX6_holds.cls ≠ "java/lang/invoke/VarHandle" ∧ (parseMethodDescriptor yX6_holds.desc).map (fun d => d.parameters.length) = some 2 := by decide +kernel
theorem fl_X6_holds_6_0 : Cond.fieldLink RX6 13 "MoveTexts$Row" "chars" "[C" ∈ wsX6_holds := by decide +kernel
theorem fl_X6_holds_6_1 : Cond.fieldLink RX6 16 "MoveTexts$Row" "length" "I" ∈ wsX6_holds := by decide +kernel
theorem hw_X6_holds_6 : ∀ w ∈ wsX60, w ∈ wsX6_holds := by decide +kernel
def f_X6_holds_17 (S : ZS) : Option (Int32 × ZS) :=
  m_chk (vp_nar .boolean (0 : Int32) = (0 : Int32)) (some ((0 : Int32), S))

set_option maxRecDepth 100000 in
set_option maxHeartbeats 4000000 in
theorem w_X6_holds_17 {p : Program} {l : Launch} {e : Env} {s : State} {m : MethodId} {args : Array Value} {below : List Frame} {meth : Method} {c : Code} {Q : State → Prop} {D : va_G} {y : Nat → ClassId} {A0 : Nat → Prop} {o : Int32 × ZS} (X : CallFix p m c cX6_holds 4 s args wsX6_holds RX6) (hret : zRi p l e ({ frames := 4, cells := 0, slots := 0, locals := 85 } : Room) s m args below meth c Q cX6_holds D y A0 .boolean o) {S : ZS} {H : Heap} {locs : List Loc} {ls : Array Slot} (hf : f_X6_holds_17  S = some o) (hM : zH D y A0 s H locs S) (hl : lv_has ls 4 []) : W p l e ({ frames := 4, cells := 0, slots := 0, locals := 85 } : Room) s m args below meth c H locs 0 0 Q (F0 m 17 ls []) := by
  obtain ⟨hx, hb, hml, hown, hts⟩ := id X
  unfold f_X6_holds_17 at hf
  refine lv_iconst (v := (0 : Int32)) hx hb dX6_holds_17 (by decide) ?_
  obtain ⟨cd, hf⟩ := m_chkE hf
  cases hf
  exact hret H locs _ ls hM (m_nb cd) dX6_holds_18
def f_X6_holds_21s (self21 : Nat → Nat → Int32 → Int32 → ZS → Option (Int32 × ZS)) (x0 : Nat) (x1 : Nat) (x2 : Int32) (x3 : Int32) (S : ZS) : Option (Int32 × ZS) :=
  m_chk (x1 < zSn) (
  m_cal (f_J0_length_8abf5 x1 S) (fun o1 =>
  m_if (o1.1 ≤ x3) (
  m_chk (vp_nar .boolean (1 : Int32) = (1 : Int32)) (some ((1 : Int32), o1.2))
  ) (
  m_chk (zK o1.2 x0 = 6) (
  m_cal (zP o1.2 0 x0) (fun b2 =>
  m_bnd (x2 + x3) (fun v3 =>
  m_chk (zK o1.2 b2 = 13) (
  m_chk (¬ (v3 < 0 ∨ zN o1.2 b2 ≤ (v3).toNatClampNeg)) (
  m_bnd (zA o1.2 b2 (v3).toNatClampNeg) (fun v4 =>
  m_chk (x1 < zSn) (
  m_cal (f_J0_charAt_5068e x1 x3 o1.2) (fun o5 =>
  m_if (v4 = o5.1) (
  m_bnd (x3 + (1 : Int32)) (fun v6 =>
  self21 x0 x1 x2 v6 o5.2)
  ) (
  m_chk (vp_nar .boolean (0 : Int32) = (0 : Int32)) (some ((0 : Int32), o5.2))
  )))))))))
  )))

set_option maxRecDepth 100000 in
set_option maxHeartbeats 4000000 in
theorem ws_X6_holds_21 {p : Program} {l : Launch} {e : Env} {s : State} {m : MethodId} {args : Array Value} {below : List Frame} {meth : Method} {c : Code} {Q : State → Prop} {D : va_G} {y : Nat → ClassId} {A0 : Nat → Prop} {o : Int32 × ZS} (X : CallFix p m c cX6_holds 4 s args wsX6_holds RX6) (hret : zRi p l e ({ frames := 4, cells := 0, slots := 0, locals := 85 } : Room) s m args below meth c Q cX6_holds D y A0 .boolean o) {self21 : Nat → Nat → Int32 → Int32 → ZS → Option (Int32 × ZS)} (hself21 : ∀ (x0 : Nat) (x1 : Nat) (x2 : Int32) (x3 : Int32) (S : ZS) (H : Heap) (locs : List Loc) (ls : Array Slot), self21 x0 x1 x2 x3 S = some o → zH D y A0 s H locs S → lv_has ls 4 [(0, .ref (zh y x0)), (1, .ref (y (100 + x1))), (2, .int x2), (3, .int x3)] → W p l e ({ frames := 4, cells := 0, slots := 0, locals := 85 } : Room) s m args below meth c H locs 0 0 Q (F0 m 21 ls [])) {x0 : Nat} {x1 : Nat} {x2 : Int32} {x3 : Int32} {S : ZS} {H : Heap} {locs : List Loc} {ls : Array Slot} (hf : f_X6_holds_21s self21 x0 x1 x2 x3 S = some o) (hM : zH D y A0 s H locs S) (hl : lv_has ls 4 [(0, .ref (zh y x0)), (1, .ref (y (100 + x1))), (2, .int x2), (3, .int x3)]) : W p l e ({ frames := 4, cells := 0, slots := 0, locals := 85 } : Room) s m args below meth c H locs 0 0 Q (F0 m 21 ls []) := by
  obtain ⟨hx, hb, hml, hown, hts⟩ := id X
  unfold f_X6_holds_21s at hf
  refine lv_iload_n hx hb dX6_holds_21 rfl (lv_at hl 3 rfl) ?_
  refine lv_aload_n hx hb dX6_holds_22 rfl (lv_at hl 1 rfl) ?_
  obtain ⟨ca, hf⟩ := m_chkE hf
  obtain ⟨o1, ho, hf⟩ := m_calE hf
  refine z_callTi X hM ca (c_J0_length_8abf5 ho) gX6_holds_J0_length_8abf5 rfl ⟨rfl, rfl⟩ hd_J0_length_8abf5 ⟨Nat.le_of_ble_eq_true rfl, Nat.le_of_ble_eq_true rfl⟩ rfl hl.1 rfl (Nat.le_of_ble_eq_true rfl) dX6_holds_23 (fun H locs hM => ?_)
  clear ho
  refine lv_icmp_ge (tgt := 53) hx hb dX6_holds_26 (by decide) (fun cc1 => ?_) (fun cc1 => ?_)
  · replace hf := m_ifT hf cc1
    refine lv_iconst (v := (1 : Int32)) hx hb dX6_holds_53 (by decide) ?_
    obtain ⟨cd, hf⟩ := m_chkE hf
    cases hf
    exact hret H locs _ ls hM (m_nb cd) dX6_holds_54
  · replace hf := m_ifF hf cc1
    refine lv_aload_n hx hb dX6_holds_29 rfl (lv_at hl 0 rfl) ?_
    obtain ⟨ca, hf⟩ := m_chkE hf
    replace ca := z_in hM (by decide) ca
    refine z_get (k := 6) (j := 0) (C := RX6) (T := TX6) (N := 2) (fl := zf_6) (v := va_rf ((zP o1.2 0 x0).map (zh y))) X hw_X6_holds_6 hM rfl zc_6 ca (by decide) fl_X6_holds_6_0 rfl dX6_holds_30 ?_
    clear ca
    obtain ⟨b2, hb9, hf⟩ := m_calE hf
    refine z_topr hb9 ?_
    clear hb9
    refine lv_iload_n hx hb dX6_holds_33 rfl (lv_at hl 2 rfl) ?_
    refine lv_iload_n hx hb dX6_holds_34 rfl (lv_at hl 3 rfl) ?_
    refine lv_iadd hx hb dX6_holds_35 ?_
    obtain ⟨v3, ev, hf⟩ := m_bndE hf
    refine m_top ev ?_
    clear ev
    obtain ⟨ca, hf⟩ := m_chkE hf
    replace ca := z_in hM (by decide) ca
    obtain ⟨cd, hf⟩ := m_chkE hf
    refine z_cald X hM ca cd dX6_holds_36 ?_
    clear ca cd
    obtain ⟨v4, ev, hf⟩ := m_bndE hf
    refine m_top ev ?_
    clear ev
    refine lv_aload_n hx hb dX6_holds_37 rfl (lv_at hl 1 rfl) ?_
    refine lv_iload_n hx hb dX6_holds_38 rfl (lv_at hl 3 rfl) ?_
    obtain ⟨ca, hf⟩ := m_chkE hf
    obtain ⟨o5, ho, hf⟩ := m_calE hf
    refine z_callTi X hM ca (c_J0_charAt_5068e ho) gX6_holds_J0_charAt_5068e rfl ⟨rfl, rfl⟩ hd_J0_charAt_5068e ⟨Nat.le_of_ble_eq_true rfl, Nat.le_of_ble_eq_true rfl⟩ rfl hl.1 rfl (Nat.le_of_ble_eq_true rfl) dX6_holds_39 (fun H locs hM => ?_)
    clear ho
    refine lv_icmp_eq (tgt := 47) hx hb dX6_holds_42 (by decide) (fun cc1 => ?_) (fun cc1 => ?_)
    · replace hf := m_ifT hf cc1
      obtain ⟨v6, ev, hf⟩ := m_bndE hf
      refine lv_iinc (v := v6) (lv' := [(3, .int v6), (0, .ref (zh y x0)), (1, .ref (y (100 + x1))), (2, .int x2)]) hx hb dX6_holds_47 hl (k := 3) rfl (by rw [ev]; rfl) (by decide) rfl (fun ls hl => ?_)
      clear ev
      refine lv_goto (tgt := 21) hx hb dX6_holds_50 (by decide) ?_
      exact hself21 x0 x1 x2 v6 _ _ _ _ hf hM (lv_sub hl [1, 2, 3, 0] rfl)
    · replace hf := m_ifF hf cc1
      refine lv_iconst (v := (0 : Int32)) hx hb dX6_holds_45 (by decide) ?_
      obtain ⟨cd, hf⟩ := m_chkE hf
      cases hf
      exact hret H locs _ ls hM (m_nb cd) dX6_holds_46
def f_X6_holds_21 : Nat → Nat → Nat → Int32 → Int32 → ZS → Option (Int32 × ZS)
  | 0 => fun _ _ _ _ _ => none
  | n + 1 => f_X6_holds_21s (f_X6_holds_21 n)
theorem w_X6_holds_21 {p : Program} {l : Launch} {e : Env} {s : State} {m : MethodId} {args : Array Value} {below : List Frame} {meth : Method} {c : Code} {Q : State → Prop} {D : va_G} {y : Nat → ClassId} {A0 : Nat → Prop} {o : Int32 × ZS} (X : CallFix p m c cX6_holds 4 s args wsX6_holds RX6) (hret : zRi p l e ({ frames := 4, cells := 0, slots := 0, locals := 85 } : Room) s m args below meth c Q cX6_holds D y A0 .boolean o) (n : Nat) : ∀ (x0 : Nat) (x1 : Nat) (x2 : Int32) (x3 : Int32) (S : ZS) (H : Heap) (locs : List Loc) (ls : Array Slot), f_X6_holds_21 n x0 x1 x2 x3 S = some o → zH D y A0 s H locs S → lv_has ls 4 [(0, .ref (zh y x0)), (1, .ref (y (100 + x1))), (2, .int x2), (3, .int x3)] → W p l e ({ frames := 4, cells := 0, slots := 0, locals := 85 } : Room) s m args below meth c H locs 0 0 Q (F0 m 21 ls []) := by
  induction n with
  | zero => intro x0 x1 x2 x3 S H locs ls hf; cases hf
  | succ n ih => intro x0 x1 x2 x3 S H locs ls hf hM hl; exact ws_X6_holds_21 X hret (self21 := f_X6_holds_21 n) ih hf hM hl
def f_X6_holds_0 (x0 : Nat) (x1 : Nat) (x2 : Int32) (S : ZS) : Option (Int32 × ZS) :=
  m_if (x2 < 0) (
  f_X6_holds_17  S
  ) (
  m_chk (x1 < zSn) (
  m_cal (f_J0_length_8abf5 x1 S) (fun o1 =>
  m_bnd (x2 + o1.1) (fun v2 =>
  m_chk (zK o1.2 x0 = 6) (
  m_if (v2 ≤ (zI o1.2 1 x0)) (
  f_X6_holds_21 mFuel x0 x1 x2 (0 : Int32) o1.2
  ) (
  f_X6_holds_17  o1.2
  )))))
  )

set_option maxRecDepth 100000 in
set_option maxHeartbeats 4000000 in
theorem w_X6_holds_0 {p : Program} {l : Launch} {e : Env} {s : State} {m : MethodId} {args : Array Value} {below : List Frame} {meth : Method} {c : Code} {Q : State → Prop} {D : va_G} {y : Nat → ClassId} {A0 : Nat → Prop} {o : Int32 × ZS} (X : CallFix p m c cX6_holds 4 s args wsX6_holds RX6) (hret : zRi p l e ({ frames := 4, cells := 0, slots := 0, locals := 85 } : Room) s m args below meth c Q cX6_holds D y A0 .boolean o) {x0 : Nat} {x1 : Nat} {x2 : Int32} {S : ZS} {H : Heap} {locs : List Loc} {ls : Array Slot} (hf : f_X6_holds_0 x0 x1 x2 S = some o) (hM : zH D y A0 s H locs S) (hl : lv_has ls 4 [(0, .ref (zh y x0)), (1, .ref (y (100 + x1))), (2, .int x2)]) : W p l e ({ frames := 4, cells := 0, slots := 0, locals := 85 } : Room) s m args below meth c H locs 0 0 Q (F0 m 0 ls []) := by
  obtain ⟨hx, hb, hml, hown, hts⟩ := id X
  unfold f_X6_holds_0 at hf
  refine lv_iload_n hx hb dX6_holds_0 rfl (lv_at hl 2 rfl) ?_
  refine lv_if_lt (tgt := 17) hx hb dX6_holds_1 (by decide) (fun cc1 => ?_) (fun cc1 => ?_)
  · replace hf := m_ifT hf cc1
    exact w_X6_holds_17 X hret hf hM (lv_sub hl [] rfl)
  · replace hf := m_ifF hf cc1
    refine lv_iload_n hx hb dX6_holds_4 rfl (lv_at hl 2 rfl) ?_
    refine lv_aload_n hx hb dX6_holds_5 rfl (lv_at hl 1 rfl) ?_
    obtain ⟨ca, hf⟩ := m_chkE hf
    obtain ⟨o1, ho, hf⟩ := m_calE hf
    refine z_callTi X hM ca (c_J0_length_8abf5 ho) gX6_holds_J0_length_8abf5 rfl ⟨rfl, rfl⟩ hd_J0_length_8abf5 ⟨Nat.le_of_ble_eq_true rfl, Nat.le_of_ble_eq_true rfl⟩ rfl hl.1 rfl (Nat.le_of_ble_eq_true rfl) dX6_holds_6 (fun H locs hM => ?_)
    clear ho
    refine lv_iadd hx hb dX6_holds_9 ?_
    obtain ⟨v2, ev, hf⟩ := m_bndE hf
    refine m_top ev ?_
    clear ev
    refine lv_aload_n hx hb dX6_holds_10 rfl (lv_at hl 0 rfl) ?_
    obtain ⟨ca, hf⟩ := m_chkE hf
    replace ca := z_in hM (by decide) ca
    refine z_get (k := 6) (j := 1) (C := RX6) (T := TX6) (N := 2) (fl := zf_6) (v := .int (zI o1.2 1 x0)) X hw_X6_holds_6 hM rfl zc_6 ca (by decide) fl_X6_holds_6_1 rfl dX6_holds_11 ?_
    clear ca
    refine lv_icmp_le (tgt := 19) hx hb dX6_holds_14 (by decide) (fun cc1 => ?_) (fun cc1 => ?_)
    · replace hf := m_ifT hf cc1
      refine lv_iconst (v := (0 : Int32)) hx hb dX6_holds_19 (by decide) ?_
      refine lv_istore_n (lv' := [(3, .int (0 : Int32)), (0, .ref (zh y x0)), (1, .ref (y (100 + x1))), (2, .int x2)]) hx hb dX6_holds_20 rfl hl (by decide) rfl (fun ls hl => ?_)
      exact w_X6_holds_21 X hret _ x0 x1 x2 (0 : Int32) _ _ _ _ hf hM (lv_sub hl [1, 2, 3, 0] rfl)
    · replace hf := m_ifF hf cc1
      exact w_X6_holds_17 X hret hf hM (lv_sub hl [] rfl)
def f_X6_holds (x0 : Nat) (x1 : Nat) (x2 : Int32) (S : ZS) : Option (Int32 × ZS) := f_X6_holds_0 x0 x1 x2 S
theorem c_X6_holds {l : Launch} {D : va_G} {y : Nat → ClassId} {x0 : Nat} {x1 : Nat} {x2 : Int32} {S : ZS} {o : Int32 × ZS} (hf : f_X6_holds x0 x1 x2 S = some o) : zMi l yX6_holds wsX6_holds ({ frames := 4, cells := 0, slots := 0, locals := 85 } : Room) [.ref (zh y x0), .ref (y (100 + x1)), .int x2] D y S o :=
  z_entryI (own := RX6) (cc := cX6_holds) (maxL := 4) (by decide) rfl rfl (Nat.le_of_ble_eq_true rfl) (fun p e s m args below meth c A0 Q H locs ls X hret hM hl => w_X6_holds_0 X hret hf hM (lv_sub hl [0, 1, 2] rfl))
theorem hd_X6_is : yX6_is.cls = RX6 ∧ yX6_is.cls ≠ "java/lang/invoke/MethodHandle" ∧ yX6_is.cls ≠ "java/lang/invoke/VarHandle" ∧ (parseMethodDescriptor yX6_is.desc).map (fun d => d.parameters.length) = some 1 := by decide +kernel
theorem fl_X6_is_6_1 : Cond.fieldLink RX6 16 "MoveTexts$Row" "length" "I" ∈ wsX6_is := by decide +kernel
theorem hw_X6_is_6 : ∀ w ∈ wsX60, w ∈ wsX6_is := by decide +kernel
def f_X6_is_25 (t0 : Int32) (S : ZS) : Option (Int32 × ZS) :=
  m_chk (vp_nar .boolean t0 = t0) (some (t0, S))

set_option maxRecDepth 100000 in
set_option maxHeartbeats 4000000 in
theorem w_X6_is_25 {p : Program} {l : Launch} {e : Env} {s : State} {m : MethodId} {args : Array Value} {below : List Frame} {meth : Method} {c : Code} {Q : State → Prop} {D : va_G} {y : Nat → ClassId} {A0 : Nat → Prop} {o : Int32 × ZS} (X : CallFix p m c cX6_is 2 s args wsX6_is RX6) (hret : zRi p l e ({ frames := 5, cells := 0, slots := 0, locals := 108 } : Room) s m args below meth c Q cX6_is D y A0 .boolean o) {t0 : Int32} {S : ZS} {H : Heap} {locs : List Loc} {ls : Array Slot} (hf : f_X6_is_25 t0 S = some o) (hM : zH D y A0 s H locs S) (hl : lv_has ls 2 []) : W p l e ({ frames := 5, cells := 0, slots := 0, locals := 108 } : Room) s m args below meth c H locs 0 0 Q (F0 m 25 ls [.int t0]) := by
  obtain ⟨hx, hb, hml, hown, hts⟩ := id X
  unfold f_X6_is_25 at hf
  obtain ⟨cd, hf⟩ := m_chkE hf
  cases hf
  exact hret H locs _ ls hM (m_nb cd) dX6_is_25
def f_X6_is_24 (S : ZS) : Option (Int32 × ZS) :=
  f_X6_is_25 (0 : Int32) S

set_option maxRecDepth 100000 in
set_option maxHeartbeats 4000000 in
theorem w_X6_is_24 {p : Program} {l : Launch} {e : Env} {s : State} {m : MethodId} {args : Array Value} {below : List Frame} {meth : Method} {c : Code} {Q : State → Prop} {D : va_G} {y : Nat → ClassId} {A0 : Nat → Prop} {o : Int32 × ZS} (X : CallFix p m c cX6_is 2 s args wsX6_is RX6) (hret : zRi p l e ({ frames := 5, cells := 0, slots := 0, locals := 108 } : Room) s m args below meth c Q cX6_is D y A0 .boolean o) {S : ZS} {H : Heap} {locs : List Loc} {ls : Array Slot} (hf : f_X6_is_24  S = some o) (hM : zH D y A0 s H locs S) (hl : lv_has ls 2 []) : W p l e ({ frames := 5, cells := 0, slots := 0, locals := 108 } : Room) s m args below meth c H locs 0 0 Q (F0 m 24 ls []) := by
  obtain ⟨hx, hb, hml, hown, hts⟩ := id X
  unfold f_X6_is_24 at hf
  refine lv_iconst (v := (0 : Int32)) hx hb dX6_is_24 (by decide) ?_
  exact w_X6_is_25 (t0 := (0 : Int32)) X hret hf hM (lv_sub hl [] rfl)
def f_X6_is_0 (x0 : Nat) (x1 : Nat) (S : ZS) : Option (Int32 × ZS) :=
  m_chk (zK S x0 = 6) (
  m_chk (x1 < zSn) (
  m_cal (f_J0_length_8abf5 x1 S) (fun o1 =>
  m_if ((zI S 1 x0) = o1.1) (
  m_chk (zK o1.2 x0 = 6) (
  m_cal (f_X6_holds x0 x1 (0 : Int32) o1.2) (fun o2 =>
  m_if (o2.1 = 0) (
  f_X6_is_24  o2.2
  ) (
  f_X6_is_25 (1 : Int32) o2.2
  )))
  ) (
  f_X6_is_24  o1.2
  ))))

set_option maxRecDepth 100000 in
set_option maxHeartbeats 4000000 in
theorem w_X6_is_0 {p : Program} {l : Launch} {e : Env} {s : State} {m : MethodId} {args : Array Value} {below : List Frame} {meth : Method} {c : Code} {Q : State → Prop} {D : va_G} {y : Nat → ClassId} {A0 : Nat → Prop} {o : Int32 × ZS} (X : CallFix p m c cX6_is 2 s args wsX6_is RX6) (hret : zRi p l e ({ frames := 5, cells := 0, slots := 0, locals := 108 } : Room) s m args below meth c Q cX6_is D y A0 .boolean o) {x0 : Nat} {x1 : Nat} {S : ZS} {H : Heap} {locs : List Loc} {ls : Array Slot} (hf : f_X6_is_0 x0 x1 S = some o) (hM : zH D y A0 s H locs S) (hl : lv_has ls 2 [(0, .ref (zh y x0)), (1, .ref (y (100 + x1)))]) : W p l e ({ frames := 5, cells := 0, slots := 0, locals := 108 } : Room) s m args below meth c H locs 0 0 Q (F0 m 0 ls []) := by
  obtain ⟨hx, hb, hml, hown, hts⟩ := id X
  unfold f_X6_is_0 at hf
  refine lv_aload_n hx hb dX6_is_0 rfl (lv_at hl 0 rfl) ?_
  obtain ⟨ca, hf⟩ := m_chkE hf
  replace ca := z_in hM (by decide) ca
  refine z_get (k := 6) (j := 1) (C := RX6) (T := TX6) (N := 2) (fl := zf_6) (v := .int (zI S 1 x0)) X hw_X6_is_6 hM rfl zc_6 ca (by decide) fl_X6_is_6_1 rfl dX6_is_1 ?_
  clear ca
  refine lv_aload_n hx hb dX6_is_4 rfl (lv_at hl 1 rfl) ?_
  obtain ⟨ca, hf⟩ := m_chkE hf
  obtain ⟨o1, ho, hf⟩ := m_calE hf
  refine z_callTi X hM ca (c_J0_length_8abf5 ho) gX6_is_J0_length_8abf5 rfl ⟨rfl, rfl⟩ hd_J0_length_8abf5 ⟨Nat.le_of_ble_eq_true rfl, Nat.le_of_ble_eq_true rfl⟩ rfl hl.1 rfl (Nat.le_of_ble_eq_true rfl) dX6_is_5 (fun H locs hM => ?_)
  clear ho
  refine lv_icmp_ne (tgt := 24) hx hb dX6_is_8 (by decide) (fun cc1 => ?_) (fun cc1 => ?_)
  · replace hf := m_ifF hf cc1
    exact w_X6_is_24 X hret hf hM (lv_sub hl [] rfl)
  · replace hf := m_ifT hf cc1
    refine lv_aload_n hx hb dX6_is_11 rfl (lv_at hl 0 rfl) ?_
    refine lv_aload_n hx hb dX6_is_12 rfl (lv_at hl 1 rfl) ?_
    refine lv_iconst (v := (0 : Int32)) hx hb dX6_is_13 (by decide) ?_
    obtain ⟨ca, hf⟩ := m_chkE hf
    replace ca := z_in hM (by decide) ca
    obtain ⟨o2, ho, hf⟩ := m_calE hf
    refine z_callVi (k := 6) (C := RX6) (T := TX6) (N := 2) (fl := zf_6) X hM rfl zc_6 ca (c_X6_holds ho) gX6_is_X6_holds rfl ⟨rfl, rfl⟩ hd_X6_holds ⟨Nat.le_of_ble_eq_true rfl, Nat.le_of_ble_eq_true rfl⟩ rfl hl.1 rfl (Nat.le_of_ble_eq_true rfl) dX6_is_14 (fun H locs hM => ?_)
    clear ho
    refine lv_if_eq (tgt := 24) hx hb dX6_is_17 (by decide) (fun cc1 => ?_) (fun cc1 => ?_)
    · replace hf := m_ifT hf cc1
      exact w_X6_is_24 X hret hf hM (lv_sub hl [] rfl)
    · replace hf := m_ifF hf cc1
      refine lv_iconst (v := (1 : Int32)) hx hb dX6_is_20 (by decide) ?_
      refine lv_goto (tgt := 25) hx hb dX6_is_21 (by decide) ?_
      exact w_X6_is_25 (t0 := (1 : Int32)) X hret hf hM (lv_sub hl [] rfl)
def f_X6_is (x0 : Nat) (x1 : Nat) (S : ZS) : Option (Int32 × ZS) := f_X6_is_0 x0 x1 S
theorem c_X6_is {l : Launch} {D : va_G} {y : Nat → ClassId} {x0 : Nat} {x1 : Nat} {S : ZS} {o : Int32 × ZS} (hf : f_X6_is x0 x1 S = some o) : zMi l yX6_is wsX6_is ({ frames := 5, cells := 0, slots := 0, locals := 108 } : Room) [.ref (zh y x0), .ref (y (100 + x1))] D y S o :=
  z_entryI (own := RX6) (cc := cX6_is) (maxL := 2) (by decide) rfl rfl (Nat.le_of_ble_eq_true rfl) (fun p e s m args below meth c A0 Q H locs ls X hret hM hl => w_X6_is_0 X hret hf hM (lv_sub hl [0, 1] rfl))
