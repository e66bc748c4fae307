section
theorem hd_X1_goesOn : yX1_goesOn.cls = RX1 ∧ yX1_goesOn.cls ≠ "java/lang/invoke/MethodHandle" ∧ yX1_goesOn.cls ≠ "java/lang/invoke/VarHandle" ∧ (parseMethodDescriptor yX1_goesOn.desc).map (fun d => d.parameters.length) = some 1 := by decide +kernel
theorem fl_X1_goesOn_4_0 : Cond.fieldLink RX1 69 "MoveTexts$Node" "parent" "I" ∈ wsX1_goesOn := by decide +kernel
theorem fl_X1_goesOn_4_2 : Cond.fieldLink RX1 60 "MoveTexts$Node" "first" "I" ∈ wsX1_goesOn := by decide +kernel
theorem hw_X1_goesOn_4 : ∀ w ∈ wsX40, w ∈ wsX1_goesOn := by decide +kernel
noncomputable def f_X1_goesOn_24 (t0 : Int32) (S : ZS) : Option (Int32 × ZS) :=
  m_chk (vp_nar .boolean t0 = t0) (some (t0, S))

set_option maxRecDepth 100000 in
set_option maxHeartbeats 4000000 in
theorem w_X1_goesOn_24 {p : Program} {l : Launch} {e : Env} {s : State} {m : MethodId} {args : Array Value} {below : List Frame} {meth : Method} {c : Code} {Q : State → Prop} {D : va_G} {y : Nat → ClassId} {A0 : Nat → Prop} {o : Int32 × ZS} (X : CallFix p m c cX1_goesOn 2 s args wsX1_goesOn RX1) (hret : zRi p l e ({ frames := 1, cells := 0, slots := 0, locals := 22 } : Room) s m args below meth c Q cX1_goesOn D y A0 .boolean o) {t0 : Int32} {S : ZS} {H : Heap} {locs : List Loc} {ls : Array Slot} (hf : f_X1_goesOn_24 t0 S = some o) (hM : zH D y A0 s H locs S) (hl : lv_has ls 2 []) : W p l e ({ frames := 1, cells := 0, slots := 0, locals := 22 } : Room) s m args below meth c H locs 0 0 Q (F0 m 24 ls [.int t0]) := by
  obtain ⟨hx, hb, hml, hown, hts⟩ := id X
  unfold f_X1_goesOn_24 at hf
  obtain ⟨cd, hf⟩ := m_chkE hf
  cases hf
  exact hret H locs _ ls hM (m_nb cd) dX1_goesOn_24
noncomputable def f_X1_goesOn_0 (x0 : Nat) (x1 : Int32) (S : ZS) : Option (Int32 × ZS) :=
  m_chk (zK S x0 = 1) (
  m_cal (f_X1_at x0 x1 S) (fun o1 =>
  m_chk (zK o1.2 o1.1 = 4) (
  m_chk (zK o1.2 x0 = 1) (
  m_cal (f_X1_at x0 (zI o1.2 0 o1.1) o1.2) (fun o2 =>
  m_chk (zK o2.2 o2.1 = 4) (
  m_if ((zI o2.2 2 o2.1) = x1) (
  f_X1_goesOn_24 (1 : Int32) o2.2
  ) (
  f_X1_goesOn_24 (0 : Int32) o2.2
  )))))))

set_option maxRecDepth 100000 in
set_option maxHeartbeats 4000000 in
theorem w_X1_goesOn_0 {p : Program} {l : Launch} {e : Env} {s : State} {m : MethodId} {args : Array Value} {below : List Frame} {meth : Method} {c : Code} {Q : State → Prop} {D : va_G} {y : Nat → ClassId} {A0 : Nat → Prop} {o : Int32 × ZS} (X : CallFix p m c cX1_goesOn 2 s args wsX1_goesOn RX1) (hret : zRi p l e ({ frames := 1, cells := 0, slots := 0, locals := 22 } : Room) s m args below meth c Q cX1_goesOn D y A0 .boolean o) {x0 : Nat} {x1 : Int32} {S : ZS} {H : Heap} {locs : List Loc} {ls : Array Slot} (hf : f_X1_goesOn_0 x0 x1 S = some o) (hM : zH D y A0 s H locs S) (hl : lv_has ls 2 [(0, .ref (zh y x0)), (1, .int x1)]) : W p l e ({ frames := 1, cells := 0, slots := 0, locals := 22 } : Room) s m args below meth c H locs 0 0 Q (F0 m 0 ls []) := by
  obtain ⟨hx, hb, hml, hown, hts⟩ := id X
  unfold f_X1_goesOn_0 at hf
  refine lv_aload_n hx hb dX1_goesOn_0 rfl (lv_at hl 0 rfl) ?_
  refine lv_aload_n hx hb dX1_goesOn_1 rfl (lv_at hl 0 rfl) ?_
  refine lv_iload_n hx hb dX1_goesOn_2 rfl (lv_at hl 1 rfl) ?_
  obtain ⟨ca, hf⟩ := m_chkE hf
  replace ca := z_in hM (by decide) ca
  obtain ⟨o1, ho, hf⟩ := m_calE hf
  refine z_callVr (k := 1) (C := RX1) (T := TX1) (N := 8) (fl := zf_1) X hM rfl zc_1 ca (c_X1_at ho) gX1_goesOn_X1_at rfl ⟨rfl, rfl⟩ hd_X1_at ⟨Nat.le_of_ble_eq_true rfl, Nat.le_of_ble_eq_true rfl⟩ rfl hl.1 rfl (Nat.le_of_ble_eq_true rfl) dX1_goesOn_3 (fun H locs hM => ?_)
  clear ho
  obtain ⟨ca, hf⟩ := m_chkE hf
  replace ca := z_in hM (by decide) ca
  refine z_get (k := 4) (j := 0) (C := RX4) (T := TX4) (N := 7) (fl := zf_4) (v := .int (zI o1.2 0 o1.1)) X hw_X1_goesOn_4 hM rfl zc_4 ca (by decide) fl_X1_goesOn_4_0 rfl dX1_goesOn_6 ?_
  clear ca
  obtain ⟨ca, hf⟩ := m_chkE hf
  replace ca := z_in hM (by decide) ca
  obtain ⟨o2, ho, hf⟩ := m_calE hf
  refine z_callVr (k := 1) (C := RX1) (T := TX1) (N := 8) (fl := zf_1) X hM rfl zc_1 ca (c_X1_at ho) gX1_goesOn_X1_at rfl ⟨rfl, rfl⟩ hd_X1_at ⟨Nat.le_of_ble_eq_true rfl, Nat.le_of_ble_eq_true rfl⟩ rfl hl.1 rfl (Nat.le_of_ble_eq_true rfl) dX1_goesOn_9 (fun H locs hM => ?_)
  clear ho
  obtain ⟨ca, hf⟩ := m_chkE hf
  replace ca := z_in hM (by decide) ca
  refine z_get (k := 4) (j := 2) (C := RX4) (T := TX4) (N := 7) (fl := zf_4) (v := .int (zI o2.2 2 o2.1)) X hw_X1_goesOn_4 hM rfl zc_4 ca (by decide) fl_X1_goesOn_4_2 rfl dX1_goesOn_12 ?_
  clear ca
  refine lv_iload_n hx hb dX1_goesOn_15 rfl (lv_at hl 1 rfl) ?_
  refine lv_icmp_ne (tgt := 23) hx hb dX1_goesOn_16 (by decide) (fun cc1 => ?_) (fun cc1 => ?_)
  · replace hf := m_ifF hf cc1
    refine lv_iconst (v := (0 : Int32)) hx hb dX1_goesOn_23 (by decide) ?_
    exact w_X1_goesOn_24 (t0 := (0 : Int32)) X hret hf hM (lv_sub hl [] rfl)
  · replace hf := m_ifT hf cc1
    refine lv_iconst (v := (1 : Int32)) hx hb dX1_goesOn_19 (by decide) ?_
    refine lv_goto (tgt := 24) hx hb dX1_goesOn_20 (by decide) ?_
    exact w_X1_goesOn_24 (t0 := (1 : Int32)) X hret hf hM (lv_sub hl [] rfl)
noncomputable def f_X1_goesOn (x0 : Nat) (x1 : Int32) (S : ZS) : Option (Int32 × ZS) := f_X1_goesOn_0 x0 x1 S
theorem c_X1_goesOn {l : Launch} {D : va_G} {y : Nat → ClassId} {x0 : Nat} {x1 : Int32} {S : ZS} {o : Int32 × ZS} (hf : f_X1_goesOn x0 x1 S = some o) : zMi l yX1_goesOn wsX1_goesOn ({ frames := 1, cells := 0, slots := 0, locals := 22 } : Room) [.ref (zh y x0), .int x1] D y S o :=
  z_entryI (own := RX1) (cc := cX1_goesOn) (maxL := 2) (by decide) rfl rfl (Nat.le_of_ble_eq_true rfl) (fun p e s m args below meth c A0 Q H locs ls X hret hM hl => w_X1_goesOn_0 X hret hf hM (lv_sub hl [0, 1] rfl))
theorem hd_X1_deepOfNext : yX1_deepOfNext.cls = RX1 ∧ yX1_deepOfNext.cls ≠ "java/lang/invoke/MethodHandle" ∧ yX1_deepOfNext.cls ≠ "java/lang/invoke/VarHandle" ∧ (parseMethodDescriptor yX1_deepOfNext.desc).map (fun d => d.parameters.length) = some 1 := by decide +kernel
theorem fl_X1_deepOfNext_4_0 : Cond.fieldLink RX1 69 "MoveTexts$Node" "parent" "I" ∈ wsX1_deepOfNext := by decide +kernel
theorem fl_X1_deepOfNext_4_2 : Cond.fieldLink RX1 60 "MoveTexts$Node" "first" "I" ∈ wsX1_deepOfNext := by decide +kernel
theorem hw_X1_deepOfNext_4 : ∀ w ∈ wsX40, w ∈ wsX1_deepOfNext := by decide +kernel
noncomputable def f_X1_deepOfNext_66 (x2 : Int32) (S : ZS) : Option (Int32 × ZS) :=
  some (x2, S)

set_option maxRecDepth 100000 in
set_option maxHeartbeats 4000000 in
theorem w_X1_deepOfNext_66 {p : Program} {l : Launch} {e : Env} {s : State} {m : MethodId} {args : Array Value} {below : List Frame} {meth : Method} {c : Code} {Q : State → Prop} {D : va_G} {y : Nat → ClassId} {A0 : Nat → Prop} {o : Int32 × ZS} (X : CallFix p m c cX1_deepOfNext 5 s args wsX1_deepOfNext RX1) (hret : zRi p l e ({ frames := 2, cells := 0, slots := 0, locals := 43 } : Room) s m args below meth c Q cX1_deepOfNext D y A0 .int o) {x2 : Int32} {S : ZS} {H : Heap} {locs : List Loc} {ls : Array Slot} (hf : f_X1_deepOfNext_66 x2 S = some o) (hM : zH D y A0 s H locs S) (hl : lv_has ls 5 [(2, .int x2)]) : W p l e ({ frames := 2, cells := 0, slots := 0, locals := 43 } : Room) s m args below meth c H locs 0 0 Q (F0 m 66 ls []) := by
  obtain ⟨hx, hb, hml, hown, hts⟩ := id X
  unfold f_X1_deepOfNext_66 at hf
  refine lv_iload_n hx hb dX1_deepOfNext_66 rfl (lv_at hl 0 rfl) ?_
  cases hf
  exact hret H locs _ ls hM rfl dX1_deepOfNext_67
noncomputable def f_X1_deepOfNext_49 (self23 : Nat → Int32 → Int32 → Int32 → ZS → Option (Int32 × ZS)) (x0 : Nat) (x3 : Int32) (x4 : Int32) (t0 : Int32) (t1 : Int32) (S : ZS) : Option (Int32 × ZS) :=
  m_bnd (t1 + t0) (fun v1 =>
  m_chk (zK S x0 = 1) (
  m_cal (f_X1_at x0 x3 S) (fun o2 =>
  m_chk (zK o2.2 o2.1 = 4) (
  m_bnd (x4 + (1 : Int32)) (fun v3 =>
  self23 x0 v1 (zI o2.2 0 o2.1) v3 o2.2)))))

set_option maxRecDepth 100000 in
set_option maxHeartbeats 4000000 in
theorem w_X1_deepOfNext_49 {p : Program} {l : Launch} {e : Env} {s : State} {m : MethodId} {args : Array Value} {below : List Frame} {meth : Method} {c : Code} {Q : State → Prop} {D : va_G} {y : Nat → ClassId} {A0 : Nat → Prop} {o : Int32 × ZS} (X : CallFix p m c cX1_deepOfNext 5 s args wsX1_deepOfNext RX1) (hret : zRi p l e ({ frames := 2, cells := 0, slots := 0, locals := 43 } : Room) s m args below meth c Q cX1_deepOfNext D y A0 .int o) {self23 : Nat → Int32 → Int32 → Int32 → ZS → Option (Int32 × ZS)} (hself23 : ∀ (x0 : Nat) (x2 : Int32) (x3 : Int32) (x4 : Int32) (S : ZS) (H : Heap) (locs : List Loc) (ls : Array Slot), self23 x0 x2 x3 x4 S = some o → zH D y A0 s H locs S → lv_has ls 5 [(0, .ref (zh y x0)), (2, .int x2), (3, .int x3), (4, .int x4)] → W p l e ({ frames := 2, cells := 0, slots := 0, locals := 43 } : Room) s m args below meth c H locs 0 0 Q (F0 m 23 ls [])) {x0 : Nat} {x3 : Int32} {x4 : Int32} {t0 : Int32} {t1 : Int32} {S : ZS} {H : Heap} {locs : List Loc} {ls : Array Slot} (hf : f_X1_deepOfNext_49 self23 x0 x3 x4 t0 t1 S = some o) (hM : zH D y A0 s H locs S) (hl : lv_has ls 5 [(0, .ref (zh y x0)), (3, .int x3), (4, .int x4)]) : W p l e ({ frames := 2, cells := 0, slots := 0, locals := 43 } : Room) s m args below meth c H locs 0 0 Q (F0 m 49 ls [.int t0, .int t1]) := by
  obtain ⟨hx, hb, hml, hown, hts⟩ := id X
  unfold f_X1_deepOfNext_49 at hf
  refine lv_iadd hx hb dX1_deepOfNext_49 ?_
  obtain ⟨v1, ev, hf⟩ := m_bndE hf
  refine m_top ev ?_
  clear ev
  refine lv_istore_n (lv' := [(2, .int v1), (0, .ref (zh y x0)), (3, .int x3), (4, .int x4)]) hx hb dX1_deepOfNext_50 rfl hl (by decide) rfl (fun ls hl => ?_)
  refine lv_aload_n hx hb dX1_deepOfNext_51 rfl (lv_at hl 1 rfl) ?_
  refine lv_iload_n hx hb dX1_deepOfNext_52 rfl (lv_at hl 2 rfl) ?_
  obtain ⟨ca, hf⟩ := m_chkE hf
  replace ca := z_in hM (by decide) ca
  obtain ⟨o2, ho, hf⟩ := m_calE hf
  refine z_callVr (k := 1) (C := RX1) (T := TX1) (N := 8) (fl := zf_1) X hM rfl zc_1 ca (c_X1_at ho) gX1_deepOfNext_X1_at rfl ⟨rfl, rfl⟩ hd_X1_at ⟨Nat.le_of_ble_eq_true rfl, Nat.le_of_ble_eq_true rfl⟩ rfl hl.1 rfl (Nat.le_of_ble_eq_true rfl) dX1_deepOfNext_53 (fun H locs hM => ?_)
  clear ho
  obtain ⟨ca, hf⟩ := m_chkE hf
  replace ca := z_in hM (by decide) ca
  refine z_get (k := 4) (j := 0) (C := RX4) (T := TX4) (N := 7) (fl := zf_4) (v := .int (zI o2.2 0 o2.1)) X hw_X1_deepOfNext_4 hM rfl zc_4 ca (by decide) fl_X1_deepOfNext_4_0 rfl dX1_deepOfNext_56 ?_
  clear ca
  refine lv_istore_n (lv' := [(3, .int (zI o2.2 0 o2.1)), (2, .int v1), (0, .ref (zh y x0)), (4, .int x4)]) hx hb dX1_deepOfNext_59 rfl hl (by decide) rfl (fun ls hl => ?_)
  obtain ⟨v3, ev, hf⟩ := m_bndE hf
  refine lv_iinc (v := v3) (lv' := [(4, .int v3), (3, .int (zI o2.2 0 o2.1)), (2, .int v1), (0, .ref (zh y x0))]) hx hb dX1_deepOfNext_60 hl (k := 3) rfl (by rw [ev]; rfl) (by decide) rfl (fun ls hl => ?_)
  clear ev
  refine lv_goto (tgt := 23) hx hb dX1_deepOfNext_63 (by decide) ?_
  exact hself23 x0 v1 (zI o2.2 0 o2.1) v3 _ _ _ _ hf hM (lv_sub hl [3, 2, 1, 0] rfl)
noncomputable def f_X1_deepOfNext_23s (self23 : Nat → Int32 → Int32 → Int32 → ZS → Option (Int32 × ZS)) (x0 : Nat) (x2 : Int32) (x3 : Int32) (x4 : Int32) (S : ZS) : Option (Int32 × ZS) :=
  m_if ((300 : Int32) ≤ x4) (
  f_X1_deepOfNext_66 x2 S
  ) (
  m_if (x3 ≤ 0) (
  f_X1_deepOfNext_66 x2 S
  ) (
  m_chk (zK S x0 = 1) (
  m_cal (f_X1_goesOn x0 x3 S) (fun o1 =>
  m_if (o1.1 = 0) (
  f_X1_deepOfNext_49 self23 x0 x3 x4 (1 : Int32) x2 o1.2
  ) (
  f_X1_deepOfNext_49 self23 x0 x3 x4 (0 : Int32) x2 o1.2
  )))
  )
  )

set_option maxRecDepth 100000 in
set_option maxHeartbeats 4000000 in
theorem ws_X1_deepOfNext_23 {p : Program} {l : Launch} {e : Env} {s : State} {m : MethodId} {args : Array Value} {below : List Frame} {meth : Method} {c : Code} {Q : State → Prop} {D : va_G} {y : Nat → ClassId} {A0 : Nat → Prop} {o : Int32 × ZS} (X : CallFix p m c cX1_deepOfNext 5 s args wsX1_deepOfNext RX1) (hret : zRi p l e ({ frames := 2, cells := 0, slots := 0, locals := 43 } : Room) s m args below meth c Q cX1_deepOfNext D y A0 .int o) {self23 : Nat → Int32 → Int32 → Int32 → ZS → Option (Int32 × ZS)} (hself23 : ∀ (x0 : Nat) (x2 : Int32) (x3 : Int32) (x4 : Int32) (S : ZS) (H : Heap) (locs : List Loc) (ls : Array Slot), self23 x0 x2 x3 x4 S = some o → zH D y A0 s H locs S → lv_has ls 5 [(0, .ref (zh y x0)), (2, .int x2), (3, .int x3), (4, .int x4)] → W p l e ({ frames := 2, cells := 0, slots := 0, locals := 43 } : Room) s m args below meth c H locs 0 0 Q (F0 m 23 ls [])) {x0 : Nat} {x2 : Int32} {x3 : Int32} {x4 : Int32} {S : ZS} {H : Heap} {locs : List Loc} {ls : Array Slot} (hf : f_X1_deepOfNext_23s self23 x0 x2 x3 x4 S = some o) (hM : zH D y A0 s H locs S) (hl : lv_has ls 5 [(0, .ref (zh y x0)), (2, .int x2), (3, .int x3), (4, .int x4)]) : W p l e ({ frames := 2, cells := 0, slots := 0, locals := 43 } : Room) s m args below meth c H locs 0 0 Q (F0 m 23 ls []) := by
  obtain ⟨hx, hb, hml, hown, hts⟩ := id X
  unfold f_X1_deepOfNext_23s at hf
  refine lv_iload hx hb dX1_deepOfNext_23 (lv_at hl 3 rfl) ?_
  refine lv_sipush (v := (300 : Int32)) hx hb dX1_deepOfNext_25 (by decide) ?_
  refine lv_icmp_ge (tgt := 66) hx hb dX1_deepOfNext_28 (by decide) (fun cc1 => ?_) (fun cc1 => ?_)
  · replace hf := m_ifT hf cc1
    exact w_X1_deepOfNext_66 (x2 := x2) X hret hf hM (lv_sub hl [1] rfl)
  · replace hf := m_ifF hf cc1
    refine lv_iload_n hx hb dX1_deepOfNext_31 rfl (lv_at hl 2 rfl) ?_
    refine lv_if_le (tgt := 66) hx hb dX1_deepOfNext_32 (by decide) (fun cc1 => ?_) (fun cc1 => ?_)
    · replace hf := m_ifT hf cc1
      exact w_X1_deepOfNext_66 (x2 := x2) X hret hf hM (lv_sub hl [1] rfl)
    · replace hf := m_ifF hf cc1
      refine lv_iload_n hx hb dX1_deepOfNext_35 rfl (lv_at hl 1 rfl) ?_
      refine lv_aload_n hx hb dX1_deepOfNext_36 rfl (lv_at hl 0 rfl) ?_
      refine lv_iload_n hx hb dX1_deepOfNext_37 rfl (lv_at hl 2 rfl) ?_
      obtain ⟨ca, hf⟩ := m_chkE hf
      replace ca := z_in hM (by decide) ca
      obtain ⟨o1, ho, hf⟩ := m_calE hf
      refine z_callVi (k := 1) (C := RX1) (T := TX1) (N := 8) (fl := zf_1) X hM rfl zc_1 ca (c_X1_goesOn ho) gX1_deepOfNext_X1_goesOn rfl ⟨rfl, rfl⟩ hd_X1_goesOn ⟨Nat.le_of_ble_eq_true rfl, Nat.le_of_ble_eq_true rfl⟩ rfl hl.1 rfl (Nat.le_of_ble_eq_true rfl) dX1_deepOfNext_38 (fun H locs hM => ?_)
      clear ho
      refine lv_if_eq (tgt := 48) hx hb dX1_deepOfNext_41 (by decide) (fun cc1 => ?_) (fun cc1 => ?_)
      · replace hf := m_ifT hf cc1
        refine lv_iconst (v := (1 : Int32)) hx hb dX1_deepOfNext_48 (by decide) ?_
        exact w_X1_deepOfNext_49 (x0 := x0) (x3 := x3) (x4 := x4) (t0 := (1 : Int32)) (t1 := x2) X hret hself23 hf hM (lv_sub hl [0, 2, 3] rfl)
      · replace hf := m_ifF hf cc1
        refine lv_iconst (v := (0 : Int32)) hx hb dX1_deepOfNext_44 (by decide) ?_
        refine lv_goto (tgt := 49) hx hb dX1_deepOfNext_45 (by decide) ?_
        exact w_X1_deepOfNext_49 (x0 := x0) (x3 := x3) (x4 := x4) (t0 := (0 : Int32)) (t1 := x2) X hret hself23 hf hM (lv_sub hl [0, 2, 3] rfl)
noncomputable def f_X1_deepOfNext_23 : Nat → Nat → Int32 → Int32 → Int32 → ZS → Option (Int32 × ZS)
  | 0 => fun _ _ _ _ _ => none
  | n + 1 => f_X1_deepOfNext_23s (f_X1_deepOfNext_23 n)
theorem w_X1_deepOfNext_23 {p : Program} {l : Launch} {e : Env} {s : State} {m : MethodId} {args : Array Value} {below : List Frame} {meth : Method} {c : Code} {Q : State → Prop} {D : va_G} {y : Nat → ClassId} {A0 : Nat → Prop} {o : Int32 × ZS} (X : CallFix p m c cX1_deepOfNext 5 s args wsX1_deepOfNext RX1) (hret : zRi p l e ({ frames := 2, cells := 0, slots := 0, locals := 43 } : Room) s m args below meth c Q cX1_deepOfNext D y A0 .int o) (n : Nat) : ∀ (x0 : Nat) (x2 : Int32) (x3 : Int32) (x4 : Int32) (S : ZS) (H : Heap) (locs : List Loc) (ls : Array Slot), f_X1_deepOfNext_23 n x0 x2 x3 x4 S = some o → zH D y A0 s H locs S → lv_has ls 5 [(0, .ref (zh y x0)), (2, .int x2), (3, .int x3), (4, .int x4)] → W p l e ({ frames := 2, cells := 0, slots := 0, locals := 43 } : Room) s m args below meth c H locs 0 0 Q (F0 m 23 ls []) := by
  induction n with
  | zero => intro x0 x2 x3 x4 S H locs ls hf; cases hf
  | succ n ih => intro x0 x2 x3 x4 S H locs ls hf hM hl; exact ws_X1_deepOfNext_23 X hret (self23 := f_X1_deepOfNext_23 n) ih hf hM hl
noncomputable def f_X1_deepOfNext_17 (x0 : Nat) (x1 : Int32) (t0 : Int32) (S : ZS) : Option (Int32 × ZS) :=
  f_X1_deepOfNext_23 mFuel x0 t0 x1 (0 : Int32) S

set_option maxRecDepth 100000 in
set_option maxHeartbeats 4000000 in
theorem w_X1_deepOfNext_17 {p : Program} {l : Launch} {e : Env} {s : State} {m : MethodId} {args : Array Value} {below : List Frame} {meth : Method} {c : Code} {Q : State → Prop} {D : va_G} {y : Nat → ClassId} {A0 : Nat → Prop} {o : Int32 × ZS} (X : CallFix p m c cX1_deepOfNext 5 s args wsX1_deepOfNext RX1) (hret : zRi p l e ({ frames := 2, cells := 0, slots := 0, locals := 43 } : Room) s m args below meth c Q cX1_deepOfNext D y A0 .int o) {x0 : Nat} {x1 : Int32} {t0 : Int32} {S : ZS} {H : Heap} {locs : List Loc} {ls : Array Slot} (hf : f_X1_deepOfNext_17 x0 x1 t0 S = some o) (hM : zH D y A0 s H locs S) (hl : lv_has ls 5 [(0, .ref (zh y x0)), (1, .int x1)]) : W p l e ({ frames := 2, cells := 0, slots := 0, locals := 43 } : Room) s m args below meth c H locs 0 0 Q (F0 m 17 ls [.int t0]) := by
  obtain ⟨hx, hb, hml, hown, hts⟩ := id X
  unfold f_X1_deepOfNext_17 at hf
  refine lv_istore_n (lv' := [(2, .int t0), (0, .ref (zh y x0)), (1, .int x1)]) hx hb dX1_deepOfNext_17 rfl hl (by decide) rfl (fun ls hl => ?_)
  refine lv_iload_n hx hb dX1_deepOfNext_18 rfl (lv_at hl 2 rfl) ?_
  refine lv_istore_n (lv' := [(3, .int x1), (2, .int t0), (0, .ref (zh y x0)), (1, .int x1)]) hx hb dX1_deepOfNext_19 rfl hl (by decide) rfl (fun ls hl => ?_)
  refine lv_iconst (v := (0 : Int32)) hx hb dX1_deepOfNext_20 (by decide) ?_
  refine lv_istore (lv' := [(4, .int (0 : Int32)), (3, .int x1), (2, .int t0), (0, .ref (zh y x0)), (1, .int x1)]) hx hb dX1_deepOfNext_21 hl (by decide) rfl (fun ls hl => ?_)
  exact w_X1_deepOfNext_23 X hret _ x0 t0 x1 (0 : Int32) _ _ _ _ hf hM (lv_sub hl [3, 2, 1, 0] rfl)
noncomputable def f_X1_deepOfNext_0 (x0 : Nat) (x1 : Int32) (S : ZS) : Option (Int32 × ZS) :=
  m_chk (zK S x0 = 1) (
  m_cal (f_X1_at x0 x1 S) (fun o1 =>
  m_chk (zK o1.2 o1.1 = 4) (
  m_if ((zI o1.2 2 o1.1) = (-1 : Int32)) (
  f_X1_deepOfNext_17 x0 x1 (0 : Int32) o1.2
  ) (
  f_X1_deepOfNext_17 x0 x1 (1 : Int32) o1.2
  ))))

set_option maxRecDepth 100000 in
set_option maxHeartbeats 4000000 in
theorem w_X1_deepOfNext_0 {p : Program} {l : Launch} {e : Env} {s : State} {m : MethodId} {args : Array Value} {below : List Frame} {meth : Method} {c : Code} {Q : State → Prop} {D : va_G} {y : Nat → ClassId} {A0 : Nat → Prop} {o : Int32 × ZS} (X : CallFix p m c cX1_deepOfNext 5 s args wsX1_deepOfNext RX1) (hret : zRi p l e ({ frames := 2, cells := 0, slots := 0, locals := 43 } : Room) s m args below meth c Q cX1_deepOfNext D y A0 .int o) {x0 : Nat} {x1 : Int32} {S : ZS} {H : Heap} {locs : List Loc} {ls : Array Slot} (hf : f_X1_deepOfNext_0 x0 x1 S = some o) (hM : zH D y A0 s H locs S) (hl : lv_has ls 5 [(0, .ref (zh y x0)), (1, .int x1)]) : W p l e ({ frames := 2, cells := 0, slots := 0, locals := 43 } : Room) s m args below meth c H locs 0 0 Q (F0 m 0 ls []) := by
  obtain ⟨hx, hb, hml, hown, hts⟩ := id X
  unfold f_X1_deepOfNext_0 at hf
  refine lv_aload_n hx hb dX1_deepOfNext_0 rfl (lv_at hl 0 rfl) ?_
  refine lv_iload_n hx hb dX1_deepOfNext_1 rfl (lv_at hl 1 rfl) ?_
  obtain ⟨ca, hf⟩ := m_chkE hf
  replace ca := z_in hM (by decide) ca
  obtain ⟨o1, ho, hf⟩ := m_calE hf
  refine z_callVr (k := 1) (C := RX1) (T := TX1) (N := 8) (fl := zf_1) X hM rfl zc_1 ca (c_X1_at ho) gX1_deepOfNext_X1_at rfl ⟨rfl, rfl⟩ hd_X1_at ⟨Nat.le_of_ble_eq_true rfl, Nat.le_of_ble_eq_true rfl⟩ rfl hl.1 rfl (Nat.le_of_ble_eq_true rfl) dX1_deepOfNext_2 (fun H locs hM => ?_)
  clear ho
  obtain ⟨ca, hf⟩ := m_chkE hf
  replace ca := z_in hM (by decide) ca
  refine z_get (k := 4) (j := 2) (C := RX4) (T := TX4) (N := 7) (fl := zf_4) (v := .int (zI o1.2 2 o1.1)) X hw_X1_deepOfNext_4 hM rfl zc_4 ca (by decide) fl_X1_deepOfNext_4_2 rfl dX1_deepOfNext_5 ?_
  clear ca
  refine lv_iconst (v := (-1 : Int32)) hx hb dX1_deepOfNext_8 (by decide) ?_
  refine lv_icmp_ne (tgt := 16) hx hb dX1_deepOfNext_9 (by decide) (fun cc1 => ?_) (fun cc1 => ?_)
  · replace hf := m_ifF hf cc1
    refine lv_iconst (v := (1 : Int32)) hx hb dX1_deepOfNext_16 (by decide) ?_
    exact w_X1_deepOfNext_17 (x0 := x0) (x1 := x1) (t0 := (1 : Int32)) X hret hf hM (lv_sub hl [0, 1] rfl)
  · replace hf := m_ifT hf cc1
    refine lv_iconst (v := (0 : Int32)) hx hb dX1_deepOfNext_12 (by decide) ?_
    refine lv_goto (tgt := 17) hx hb dX1_deepOfNext_13 (by decide) ?_
    exact w_X1_deepOfNext_17 (x0 := x0) (x1 := x1) (t0 := (0 : Int32)) X hret hf hM (lv_sub hl [0, 1] rfl)
noncomputable def f_X1_deepOfNext (x0 : Nat) (x1 : Int32) (S : ZS) : Option (Int32 × ZS) := f_X1_deepOfNext_0 x0 x1 S
theorem c_X1_deepOfNext {l : Launch} {D : va_G} {y : Nat → ClassId} {x0 : Nat} {x1 : Int32} {S : ZS} {o : Int32 × ZS} (hf : f_X1_deepOfNext x0 x1 S = some o) : zMi l yX1_deepOfNext wsX1_deepOfNext ({ frames := 2, cells := 0, slots := 0, locals := 43 } : Room) [.ref (zh y x0), .int x1] D y S o :=
  z_entryI (own := RX1) (cc := cX1_deepOfNext) (maxL := 5) (by decide) rfl rfl (Nat.le_of_ble_eq_true rfl) (fun p e s m args below meth c A0 Q H locs ls X hret hM hl => w_X1_deepOfNext_0 X hret hf hM (lv_sub hl [0, 1] rfl))
theorem hd_X1_mayLead : yX1_mayLead.cls = RX1 ∧ yX1_mayLead.cls ≠ "java/lang/invoke/MethodHandle" ∧ yX1_mayLead.cls ≠ "java/lang/invoke/VarHandle" ∧ (parseMethodDescriptor yX1_mayLead.desc).map (fun d => d.parameters.length) = some 1 := by decide +kernel
theorem fl_X1_mayLead_1_3 : Cond.fieldLink RX1 29 "MoveTexts$Game" "greatest" "I" ∈ wsX1_mayLead := by decide +kernel
theorem fl_X1_mayLead_1_7 : Cond.fieldLink RX1 45 "MoveTexts$Game" "scratch" "[I" ∈ wsX1_mayLead := by decide +kernel
theorem fl_X1_mayLead_4_0 : Cond.fieldLink RX1 69 "MoveTexts$Node" "parent" "I" ∈ wsX1_mayLead := by decide +kernel
theorem fl_X1_mayLead_4_2 : Cond.fieldLink RX1 60 "MoveTexts$Node" "first" "I" ∈ wsX1_mayLead := by decide +kernel
theorem hw_X1_mayLead_1 : ∀ w ∈ wsX10, w ∈ wsX1_mayLead := by decide +kernel
theorem hw_X1_mayLead_4 : ∀ w ∈ wsX40, w ∈ wsX1_mayLead := by decide +kernel
noncomputable def f_X1_mayLead_89 (self11 : Nat → Int32 → Nat → Int32 → ZS → Option (Int32 × ZS)) (x0 : Nat) (x1 : Int32) (x2 : Nat) (x3 : Int32) (t0 : Int32) (t1 : Int32) (t2 : Int32) (t3 : Nat) (S : ZS) : Option (Int32 × ZS) :=
  m_bnd (t1 + t0) (fun v1 =>
  m_chk (zK S t3 = 14) (
  m_chk (¬ (t2 < 0 ∨ zN S t3 ≤ (t2).toNatClampNeg)) (
  m_bnd (zsA S t3 (t2).toNatClampNeg v1) (fun S2 =>
  m_chk (zK S2 x2 = 14) (
  m_chk (¬ (x3 < 0 ∨ zN S2 x2 ≤ (x3).toNatClampNeg)) (
  m_bnd (zA S2 x2 (x3).toNatClampNeg) (fun v3 =>
  m_if (v3 ≤ (6 : Int32)) (
  m_bnd (x3 + (1 : Int32)) (fun v4 =>
  self11 x0 x1 x2 v4 S2)
  ) (
  m_chk (vp_nar .boolean (0 : Int32) = (0 : Int32)) (some ((0 : Int32), S2))
  ))))))))

set_option maxRecDepth 100000 in
set_option maxHeartbeats 4000000 in
theorem w_X1_mayLead_89 {p : Program} {l : Launch} {e : Env} {s : State} {m : MethodId} {args : Array Value} {below : List Frame} {meth : Method} {c : Code} {Q : State → Prop} {D : va_G} {y : Nat → ClassId} {A0 : Nat → Prop} {o : Int32 × ZS} (X : CallFix p m c cX1_mayLead 6 s args wsX1_mayLead RX1) (hret : zRi p l e ({ frames := 1, cells := 0, slots := 0, locals := 22 } : Room) s m args below meth c Q cX1_mayLead D y A0 .boolean o) {self11 : Nat → Int32 → Nat → Int32 → ZS → Option (Int32 × ZS)} (hself11 : ∀ (x0 : Nat) (x1 : Int32) (x2 : Nat) (x3 : Int32) (S : ZS) (H : Heap) (locs : List Loc) (ls : Array Slot), self11 x0 x1 x2 x3 S = some o → zH D y A0 s H locs S → lv_has ls 6 [(0, .ref (zh y x0)), (1, .int x1), (2, .ref (zh y x2)), (3, .int x3)] → W p l e ({ frames := 1, cells := 0, slots := 0, locals := 22 } : Room) s m args below meth c H locs 0 0 Q (F0 m 11 ls [])) {x0 : Nat} {x1 : Int32} {x2 : Nat} {x3 : Int32} {t0 : Int32} {t1 : Int32} {t2 : Int32} {t3 : Nat} {S : ZS} {H : Heap} {locs : List Loc} {ls : Array Slot} (hf : f_X1_mayLead_89 self11 x0 x1 x2 x3 t0 t1 t2 t3 S = some o) (hM : zH D y A0 s H locs S) (hl : lv_has ls 6 [(0, .ref (zh y x0)), (1, .int x1), (2, .ref (zh y x2)), (3, .int x3)]) : W p l e ({ frames := 1, cells := 0, slots := 0, locals := 22 } : Room) s m args below meth c H locs 0 0 Q (F0 m 89 ls [.int t0, .int t1, .int t2, .ref (zh y t3)]) := by
  obtain ⟨hx, hb, hml, hown, hts⟩ := id X
  unfold f_X1_mayLead_89 at hf
  refine lv_iadd hx hb dX1_mayLead_89 ?_
  obtain ⟨v1, ev, hf⟩ := m_bndE hf
  refine m_top ev ?_
  clear ev
  obtain ⟨ca, hf⟩ := m_chkE hf
  replace ca := z_in hM (by decide) ca
  obtain ⟨cd, hf⟩ := m_chkE hf
  refine z_iast X hM ca cd dX1_mayLead_90 (fun H locs hM => ?_)
  clear ca cd
  obtain ⟨S2, ev, hf⟩ := m_bndE hf
  replace hM := z_hS hM ev
  clear ev
  refine lv_aload_n hx hb dX1_mayLead_91 rfl (lv_at hl 2 rfl) ?_
  refine lv_iload_n hx hb dX1_mayLead_92 rfl (lv_at hl 3 rfl) ?_
  obtain ⟨ca, hf⟩ := m_chkE hf
  replace ca := z_in hM (by decide) ca
  obtain ⟨cd, hf⟩ := m_chkE hf
  refine z_iald X hM ca cd dX1_mayLead_93 ?_
  clear ca cd
  obtain ⟨v3, ev, hf⟩ := m_bndE hf
  refine m_top ev ?_
  clear ev
  refine lv_bipush (v := (6 : Int32)) hx hb dX1_mayLead_94 (by decide) ?_
  refine lv_icmp_le (tgt := 101) hx hb dX1_mayLead_96 (by decide) (fun cc1 => ?_) (fun cc1 => ?_)
  · replace hf := m_ifT hf cc1
    obtain ⟨v4, ev, hf⟩ := m_bndE hf
    refine lv_iinc (v := v4) (lv' := [(3, .int v4), (0, .ref (zh y x0)), (1, .int x1), (2, .ref (zh y x2))]) hx hb dX1_mayLead_101 hl (k := 3) rfl (by rw [ev]; rfl) (by decide) rfl (fun ls hl => ?_)
    clear ev
    refine lv_goto (tgt := 11) hx hb dX1_mayLead_104 (by decide) ?_
    exact hself11 x0 x1 x2 v4 _ _ _ _ hf hM (lv_sub hl [1, 2, 3, 0] rfl)
  · replace hf := m_ifF hf cc1
    refine lv_iconst (v := (0 : Int32)) hx hb dX1_mayLead_99 (by decide) ?_
    obtain ⟨cd, hf⟩ := m_chkE hf
    cases hf
    exact hret H locs _ ls hM (m_nb cd) dX1_mayLead_100
noncomputable def f_X1_mayLead_78 (self11 : Nat → Int32 → Nat → Int32 → ZS → Option (Int32 × ZS)) (x0 : Nat) (x1 : Int32) (x2 : Nat) (x3 : Int32) (x5 : Int32) (t0 : Int32) (t1 : Int32) (t2 : Nat) (S : ZS) : Option (Int32 × ZS) :=
  m_if (x3 = x5) (
  f_X1_mayLead_89 self11 x0 x1 x2 x3 (0 : Int32) t0 t1 t2 S
  ) (
  f_X1_mayLead_89 self11 x0 x1 x2 x3 (1 : Int32) t0 t1 t2 S
  )

set_option maxRecDepth 100000 in
set_option maxHeartbeats 4000000 in
theorem w_X1_mayLead_78 {p : Program} {l : Launch} {e : Env} {s : State} {m : MethodId} {args : Array Value} {below : List Frame} {meth : Method} {c : Code} {Q : State → Prop} {D : va_G} {y : Nat → ClassId} {A0 : Nat → Prop} {o : Int32 × ZS} (X : CallFix p m c cX1_mayLead 6 s args wsX1_mayLead RX1) (hret : zRi p l e ({ frames := 1, cells := 0, slots := 0, locals := 22 } : Room) s m args below meth c Q cX1_mayLead D y A0 .boolean o) {self11 : Nat → Int32 → Nat → Int32 → ZS → Option (Int32 × ZS)} (hself11 : ∀ (x0 : Nat) (x1 : Int32) (x2 : Nat) (x3 : Int32) (S : ZS) (H : Heap) (locs : List Loc) (ls : Array Slot), self11 x0 x1 x2 x3 S = some o → zH D y A0 s H locs S → lv_has ls 6 [(0, .ref (zh y x0)), (1, .int x1), (2, .ref (zh y x2)), (3, .int x3)] → W p l e ({ frames := 1, cells := 0, slots := 0, locals := 22 } : Room) s m args below meth c H locs 0 0 Q (F0 m 11 ls [])) {x0 : Nat} {x1 : Int32} {x2 : Nat} {x3 : Int32} {x5 : Int32} {t0 : Int32} {t1 : Int32} {t2 : Nat} {S : ZS} {H : Heap} {locs : List Loc} {ls : Array Slot} (hf : f_X1_mayLead_78 self11 x0 x1 x2 x3 x5 t0 t1 t2 S = some o) (hM : zH D y A0 s H locs S) (hl : lv_has ls 6 [(0, .ref (zh y x0)), (1, .int x1), (2, .ref (zh y x2)), (3, .int x3), (5, .int x5)]) : W p l e ({ frames := 1, cells := 0, slots := 0, locals := 22 } : Room) s m args below meth c H locs 0 0 Q (F0 m 78 ls [.int t0, .int t1, .ref (zh y t2)]) := by
  obtain ⟨hx, hb, hml, hown, hts⟩ := id X
  unfold f_X1_mayLead_78 at hf
  refine lv_iload_n hx hb dX1_mayLead_78 rfl (lv_at hl 3 rfl) ?_
  refine lv_iload hx hb dX1_mayLead_79 (lv_at hl 4 rfl) ?_
  refine lv_icmp_ne (tgt := 88) hx hb dX1_mayLead_81 (by decide) (fun cc1 => ?_) (fun cc1 => ?_)
  · replace hf := m_ifF hf cc1
    refine lv_iconst (v := (1 : Int32)) hx hb dX1_mayLead_88 (by decide) ?_
    exact w_X1_mayLead_89 (x0 := x0) (x1 := x1) (x2 := x2) (x3 := x3) (t0 := (1 : Int32)) (t1 := t0) (t2 := t1) (t3 := t2) X hret hself11 hf hM (lv_sub hl [0, 1, 2, 3] rfl)
  · replace hf := m_ifT hf cc1
    refine lv_iconst (v := (0 : Int32)) hx hb dX1_mayLead_84 (by decide) ?_
    refine lv_goto (tgt := 89) hx hb dX1_mayLead_85 (by decide) ?_
    exact w_X1_mayLead_89 (x0 := x0) (x1 := x1) (x2 := x2) (x3 := x3) (t0 := (0 : Int32)) (t1 := t0) (t2 := t1) (t3 := t2) X hret hself11 hf hM (lv_sub hl [0, 1, 2, 3] rfl)
noncomputable def f_X1_mayLead_77 (self11 : Nat → Int32 → Nat → Int32 → ZS → Option (Int32 × ZS)) (x0 : Nat) (x1 : Int32) (x2 : Nat) (x3 : Int32) (x5 : Int32) (t0 : Int32) (t1 : Nat) (S : ZS) : Option (Int32 × ZS) :=
  f_X1_mayLead_78 self11 x0 x1 x2 x3 x5 (0 : Int32) t0 t1 S

set_option maxRecDepth 100000 in
set_option maxHeartbeats 4000000 in
theorem w_X1_mayLead_77 {p : Program} {l : Launch} {e : Env} {s : State} {m : MethodId} {args : Array Value} {below : List Frame} {meth : Method} {c : Code} {Q : State → Prop} {D : va_G} {y : Nat → ClassId} {A0 : Nat → Prop} {o : Int32 × ZS} (X : CallFix p m c cX1_mayLead 6 s args wsX1_mayLead RX1) (hret : zRi p l e ({ frames := 1, cells := 0, slots := 0, locals := 22 } : Room) s m args below meth c Q cX1_mayLead D y A0 .boolean o) {self11 : Nat → Int32 → Nat → Int32 → ZS → Option (Int32 × ZS)} (hself11 : ∀ (x0 : Nat) (x1 : Int32) (x2 : Nat) (x3 : Int32) (S : ZS) (H : Heap) (locs : List Loc) (ls : Array Slot), self11 x0 x1 x2 x3 S = some o → zH D y A0 s H locs S → lv_has ls 6 [(0, .ref (zh y x0)), (1, .int x1), (2, .ref (zh y x2)), (3, .int x3)] → W p l e ({ frames := 1, cells := 0, slots := 0, locals := 22 } : Room) s m args below meth c H locs 0 0 Q (F0 m 11 ls [])) {x0 : Nat} {x1 : Int32} {x2 : Nat} {x3 : Int32} {x5 : Int32} {t0 : Int32} {t1 : Nat} {S : ZS} {H : Heap} {locs : List Loc} {ls : Array Slot} (hf : f_X1_mayLead_77 self11 x0 x1 x2 x3 x5 t0 t1 S = some o) (hM : zH D y A0 s H locs S) (hl : lv_has ls 6 [(0, .ref (zh y x0)), (1, .int x1), (2, .ref (zh y x2)), (3, .int x3), (5, .int x5)]) : W p l e ({ frames := 1, cells := 0, slots := 0, locals := 22 } : Room) s m args below meth c H locs 0 0 Q (F0 m 77 ls [.int t0, .ref (zh y t1)]) := by
  obtain ⟨hx, hb, hml, hown, hts⟩ := id X
  unfold f_X1_mayLead_77 at hf
  refine lv_iconst (v := (0 : Int32)) hx hb dX1_mayLead_77 (by decide) ?_
  exact w_X1_mayLead_78 (x0 := x0) (x1 := x1) (x2 := x2) (x3 := x3) (x5 := x5) (t0 := (0 : Int32)) (t1 := t0) (t2 := t1) X hret hself11 hf hM (lv_sub hl [0, 1, 2, 3, 4] rfl)
noncomputable def f_X1_mayLead_55 (self11 : Nat → Int32 → Nat → Int32 → ZS → Option (Int32 × ZS)) (x0 : Nat) (x1 : Int32) (x2 : Nat) (x3 : Int32) (x4 : Int32) (t0 : Int32) (S : ZS) : Option (Int32 × ZS) :=
  m_if (x4 < 0) (
  f_X1_mayLead_77 self11 x0 x1 x2 x3 t0 x3 x2 S
  ) (
  m_if (x3 ≤ x4) (
  f_X1_mayLead_77 self11 x0 x1 x2 x3 t0 x3 x2 S
  ) (
  m_chk (zK S x2 = 14) (
  m_chk (¬ (x4 < 0 ∨ zN S x2 ≤ (x4).toNatClampNeg)) (
  m_bnd (zA S x2 (x4).toNatClampNeg) (fun v1 =>
  f_X1_mayLead_78 self11 x0 x1 x2 x3 t0 v1 x3 x2 S)))
  )
  )

set_option maxRecDepth 100000 in
set_option maxHeartbeats 4000000 in
theorem w_X1_mayLead_55 {p : Program} {l : Launch} {e : Env} {s : State} {m : MethodId} {args : Array Value} {below : List Frame} {meth : Method} {c : Code} {Q : State → Prop} {D : va_G} {y : Nat → ClassId} {A0 : Nat → Prop} {o : Int32 × ZS} (X : CallFix p m c cX1_mayLead 6 s args wsX1_mayLead RX1) (hret : zRi p l e ({ frames := 1, cells := 0, slots := 0, locals := 22 } : Room) s m args below meth c Q cX1_mayLead D y A0 .boolean o) {self11 : Nat → Int32 → Nat → Int32 → ZS → Option (Int32 × ZS)} (hself11 : ∀ (x0 : Nat) (x1 : Int32) (x2 : Nat) (x3 : Int32) (S : ZS) (H : Heap) (locs : List Loc) (ls : Array Slot), self11 x0 x1 x2 x3 S = some o → zH D y A0 s H locs S → lv_has ls 6 [(0, .ref (zh y x0)), (1, .int x1), (2, .ref (zh y x2)), (3, .int x3)] → W p l e ({ frames := 1, cells := 0, slots := 0, locals := 22 } : Room) s m args below meth c H locs 0 0 Q (F0 m 11 ls [])) {x0 : Nat} {x1 : Int32} {x2 : Nat} {x3 : Int32} {x4 : Int32} {t0 : Int32} {S : ZS} {H : Heap} {locs : List Loc} {ls : Array Slot} (hf : f_X1_mayLead_55 self11 x0 x1 x2 x3 x4 t0 S = some o) (hM : zH D y A0 s H locs S) (hl : lv_has ls 6 [(0, .ref (zh y x0)), (1, .int x1), (2, .ref (zh y x2)), (3, .int x3), (4, .int x4)]) : W p l e ({ frames := 1, cells := 0, slots := 0, locals := 22 } : Room) s m args below meth c H locs 0 0 Q (F0 m 55 ls [.int t0]) := by
  obtain ⟨hx, hb, hml, hown, hts⟩ := id X
  unfold f_X1_mayLead_55 at hf
  refine lv_istore (lv' := [(5, .int t0), (0, .ref (zh y x0)), (1, .int x1), (2, .ref (zh y x2)), (3, .int x3), (4, .int x4)]) hx hb dX1_mayLead_55 hl (by decide) rfl (fun ls hl => ?_)
  refine lv_aload_n hx hb dX1_mayLead_57 rfl (lv_at hl 3 rfl) ?_
  refine lv_iload_n hx hb dX1_mayLead_58 rfl (lv_at hl 4 rfl) ?_
  refine lv_iload hx hb dX1_mayLead_59 (lv_at hl 5 rfl) ?_
  refine lv_if_lt (tgt := 77) hx hb dX1_mayLead_61 (by decide) (fun cc1 => ?_) (fun cc1 => ?_)
  · replace hf := m_ifT hf cc1
    exact w_X1_mayLead_77 (x0 := x0) (x1 := x1) (x2 := x2) (x3 := x3) (x5 := t0) (t0 := x3) (t1 := x2) X hret hself11 hf hM (lv_sub hl [1, 2, 3, 4, 0] rfl)
  · replace hf := m_ifF hf cc1
    refine lv_iload hx hb dX1_mayLead_64 (lv_at hl 5 rfl) ?_
    refine lv_iload_n hx hb dX1_mayLead_66 rfl (lv_at hl 4 rfl) ?_
    refine lv_icmp_ge (tgt := 77) hx hb dX1_mayLead_67 (by decide) (fun cc1 => ?_) (fun cc1 => ?_)
    · replace hf := m_ifT hf cc1
      exact w_X1_mayLead_77 (x0 := x0) (x1 := x1) (x2 := x2) (x3 := x3) (x5 := t0) (t0 := x3) (t1 := x2) X hret hself11 hf hM (lv_sub hl [1, 2, 3, 4, 0] rfl)
    · replace hf := m_ifF hf cc1
      refine lv_aload_n hx hb dX1_mayLead_70 rfl (lv_at hl 3 rfl) ?_
      refine lv_iload hx hb dX1_mayLead_71 (lv_at hl 5 rfl) ?_
      obtain ⟨ca, hf⟩ := m_chkE hf
      replace ca := z_in hM (by decide) ca
      obtain ⟨cd, hf⟩ := m_chkE hf
      refine z_iald X hM ca cd dX1_mayLead_73 ?_
      clear ca cd
      obtain ⟨v1, ev, hf⟩ := m_bndE hf
      refine m_top ev ?_
      clear ev
      refine lv_goto (tgt := 78) hx hb dX1_mayLead_74 (by decide) ?_
      exact w_X1_mayLead_78 (x0 := x0) (x1 := x1) (x2 := x2) (x3 := x3) (x5 := t0) (t0 := v1) (t1 := x3) (t2 := x2) X hret hself11 hf hM (lv_sub hl [1, 2, 3, 4, 0] rfl)
noncomputable def f_X1_mayLead_11s (self11 : Nat → Int32 → Nat → Int32 → ZS → Option (Int32 × ZS)) (x0 : Nat) (x1 : Int32) (x2 : Nat) (x3 : Int32) (S : ZS) : Option (Int32 × ZS) :=
  m_chk (zK S x0 = 1) (
  m_if ((zI S 3 x0) < x3) (
  m_chk (vp_nar .boolean (1 : Int32) = (1 : Int32)) (some ((1 : Int32), S))
  ) (
  m_chk (zK S x0 = 1) (
  m_cal (f_X1_at x0 x3 S) (fun o1 =>
  m_chk (zK o1.2 o1.1 = 4) (
  m_chk (zK o1.2 x0 = 1) (
  m_cal (f_X1_at x0 x1 o1.2) (fun o2 =>
  m_chk (zK o2.2 o2.1 = 4) (
  m_if ((zI o1.2 0 o1.1) = (zI o2.2 0 o2.1)) (
  f_X1_mayLead_55 self11 x0 x1 x2 x3 (zI o1.2 0 o1.1) x1 o2.2
  ) (
  m_chk (zK o2.2 x0 = 1) (
  m_cal (f_X1_at x0 (zI o1.2 0 o1.1) o2.2) (fun o3 =>
  m_chk (zK o3.2 o3.1 = 4) (
  f_X1_mayLead_55 self11 x0 x1 x2 x3 (zI o1.2 0 o1.1) (zI o3.2 2 o3.1) o3.2)))
  )))))))
  ))

set_option maxRecDepth 100000 in
set_option maxHeartbeats 4000000 in
theorem ws_X1_mayLead_11 {p : Program} {l : Launch} {e : Env} {s : State} {m : MethodId} {args : Array Value} {below : List Frame} {meth : Method} {c : Code} {Q : State → Prop} {D : va_G} {y : Nat → ClassId} {A0 : Nat → Prop} {o : Int32 × ZS} (X : CallFix p m c cX1_mayLead 6 s args wsX1_mayLead RX1) (hret : zRi p l e ({ frames := 1, cells := 0, slots := 0, locals := 22 } : Room) s m args below meth c Q cX1_mayLead D y A0 .boolean o) {self11 : Nat → Int32 → Nat → Int32 → ZS → Option (Int32 × ZS)} (hself11 : ∀ (x0 : Nat) (x1 : Int32) (x2 : Nat) (x3 : Int32) (S : ZS) (H : Heap) (locs : List Loc) (ls : Array Slot), self11 x0 x1 x2 x3 S = some o → zH D y A0 s H locs S → lv_has ls 6 [(0, .ref (zh y x0)), (1, .int x1), (2, .ref (zh y x2)), (3, .int x3)] → W p l e ({ frames := 1, cells := 0, slots := 0, locals := 22 } : Room) s m args below meth c H locs 0 0 Q (F0 m 11 ls [])) {x0 : Nat} {x1 : Int32} {x2 : Nat} {x3 : Int32} {S : ZS} {H : Heap} {locs : List Loc} {ls : Array Slot} (hf : f_X1_mayLead_11s self11 x0 x1 x2 x3 S = some o) (hM : zH D y A0 s H locs S) (hl : lv_has ls 6 [(0, .ref (zh y x0)), (1, .int x1), (2, .ref (zh y x2)), (3, .int x3)]) : W p l e ({ frames := 1, cells := 0, slots := 0, locals := 22 } : Room) s m args below meth c H locs 0 0 Q (F0 m 11 ls []) := by
  obtain ⟨hx, hb, hml, hown, hts⟩ := id X
  unfold f_X1_mayLead_11s at hf
  refine lv_iload_n hx hb dX1_mayLead_11 rfl (lv_at hl 3 rfl) ?_
  refine lv_aload_n hx hb dX1_mayLead_12 rfl (lv_at hl 0 rfl) ?_
  obtain ⟨ca, hf⟩ := m_chkE hf
  replace ca := z_in hM (by decide) ca
  refine z_get (k := 1) (j := 3) (C := RX1) (T := TX1) (N := 8) (fl := zf_1) (v := .int (zI S 3 x0)) X hw_X1_mayLead_1 hM rfl zc_1 ca (by decide) fl_X1_mayLead_1_3 rfl dX1_mayLead_13 ?_
  clear ca
  refine lv_icmp_gt (tgt := 107) hx hb dX1_mayLead_16 (by decide) (fun cc1 => ?_) (fun cc1 => ?_)
  · replace hf := m_ifT hf cc1
    refine lv_iconst (v := (1 : Int32)) hx hb dX1_mayLead_107 (by decide) ?_
    obtain ⟨cd, hf⟩ := m_chkE hf
    cases hf
    exact hret H locs _ ls hM (m_nb cd) dX1_mayLead_108
  · replace hf := m_ifF hf cc1
    refine lv_aload_n hx hb dX1_mayLead_19 rfl (lv_at hl 0 rfl) ?_
    refine lv_iload_n hx hb dX1_mayLead_20 rfl (lv_at hl 3 rfl) ?_
    obtain ⟨ca, hf⟩ := m_chkE hf
    replace ca := z_in hM (by decide) ca
    obtain ⟨o1, ho, hf⟩ := m_calE hf
    refine z_callVr (k := 1) (C := RX1) (T := TX1) (N := 8) (fl := zf_1) X hM rfl zc_1 ca (c_X1_at ho) gX1_mayLead_X1_at rfl ⟨rfl, rfl⟩ hd_X1_at ⟨Nat.le_of_ble_eq_true rfl, Nat.le_of_ble_eq_true rfl⟩ rfl hl.1 rfl (Nat.le_of_ble_eq_true rfl) dX1_mayLead_21 (fun H locs hM => ?_)
    clear ho
    obtain ⟨ca, hf⟩ := m_chkE hf
    replace ca := z_in hM (by decide) ca
    refine z_get (k := 4) (j := 0) (C := RX4) (T := TX4) (N := 7) (fl := zf_4) (v := .int (zI o1.2 0 o1.1)) X hw_X1_mayLead_4 hM rfl zc_4 ca (by decide) fl_X1_mayLead_4_0 rfl dX1_mayLead_24 ?_
    clear ca
    refine lv_istore (lv' := [(4, .int (zI o1.2 0 o1.1)), (0, .ref (zh y x0)), (1, .int x1), (2, .ref (zh y x2)), (3, .int x3)]) hx hb dX1_mayLead_27 hl (by decide) rfl (fun ls hl => ?_)
    refine lv_iload hx hb dX1_mayLead_29 (lv_at hl 0 rfl) ?_
    refine lv_aload_n hx hb dX1_mayLead_31 rfl (lv_at hl 1 rfl) ?_
    refine lv_iload_n hx hb dX1_mayLead_32 rfl (lv_at hl 2 rfl) ?_
    obtain ⟨ca, hf⟩ := m_chkE hf
    replace ca := z_in hM (by decide) ca
    obtain ⟨o2, ho, hf⟩ := m_calE hf
    refine z_callVr (k := 1) (C := RX1) (T := TX1) (N := 8) (fl := zf_1) X hM rfl zc_1 ca (c_X1_at ho) gX1_mayLead_X1_at rfl ⟨rfl, rfl⟩ hd_X1_at ⟨Nat.le_of_ble_eq_true rfl, Nat.le_of_ble_eq_true rfl⟩ rfl hl.1 rfl (Nat.le_of_ble_eq_true rfl) dX1_mayLead_33 (fun H locs hM => ?_)
    clear ho
    obtain ⟨ca, hf⟩ := m_chkE hf
    replace ca := z_in hM (by decide) ca
    refine z_get (k := 4) (j := 0) (C := RX4) (T := TX4) (N := 7) (fl := zf_4) (v := .int (zI o2.2 0 o2.1)) X hw_X1_mayLead_4 hM rfl zc_4 ca (by decide) fl_X1_mayLead_4_0 rfl dX1_mayLead_36 ?_
    clear ca
    refine lv_icmp_ne (tgt := 46) hx hb dX1_mayLead_39 (by decide) (fun cc1 => ?_) (fun cc1 => ?_)
    · replace hf := m_ifF hf cc1
      refine lv_aload_n hx hb dX1_mayLead_46 rfl (lv_at hl 1 rfl) ?_
      refine lv_iload hx hb dX1_mayLead_47 (lv_at hl 0 rfl) ?_
      obtain ⟨ca, hf⟩ := m_chkE hf
      replace ca := z_in hM (by decide) ca
      obtain ⟨o3, ho, hf⟩ := m_calE hf
      refine z_callVr (k := 1) (C := RX1) (T := TX1) (N := 8) (fl := zf_1) X hM rfl zc_1 ca (c_X1_at ho) gX1_mayLead_X1_at rfl ⟨rfl, rfl⟩ hd_X1_at ⟨Nat.le_of_ble_eq_true rfl, Nat.le_of_ble_eq_true rfl⟩ rfl hl.1 rfl (Nat.le_of_ble_eq_true rfl) dX1_mayLead_49 (fun H locs hM => ?_)
      clear ho
      obtain ⟨ca, hf⟩ := m_chkE hf
      replace ca := z_in hM (by decide) ca
      refine z_get (k := 4) (j := 2) (C := RX4) (T := TX4) (N := 7) (fl := zf_4) (v := .int (zI o3.2 2 o3.1)) X hw_X1_mayLead_4 hM rfl zc_4 ca (by decide) fl_X1_mayLead_4_2 rfl dX1_mayLead_52 ?_
      clear ca
      exact w_X1_mayLead_55 (x0 := x0) (x1 := x1) (x2 := x2) (x3 := x3) (x4 := (zI o1.2 0 o1.1)) (t0 := (zI o3.2 2 o3.1)) X hret hself11 hf hM (lv_sub hl [1, 2, 3, 4, 0] rfl)
    · replace hf := m_ifT hf cc1
      refine lv_iload_n hx hb dX1_mayLead_42 rfl (lv_at hl 2 rfl) ?_
      refine lv_goto (tgt := 55) hx hb dX1_mayLead_43 (by decide) ?_
      exact w_X1_mayLead_55 (x0 := x0) (x1 := x1) (x2 := x2) (x3 := x3) (x4 := (zI o1.2 0 o1.1)) (t0 := x1) X hret hself11 hf hM (lv_sub hl [1, 2, 3, 4, 0] rfl)
noncomputable def f_X1_mayLead_11 : Nat → Nat → Int32 → Nat → Int32 → ZS → Option (Int32 × ZS)
  | 0 => fun _ _ _ _ _ => none
  | n + 1 => f_X1_mayLead_11s (f_X1_mayLead_11 n)
theorem w_X1_mayLead_11 {p : Program} {l : Launch} {e : Env} {s : State} {m : MethodId} {args : Array Value} {below : List Frame} {meth : Method} {c : Code} {Q : State → Prop} {D : va_G} {y : Nat → ClassId} {A0 : Nat → Prop} {o : Int32 × ZS} (X : CallFix p m c cX1_mayLead 6 s args wsX1_mayLead RX1) (hret : zRi p l e ({ frames := 1, cells := 0, slots := 0, locals := 22 } : Room) s m args below meth c Q cX1_mayLead D y A0 .boolean o) (n : Nat) : ∀ (x0 : Nat) (x1 : Int32) (x2 : Nat) (x3 : Int32) (S : ZS) (H : Heap) (locs : List Loc) (ls : Array Slot), f_X1_mayLead_11 n x0 x1 x2 x3 S = some o → zH D y A0 s H locs S → lv_has ls 6 [(0, .ref (zh y x0)), (1, .int x1), (2, .ref (zh y x2)), (3, .int x3)] → W p l e ({ frames := 1, cells := 0, slots := 0, locals := 22 } : Room) s m args below meth c H locs 0 0 Q (F0 m 11 ls []) := by
  induction n with
  | zero => intro x0 x1 x2 x3 S H locs ls hf; cases hf
  | succ n ih => intro x0 x1 x2 x3 S H locs ls hf hM hl; exact ws_X1_mayLead_11 X hret (self11 := f_X1_mayLead_11 n) ih hf hM hl
noncomputable def f_X1_mayLead_0 (x0 : Nat) (x1 : Int32) (S : ZS) : Option (Int32 × ZS) :=
  m_chk (zK S x0 = 1) (
  m_cal (zP S 7 x0) (fun b1 =>
  m_chk (zK S b1 = 14) (
  m_chk (¬ ((0 : Int32) < 0 ∨ zN S b1 ≤ ((0 : Int32)).toNatClampNeg)) (
  m_bnd (zsA S b1 ((0 : Int32)).toNatClampNeg (0 : Int32)) (fun S2 =>
  f_X1_mayLead_11 mFuel x0 x1 b1 (1 : Int32) S2)))))

set_option maxRecDepth 100000 in
set_option maxHeartbeats 4000000 in
theorem w_X1_mayLead_0 {p : Program} {l : Launch} {e : Env} {s : State} {m : MethodId} {args : Array Value} {below : List Frame} {meth : Method} {c : Code} {Q : State → Prop} {D : va_G} {y : Nat → ClassId} {A0 : Nat → Prop} {o : Int32 × ZS} (X : CallFix p m c cX1_mayLead 6 s args wsX1_mayLead RX1) (hret : zRi p l e ({ frames := 1, cells := 0, slots := 0, locals := 22 } : Room) s m args below meth c Q cX1_mayLead D y A0 .boolean o) {x0 : Nat} {x1 : Int32} {S : ZS} {H : Heap} {locs : List Loc} {ls : Array Slot} (hf : f_X1_mayLead_0 x0 x1 S = some o) (hM : zH D y A0 s H locs S) (hl : lv_has ls 6 [(0, .ref (zh y x0)), (1, .int x1)]) : W p l e ({ frames := 1, cells := 0, slots := 0, locals := 22 } : Room) s m args below meth c H locs 0 0 Q (F0 m 0 ls []) := by
  obtain ⟨hx, hb, hml, hown, hts⟩ := id X
  unfold f_X1_mayLead_0 at hf
  refine lv_aload_n hx hb dX1_mayLead_0 rfl (lv_at hl 0 rfl) ?_
  obtain ⟨ca, hf⟩ := m_chkE hf
  replace ca := z_in hM (by decide) ca
  refine z_get (k := 1) (j := 7) (C := RX1) (T := TX1) (N := 8) (fl := zf_1) (v := va_rf ((zP S 7 x0).map (zh y))) X hw_X1_mayLead_1 hM rfl zc_1 ca (by decide) fl_X1_mayLead_1_7 rfl dX1_mayLead_1 ?_
  clear ca
  obtain ⟨b1, hb9, hf⟩ := m_calE hf
  refine z_topr hb9 ?_
  clear hb9
  refine lv_astore_n (lv' := [(2, .ref (zh y b1)), (0, .ref (zh y x0)), (1, .int x1)]) hx hb dX1_mayLead_4 rfl hl (by decide) rfl (fun ls hl => ?_)
  refine lv_aload_n hx hb dX1_mayLead_5 rfl (lv_at hl 0 rfl) ?_
  refine lv_iconst (v := (0 : Int32)) hx hb dX1_mayLead_6 (by decide) ?_
  refine lv_iconst (v := (0 : Int32)) hx hb dX1_mayLead_7 (by decide) ?_
  obtain ⟨ca, hf⟩ := m_chkE hf
  replace ca := z_in hM (by decide) ca
  obtain ⟨cd, hf⟩ := m_chkE hf
  refine z_iast X hM ca cd dX1_mayLead_8 (fun H locs hM => ?_)
  clear ca cd
  obtain ⟨S2, ev, hf⟩ := m_bndE hf
  replace hM := z_hS hM ev
  clear ev
  refine lv_iconst (v := (1 : Int32)) hx hb dX1_mayLead_9 (by decide) ?_
  refine lv_istore_n (lv' := [(3, .int (1 : Int32)), (2, .ref (zh y b1)), (0, .ref (zh y x0)), (1, .int x1)]) hx hb dX1_mayLead_10 rfl hl (by decide) rfl (fun ls hl => ?_)
  exact w_X1_mayLead_11 X hret _ x0 x1 b1 (1 : Int32) _ _ _ _ hf hM (lv_sub hl [2, 3, 1, 0] rfl)
noncomputable def f_X1_mayLead (x0 : Nat) (x1 : Int32) (S : ZS) : Option (Int32 × ZS) := f_X1_mayLead_0 x0 x1 S
theorem c_X1_mayLead {l : Launch} {D : va_G} {y : Nat → ClassId} {x0 : Nat} {x1 : Int32} {S : ZS} {o : Int32 × ZS} (hf : f_X1_mayLead x0 x1 S = some o) : zMi l yX1_mayLead wsX1_mayLead ({ frames := 1, cells := 0, slots := 0, locals := 22 } : Room) [.ref (zh y x0), .int x1] D y S o :=
  z_entryI (own := RX1) (cc := cX1_mayLead) (maxL := 6) (by decide) rfl rfl (Nat.le_of_ble_eq_true rfl) (fun p e s m args below meth c A0 Q H locs ls X hret hM hl => w_X1_mayLead_0 X hret hf hM (lv_sub hl [0, 1] rfl))
theorem hd_X1_putFirst : yX1_putFirst.cls = RX1 ∧ yX1_putFirst.cls ≠ "java/lang/invoke/MethodHandle" ∧ yX1_putFirst.cls ≠ "java/lang/invoke/VarHandle" ∧ (parseMethodDescriptor yX1_putFirst.desc).map (fun d => d.parameters.length) = some 1 := by decide +kernel
theorem fl_X1_putFirst_4_0 : Cond.fieldLink RX1 69 "MoveTexts$Node" "parent" "I" ∈ wsX1_putFirst := by decide +kernel
theorem fl_X1_putFirst_4_2 : Cond.fieldLink RX1 60 "MoveTexts$Node" "first" "I" ∈ wsX1_putFirst := by decide +kernel
theorem fl_X1_putFirst_4_3 : Cond.fieldLink RX1 66 "MoveTexts$Node" "next" "I" ∈ wsX1_putFirst := by decide +kernel
theorem hw_X1_putFirst_4 : ∀ w ∈ wsX40, w ∈ wsX1_putFirst := by decide +kernel
noncomputable def f_X1_putFirst_56 (x0 : Nat) (x1 : Int32) (x2 : Nat) (x3 : Int32) (S : ZS) : Option (Int32 × ZS) :=
  m_chk (zK S x0 = 1) (
  m_cal (f_X1_at x0 x3 S) (fun o1 =>
  m_chk (zK o1.2 x0 = 1) (
  m_cal (f_X1_at x0 x1 o1.2) (fun o2 =>
  m_chk (zK o2.2 o2.1 = 4) (
  m_chk (zK o2.2 o1.1 = 4) (
  m_bnd (zsI o2.2 3 o1.1 (zI o2.2 3 o2.1)) (fun S3 =>
  m_chk (zK S3 x0 = 1) (
  m_cal (f_X1_at x0 x1 S3) (fun o4 =>
  m_chk (zK o4.2 x2 = 4) (
  m_chk (zK o4.2 o4.1 = 4) (
  m_bnd (zsI o4.2 3 o4.1 (zI o4.2 2 x2)) (fun S5 =>
  m_chk (zK S5 x2 = 4) (
  m_bnd (zsI S5 2 x2 x1) (fun S6 =>
  some (0, S6)))))))))))))))

set_option maxRecDepth 100000 in
set_option maxHeartbeats 4000000 in
theorem w_X1_putFirst_56 {p : Program} {l : Launch} {e : Env} {s : State} {m : MethodId} {args : Array Value} {below : List Frame} {meth : Method} {c : Code} {Q : State → Prop} {D : va_G} {y : Nat → ClassId} {A0 : Nat → Prop} {o : Int32 × ZS} (X : CallFix p m c cX1_putFirst 5 s args wsX1_putFirst RX1) (hret : zRv p l e ({ frames := 1, cells := 0, slots := 0, locals := 22 } : Room) s m args below meth c Q cX1_putFirst D y A0 o) {x0 : Nat} {x1 : Int32} {x2 : Nat} {x3 : Int32} {S : ZS} {H : Heap} {locs : List Loc} {ls : Array Slot} (hf : f_X1_putFirst_56 x0 x1 x2 x3 S = some o) (hM : zH D y A0 s H locs S) (hl : lv_has ls 5 [(0, .ref (zh y x0)), (1, .int x1), (2, .ref (zh y x2)), (3, .int x3)]) : W p l e ({ frames := 1, cells := 0, slots := 0, locals := 22 } : Room) s m args below meth c H locs 0 0 Q (F0 m 56 ls []) := by
  obtain ⟨hx, hb, hml, hown, hts⟩ := id X
  unfold f_X1_putFirst_56 at hf
  refine lv_aload_n hx hb dX1_putFirst_56 rfl (lv_at hl 0 rfl) ?_
  refine lv_iload_n hx hb dX1_putFirst_57 rfl (lv_at hl 3 rfl) ?_
  obtain ⟨ca, hf⟩ := m_chkE hf
  replace ca := z_in hM (by decide) ca
  obtain ⟨o1, ho, hf⟩ := m_calE hf
  refine z_callVr (k := 1) (C := RX1) (T := TX1) (N := 8) (fl := zf_1) X hM rfl zc_1 ca (c_X1_at ho) gX1_putFirst_X1_at rfl ⟨rfl, rfl⟩ hd_X1_at ⟨Nat.le_of_ble_eq_true rfl, Nat.le_of_ble_eq_true rfl⟩ rfl hl.1 rfl (Nat.le_of_ble_eq_true rfl) dX1_putFirst_58 (fun H locs hM => ?_)
  clear ho
  refine lv_aload_n hx hb dX1_putFirst_61 rfl (lv_at hl 0 rfl) ?_
  refine lv_iload_n hx hb dX1_putFirst_62 rfl (lv_at hl 1 rfl) ?_
  obtain ⟨ca, hf⟩ := m_chkE hf
  replace ca := z_in hM (by decide) ca
  obtain ⟨o2, ho, hf⟩ := m_calE hf
  refine z_callVr (k := 1) (C := RX1) (T := TX1) (N := 8) (fl := zf_1) X hM rfl zc_1 ca (c_X1_at ho) gX1_putFirst_X1_at rfl ⟨rfl, rfl⟩ hd_X1_at ⟨Nat.le_of_ble_eq_true rfl, Nat.le_of_ble_eq_true rfl⟩ rfl hl.1 rfl (Nat.le_of_ble_eq_true rfl) dX1_putFirst_63 (fun H locs hM => ?_)
  clear ho
  obtain ⟨ca, hf⟩ := m_chkE hf
  replace ca := z_in hM (by decide) ca
  refine z_get (k := 4) (j := 3) (C := RX4) (T := TX4) (N := 7) (fl := zf_4) (v := .int (zI o2.2 3 o2.1)) X hw_X1_putFirst_4 hM rfl zc_4 ca (by decide) fl_X1_putFirst_4_3 rfl dX1_putFirst_66 ?_
  clear ca
  obtain ⟨ca, hf⟩ := m_chkE hf
  replace ca := z_in hM (by decide) ca
  refine z_putI (k := 4) (j := 3) (C := RX4) (T := TX4) (N := 7) (fl := zf_4) (ty := .int) X hw_X1_putFirst_4 tyX4_ok nmX4 hM rfl zc_4 ca (by decide) fl_X1_putFirst_4_3 rfl (tyX4_ok 3 (by decide)) rfl rfl zi_4_3 (Nat.le_of_ble_eq_true rfl) dX1_putFirst_69 (fun H locs hM => ?_)
  clear ca
  obtain ⟨S3, ev, hf⟩ := m_bndE hf
  replace hM := z_hS hM ev
  clear ev
  refine lv_aload_n hx hb dX1_putFirst_72 rfl (lv_at hl 0 rfl) ?_
  refine lv_iload_n hx hb dX1_putFirst_73 rfl (lv_at hl 1 rfl) ?_
  obtain ⟨ca, hf⟩ := m_chkE hf
  replace ca := z_in hM (by decide) ca
  obtain ⟨o4, ho, hf⟩ := m_calE hf
  refine z_callVr (k := 1) (C := RX1) (T := TX1) (N := 8) (fl := zf_1) X hM rfl zc_1 ca (c_X1_at ho) gX1_putFirst_X1_at rfl ⟨rfl, rfl⟩ hd_X1_at ⟨Nat.le_of_ble_eq_true rfl, Nat.le_of_ble_eq_true rfl⟩ rfl hl.1 rfl (Nat.le_of_ble_eq_true rfl) dX1_putFirst_74 (fun H locs hM => ?_)
  clear ho
  refine lv_aload_n hx hb dX1_putFirst_77 rfl (lv_at hl 2 rfl) ?_
  obtain ⟨ca, hf⟩ := m_chkE hf
  replace ca := z_in hM (by decide) ca
  refine z_get (k := 4) (j := 2) (C := RX4) (T := TX4) (N := 7) (fl := zf_4) (v := .int (zI o4.2 2 x2)) X hw_X1_putFirst_4 hM rfl zc_4 ca (by decide) fl_X1_putFirst_4_2 rfl dX1_putFirst_78 ?_
  clear ca
  obtain ⟨ca, hf⟩ := m_chkE hf
  replace ca := z_in hM (by decide) ca
  refine z_putI (k := 4) (j := 3) (C := RX4) (T := TX4) (N := 7) (fl := zf_4) (ty := .int) X hw_X1_putFirst_4 tyX4_ok nmX4 hM rfl zc_4 ca (by decide) fl_X1_putFirst_4_3 rfl (tyX4_ok 3 (by decide)) rfl rfl zi_4_3 (Nat.le_of_ble_eq_true rfl) dX1_putFirst_81 (fun H locs hM => ?_)
  clear ca
  obtain ⟨S5, ev, hf⟩ := m_bndE hf
  replace hM := z_hS hM ev
  clear ev
  refine lv_aload_n hx hb dX1_putFirst_84 rfl (lv_at hl 2 rfl) ?_
  refine lv_iload_n hx hb dX1_putFirst_85 rfl (lv_at hl 1 rfl) ?_
  obtain ⟨ca, hf⟩ := m_chkE hf
  replace ca := z_in hM (by decide) ca
  refine z_putI (k := 4) (j := 2) (C := RX4) (T := TX4) (N := 7) (fl := zf_4) (ty := .int) X hw_X1_putFirst_4 tyX4_ok nmX4 hM rfl zc_4 ca (by decide) fl_X1_putFirst_4_2 rfl (tyX4_ok 2 (by decide)) rfl rfl zi_4_2 (Nat.le_of_ble_eq_true rfl) dX1_putFirst_86 (fun H locs hM => ?_)
  clear ca
  obtain ⟨S6, ev, hf⟩ := m_bndE hf
  replace hM := z_hS hM ev
  clear ev
  cases hf
  exact hret H locs _ ls hM dX1_putFirst_89
noncomputable def f_X1_putFirst_21s (self21 : Nat → Int32 → Nat → Int32 → Int32 → ZS → Option (Int32 × ZS)) (x0 : Nat) (x1 : Int32) (x2 : Nat) (x3 : Int32) (x4 : Int32) (S : ZS) : Option (Int32 × ZS) :=
  m_if ((300 : Int32) ≤ x4) (
  f_X1_putFirst_56 x0 x1 x2 x3 S
  ) (
  m_chk (zK S x0 = 1) (
  m_cal (f_X1_at x0 x3 S) (fun o1 =>
  m_chk (zK o1.2 o1.1 = 4) (
  m_if ((zI o1.2 3 o1.1) = x1) (
  f_X1_putFirst_56 x0 x1 x2 x3 o1.2
  ) (
  m_chk (zK o1.2 x0 = 1) (
  m_cal (f_X1_at x0 x3 o1.2) (fun o2 =>
  m_chk (zK o2.2 o2.1 = 4) (
  m_bnd (x4 + (1 : Int32)) (fun v3 =>
  self21 x0 x1 x2 (zI o2.2 3 o2.1) v3 o2.2))))
  ))))
  )

set_option maxRecDepth 100000 in
set_option maxHeartbeats 4000000 in
theorem ws_X1_putFirst_21 {p : Program} {l : Launch} {e : Env} {s : State} {m : MethodId} {args : Array Value} {below : List Frame} {meth : Method} {c : Code} {Q : State → Prop} {D : va_G} {y : Nat → ClassId} {A0 : Nat → Prop} {o : Int32 × ZS} (X : CallFix p m c cX1_putFirst 5 s args wsX1_putFirst RX1) (hret : zRv p l e ({ frames := 1, cells := 0, slots := 0, locals := 22 } : Room) s m args below meth c Q cX1_putFirst D y A0 o) {self21 : Nat → Int32 → Nat → Int32 → Int32 → ZS → Option (Int32 × ZS)} (hself21 : ∀ (x0 : Nat) (x1 : Int32) (x2 : Nat) (x3 : Int32) (x4 : Int32) (S : ZS) (H : Heap) (locs : List Loc) (ls : Array Slot), self21 x0 x1 x2 x3 x4 S = some o → zH D y A0 s H locs S → lv_has ls 5 [(0, .ref (zh y x0)), (1, .int x1), (2, .ref (zh y x2)), (3, .int x3), (4, .int x4)] → W p l e ({ frames := 1, cells := 0, slots := 0, locals := 22 } : Room) s m args below meth c H locs 0 0 Q (F0 m 21 ls [])) {x0 : Nat} {x1 : Int32} {x2 : Nat} {x3 : Int32} {x4 : Int32} {S : ZS} {H : Heap} {locs : List Loc} {ls : Array Slot} (hf : f_X1_putFirst_21s self21 x0 x1 x2 x3 x4 S = some o) (hM : zH D y A0 s H locs S) (hl : lv_has ls 5 [(0, .ref (zh y x0)), (1, .int x1), (2, .ref (zh y x2)), (3, .int x3), (4, .int x4)]) : W p l e ({ frames := 1, cells := 0, slots := 0, locals := 22 } : Room) s m args below meth c H locs 0 0 Q (F0 m 21 ls []) := by
  obtain ⟨hx, hb, hml, hown, hts⟩ := id X
  unfold f_X1_putFirst_21s at hf
  refine lv_iload hx hb dX1_putFirst_21 (lv_at hl 4 rfl) ?_
  refine lv_sipush (v := (300 : Int32)) hx hb dX1_putFirst_23 (by decide) ?_
  refine lv_icmp_ge (tgt := 56) hx hb dX1_putFirst_26 (by decide) (fun cc1 => ?_) (fun cc1 => ?_)
  · replace hf := m_ifT hf cc1
    exact w_X1_putFirst_56 (x0 := x0) (x1 := x1) (x2 := x2) (x3 := x3) X hret hf hM (lv_sub hl [0, 1, 2, 3] rfl)
  · replace hf := m_ifF hf cc1
    refine lv_aload_n hx hb dX1_putFirst_29 rfl (lv_at hl 0 rfl) ?_
    refine lv_iload_n hx hb dX1_putFirst_30 rfl (lv_at hl 3 rfl) ?_
    obtain ⟨ca, hf⟩ := m_chkE hf
    replace ca := z_in hM (by decide) ca
    obtain ⟨o1, ho, hf⟩ := m_calE hf
    refine z_callVr (k := 1) (C := RX1) (T := TX1) (N := 8) (fl := zf_1) X hM rfl zc_1 ca (c_X1_at ho) gX1_putFirst_X1_at rfl ⟨rfl, rfl⟩ hd_X1_at ⟨Nat.le_of_ble_eq_true rfl, Nat.le_of_ble_eq_true rfl⟩ rfl hl.1 rfl (Nat.le_of_ble_eq_true rfl) dX1_putFirst_31 (fun H locs hM => ?_)
    clear ho
    obtain ⟨ca, hf⟩ := m_chkE hf
    replace ca := z_in hM (by decide) ca
    refine z_get (k := 4) (j := 3) (C := RX4) (T := TX4) (N := 7) (fl := zf_4) (v := .int (zI o1.2 3 o1.1)) X hw_X1_putFirst_4 hM rfl zc_4 ca (by decide) fl_X1_putFirst_4_3 rfl dX1_putFirst_34 ?_
    clear ca
    refine lv_iload_n hx hb dX1_putFirst_37 rfl (lv_at hl 1 rfl) ?_
    refine lv_icmp_eq (tgt := 56) hx hb dX1_putFirst_38 (by decide) (fun cc1 => ?_) (fun cc1 => ?_)
    · replace hf := m_ifT hf cc1
      exact w_X1_putFirst_56 (x0 := x0) (x1 := x1) (x2 := x2) (x3 := x3) X hret hf hM (lv_sub hl [0, 1, 2, 3] rfl)
    · replace hf := m_ifF hf cc1
      refine lv_aload_n hx hb dX1_putFirst_41 rfl (lv_at hl 0 rfl) ?_
      refine lv_iload_n hx hb dX1_putFirst_42 rfl (lv_at hl 3 rfl) ?_
      obtain ⟨ca, hf⟩ := m_chkE hf
      replace ca := z_in hM (by decide) ca
      obtain ⟨o2, ho, hf⟩ := m_calE hf
      refine z_callVr (k := 1) (C := RX1) (T := TX1) (N := 8) (fl := zf_1) X hM rfl zc_1 ca (c_X1_at ho) gX1_putFirst_X1_at rfl ⟨rfl, rfl⟩ hd_X1_at ⟨Nat.le_of_ble_eq_true rfl, Nat.le_of_ble_eq_true rfl⟩ rfl hl.1 rfl (Nat.le_of_ble_eq_true rfl) dX1_putFirst_43 (fun H locs hM => ?_)
      clear ho
      obtain ⟨ca, hf⟩ := m_chkE hf
      replace ca := z_in hM (by decide) ca
      refine z_get (k := 4) (j := 3) (C := RX4) (T := TX4) (N := 7) (fl := zf_4) (v := .int (zI o2.2 3 o2.1)) X hw_X1_putFirst_4 hM rfl zc_4 ca (by decide) fl_X1_putFirst_4_3 rfl dX1_putFirst_46 ?_
      clear ca
      refine lv_istore_n (lv' := [(3, .int (zI o2.2 3 o2.1)), (0, .ref (zh y x0)), (1, .int x1), (2, .ref (zh y x2)), (4, .int x4)]) hx hb dX1_putFirst_49 rfl hl (by decide) rfl (fun ls hl => ?_)
      obtain ⟨v3, ev, hf⟩ := m_bndE hf
      refine lv_iinc (v := v3) (lv' := [(4, .int v3), (3, .int (zI o2.2 3 o2.1)), (0, .ref (zh y x0)), (1, .int x1), (2, .ref (zh y x2))]) hx hb dX1_putFirst_50 hl (k := 4) rfl (by rw [ev]; rfl) (by decide) rfl (fun ls hl => ?_)
      clear ev
      refine lv_goto (tgt := 21) hx hb dX1_putFirst_53 (by decide) ?_
      exact hself21 x0 x1 x2 (zI o2.2 3 o2.1) v3 _ _ _ _ hf hM (lv_sub hl [2, 3, 4, 1, 0] rfl)
noncomputable def f_X1_putFirst_21 : Nat → Nat → Int32 → Nat → Int32 → Int32 → ZS → Option (Int32 × ZS)
  | 0 => fun _ _ _ _ _ _ => none
  | n + 1 => f_X1_putFirst_21s (f_X1_putFirst_21 n)
theorem w_X1_putFirst_21 {p : Program} {l : Launch} {e : Env} {s : State} {m : MethodId} {args : Array Value} {below : List Frame} {meth : Method} {c : Code} {Q : State → Prop} {D : va_G} {y : Nat → ClassId} {A0 : Nat → Prop} {o : Int32 × ZS} (X : CallFix p m c cX1_putFirst 5 s args wsX1_putFirst RX1) (hret : zRv p l e ({ frames := 1, cells := 0, slots := 0, locals := 22 } : Room) s m args below meth c Q cX1_putFirst D y A0 o) (n : Nat) : ∀ (x0 : Nat) (x1 : Int32) (x2 : Nat) (x3 : Int32) (x4 : Int32) (S : ZS) (H : Heap) (locs : List Loc) (ls : Array Slot), f_X1_putFirst_21 n x0 x1 x2 x3 x4 S = some o → zH D y A0 s H locs S → lv_has ls 5 [(0, .ref (zh y x0)), (1, .int x1), (2, .ref (zh y x2)), (3, .int x3), (4, .int x4)] → W p l e ({ frames := 1, cells := 0, slots := 0, locals := 22 } : Room) s m args below meth c H locs 0 0 Q (F0 m 21 ls []) := by
  induction n with
  | zero => intro x0 x1 x2 x3 x4 S H locs ls hf; cases hf
  | succ n ih => intro x0 x1 x2 x3 x4 S H locs ls hf hM hl; exact ws_X1_putFirst_21 X hret (self21 := f_X1_putFirst_21 n) ih hf hM hl
noncomputable def f_X1_putFirst_0 (x0 : Nat) (x1 : Int32) (S : ZS) : Option (Int32 × ZS) :=
  m_chk (zK S x0 = 1) (
  m_cal (f_X1_at x0 x1 S) (fun o1 =>
  m_chk (zK o1.2 o1.1 = 4) (
  m_chk (zK o1.2 x0 = 1) (
  m_cal (f_X1_at x0 (zI o1.2 0 o1.1) o1.2) (fun o2 =>
  m_chk (zK o2.2 o2.1 = 4) (
  f_X1_putFirst_21 mFuel x0 x1 o2.1 (zI o2.2 2 o2.1) (0 : Int32) o2.2))))))

set_option maxRecDepth 100000 in
set_option maxHeartbeats 4000000 in
theorem w_X1_putFirst_0 {p : Program} {l : Launch} {e : Env} {s : State} {m : MethodId} {args : Array Value} {below : List Frame} {meth : Method} {c : Code} {Q : State → Prop} {D : va_G} {y : Nat → ClassId} {A0 : Nat → Prop} {o : Int32 × ZS} (X : CallFix p m c cX1_putFirst 5 s args wsX1_putFirst RX1) (hret : zRv p l e ({ frames := 1, cells := 0, slots := 0, locals := 22 } : Room) s m args below meth c Q cX1_putFirst D y A0 o) {x0 : Nat} {x1 : Int32} {S : ZS} {H : Heap} {locs : List Loc} {ls : Array Slot} (hf : f_X1_putFirst_0 x0 x1 S = some o) (hM : zH D y A0 s H locs S) (hl : lv_has ls 5 [(0, .ref (zh y x0)), (1, .int x1)]) : W p l e ({ frames := 1, cells := 0, slots := 0, locals := 22 } : Room) s m args below meth c H locs 0 0 Q (F0 m 0 ls []) := by
  obtain ⟨hx, hb, hml, hown, hts⟩ := id X
  unfold f_X1_putFirst_0 at hf
  refine lv_aload_n hx hb dX1_putFirst_0 rfl (lv_at hl 0 rfl) ?_
  refine lv_aload_n hx hb dX1_putFirst_1 rfl (lv_at hl 0 rfl) ?_
  refine lv_iload_n hx hb dX1_putFirst_2 rfl (lv_at hl 1 rfl) ?_
  obtain ⟨ca, hf⟩ := m_chkE hf
  replace ca := z_in hM (by decide) ca
  obtain ⟨o1, ho, hf⟩ := m_calE hf
  refine z_callVr (k := 1) (C := RX1) (T := TX1) (N := 8) (fl := zf_1) X hM rfl zc_1 ca (c_X1_at ho) gX1_putFirst_X1_at rfl ⟨rfl, rfl⟩ hd_X1_at ⟨Nat.le_of_ble_eq_true rfl, Nat.le_of_ble_eq_true rfl⟩ rfl hl.1 rfl (Nat.le_of_ble_eq_true rfl) dX1_putFirst_3 (fun H locs hM => ?_)
  clear ho
  obtain ⟨ca, hf⟩ := m_chkE hf
  replace ca := z_in hM (by decide) ca
  refine z_get (k := 4) (j := 0) (C := RX4) (T := TX4) (N := 7) (fl := zf_4) (v := .int (zI o1.2 0 o1.1)) X hw_X1_putFirst_4 hM rfl zc_4 ca (by decide) fl_X1_putFirst_4_0 rfl dX1_putFirst_6 ?_
  clear ca
  obtain ⟨ca, hf⟩ := m_chkE hf
  replace ca := z_in hM (by decide) ca
  obtain ⟨o2, ho, hf⟩ := m_calE hf
  refine z_callVr (k := 1) (C := RX1) (T := TX1) (N := 8) (fl := zf_1) X hM rfl zc_1 ca (c_X1_at ho) gX1_putFirst_X1_at rfl ⟨rfl, rfl⟩ hd_X1_at ⟨Nat.le_of_ble_eq_true rfl, Nat.le_of_ble_eq_true rfl⟩ rfl hl.1 rfl (Nat.le_of_ble_eq_true rfl) dX1_putFirst_9 (fun H locs hM => ?_)
  clear ho
  refine lv_astore_n (lv' := [(2, .ref (zh y o2.1)), (0, .ref (zh y x0)), (1, .int x1)]) hx hb dX1_putFirst_12 rfl hl (by decide) rfl (fun ls hl => ?_)
  refine lv_aload_n hx hb dX1_putFirst_13 rfl (lv_at hl 0 rfl) ?_
  obtain ⟨ca, hf⟩ := m_chkE hf
  replace ca := z_in hM (by decide) ca
  refine z_get (k := 4) (j := 2) (C := RX4) (T := TX4) (N := 7) (fl := zf_4) (v := .int (zI o2.2 2 o2.1)) X hw_X1_putFirst_4 hM rfl zc_4 ca (by decide) fl_X1_putFirst_4_2 rfl dX1_putFirst_14 ?_
  clear ca
  refine lv_istore_n (lv' := [(3, .int (zI o2.2 2 o2.1)), (2, .ref (zh y o2.1)), (0, .ref (zh y x0)), (1, .int x1)]) hx hb dX1_putFirst_17 rfl hl (by decide) rfl (fun ls hl => ?_)
  refine lv_iconst (v := (0 : Int32)) hx hb dX1_putFirst_18 (by decide) ?_
  refine lv_istore (lv' := [(4, .int (0 : Int32)), (3, .int (zI o2.2 2 o2.1)), (2, .ref (zh y o2.1)), (0, .ref (zh y x0)), (1, .int x1)]) hx hb dX1_putFirst_19 hl (by decide) rfl (fun ls hl => ?_)
  exact w_X1_putFirst_21 X hret _ x0 x1 o2.1 (zI o2.2 2 o2.1) (0 : Int32) _ _ _ _ hf hM (lv_sub hl [3, 4, 2, 1, 0] rfl)
noncomputable def f_X1_putFirst (x0 : Nat) (x1 : Int32) (S : ZS) : Option (Int32 × ZS) := f_X1_putFirst_0 x0 x1 S
theorem c_X1_putFirst {l : Launch} {D : va_G} {y : Nat → ClassId} {x0 : Nat} {x1 : Int32} {S : ZS} {o : Int32 × ZS} (hf : f_X1_putFirst x0 x1 S = some o) : zMv l yX1_putFirst wsX1_putFirst ({ frames := 1, cells := 0, slots := 0, locals := 22 } : Room) [.ref (zh y x0), .int x1] D y S o :=
  z_entryV (own := RX1) (cc := cX1_putFirst) (maxL := 5) (by decide) rfl rfl (Nat.le_of_ble_eq_true rfl) (fun p e s m args below meth c A0 Q H locs ls X hret hM hl => w_X1_putFirst_0 X hret hf hM (lv_sub hl [0, 1] rfl))
theorem hd_X1_standAt : yX1_standAt.cls = RX1 ∧ yX1_standAt.cls ≠ "java/lang/invoke/MethodHandle" ∧ yX1_standAt.cls ≠ "java/lang/invoke/VarHandle" ∧ (parseMethodDescriptor yX1_standAt.desc).map (fun d => d.parameters.length) = some 2 := by decide +kernel
theorem fl_X1_standAt_1_0 : Cond.fieldLink RX1 12 "MoveTexts$Game" "start" "LMoveTexts$Board;" ∈ wsX1_standAt := by decide +kernel
theorem fl_X1_standAt_1_7 : Cond.fieldLink RX1 45 "MoveTexts$Game" "scratch" "[I" ∈ wsX1_standAt := by decide +kernel
theorem fl_X1_standAt_4_0 : Cond.fieldLink RX1 69 "MoveTexts$Node" "parent" "I" ∈ wsX1_standAt := by decide +kernel
theorem fl_X1_standAt_4_1 : Cond.fieldLink RX1 63 "MoveTexts$Node" "move" "I" ∈ wsX1_standAt := by decide +kernel
theorem hw_X1_standAt_1 : ∀ w ∈ wsX10, w ∈ wsX1_standAt := by decide +kernel
theorem hw_X1_standAt_4 : ∀ w ∈ wsX40, w ∈ wsX1_standAt := by decide +kernel
noncomputable def f_X1_standAt_68s (self68 : Nat → Nat → Int32 → ZS → Option (Int32 × ZS)) (x2 : Nat) (x3 : Nat) (x5 : Int32) (S : ZS) : Option (Int32 × ZS) :=
  m_if (x5 < 0) (
  some (0, S)
  ) (
  m_chk (zK S x3 = 14) (
  m_chk (¬ (x5 < 0 ∨ zN S x3 ≤ (x5).toNatClampNeg)) (
  m_bnd (zA S x3 (x5).toNatClampNeg) (fun v1 =>
  m_chk (zK S x2 = 0) (
  m_cal (f_X0_play x2 v1 S) (fun o2 =>
  m_bnd (x5 + (-1 : Int32)) (fun v3 =>
  self68 x2 x3 v3 o2.2))))))
  )

set_option maxRecDepth 100000 in
set_option maxHeartbeats 4000000 in
theorem ws_X1_standAt_68 {p : Program} {l : Launch} {e : Env} {s : State} {m : MethodId} {args : Array Value} {below : List Frame} {meth : Method} {c : Code} {Q : State → Prop} {D : va_G} {y : Nat → ClassId} {A0 : Nat → Prop} {o : Int32 × ZS} (X : CallFix p m c cX1_standAt 6 s args wsX1_standAt RX1) (hret : zRv p l e ({ frames := 2, cells := 0, slots := 0, locals := 81 } : Room) s m args below meth c Q cX1_standAt D y A0 o) {self68 : Nat → Nat → Int32 → ZS → Option (Int32 × ZS)} (hself68 : ∀ (x2 : Nat) (x3 : Nat) (x5 : Int32) (S : ZS) (H : Heap) (locs : List Loc) (ls : Array Slot), self68 x2 x3 x5 S = some o → zH D y A0 s H locs S → lv_has ls 6 [(2, .ref (zh y x2)), (3, .ref (zh y x3)), (5, .int x5)] → W p l e ({ frames := 2, cells := 0, slots := 0, locals := 81 } : Room) s m args below meth c H locs 0 0 Q (F0 m 68 ls [])) {x2 : Nat} {x3 : Nat} {x5 : Int32} {S : ZS} {H : Heap} {locs : List Loc} {ls : Array Slot} (hf : f_X1_standAt_68s self68 x2 x3 x5 S = some o) (hM : zH D y A0 s H locs S) (hl : lv_has ls 6 [(2, .ref (zh y x2)), (3, .ref (zh y x3)), (5, .int x5)]) : W p l e ({ frames := 2, cells := 0, slots := 0, locals := 81 } : Room) s m args below meth c H locs 0 0 Q (F0 m 68 ls []) := by
  obtain ⟨hx, hb, hml, hown, hts⟩ := id X
  unfold f_X1_standAt_68s at hf
  refine lv_iload hx hb dX1_standAt_68 (lv_at hl 2 rfl) ?_
  refine lv_if_lt (tgt := 87) hx hb dX1_standAt_70 (by decide) (fun cc1 => ?_) (fun cc1 => ?_)
  · replace hf := m_ifT hf cc1
    cases hf
    exact hret H locs _ ls hM dX1_standAt_87
  · replace hf := m_ifF hf cc1
    refine lv_aload_n hx hb dX1_standAt_73 rfl (lv_at hl 0 rfl) ?_
    refine lv_aload_n hx hb dX1_standAt_74 rfl (lv_at hl 1 rfl) ?_
    refine lv_iload hx hb dX1_standAt_75 (lv_at hl 2 rfl) ?_
    obtain ⟨ca, hf⟩ := m_chkE hf
    replace ca := z_in hM (by decide) ca
    obtain ⟨cd, hf⟩ := m_chkE hf
    refine z_iald X hM ca cd dX1_standAt_77 ?_
    clear ca cd
    obtain ⟨v1, ev, hf⟩ := m_bndE hf
    refine m_top ev ?_
    clear ev
    obtain ⟨ca, hf⟩ := m_chkE hf
    replace ca := z_in hM (by decide) ca
    obtain ⟨o2, ho, hf⟩ := m_calE hf
    refine z_callVv (k := 0) (C := RX0) (T := TX0) (N := 7) (fl := zf_0) X hM rfl zc_0 ca (c_X0_play ho) gX1_standAt_X0_play rfl ⟨rfl, rfl⟩ hd_X0_play ⟨Nat.le_of_ble_eq_true rfl, Nat.le_of_ble_eq_true rfl⟩ rfl hl.1 rfl (Nat.le_of_ble_eq_true rfl) dX1_standAt_78 (fun H locs hM => ?_)
    clear ho
    obtain ⟨v3, ev, hf⟩ := m_bndE hf
    refine lv_iinc (v := v3) (lv' := [(5, .int v3), (2, .ref (zh y x2)), (3, .ref (zh y x3))]) hx hb dX1_standAt_81 hl (k := 2) rfl (by rw [ev]; rfl) (by decide) rfl (fun ls hl => ?_)
    clear ev
    refine lv_goto (tgt := 68) hx hb dX1_standAt_84 (by decide) ?_
    exact hself68 x2 x3 v3 _ _ _ _ hf hM (lv_sub hl [1, 2, 0] rfl)
noncomputable def f_X1_standAt_68 : Nat → Nat → Nat → Int32 → ZS → Option (Int32 × ZS)
  | 0 => fun _ _ _ _ => none
  | n + 1 => f_X1_standAt_68s (f_X1_standAt_68 n)
theorem w_X1_standAt_68 {p : Program} {l : Launch} {e : Env} {s : State} {m : MethodId} {args : Array Value} {below : List Frame} {meth : Method} {c : Code} {Q : State → Prop} {D : va_G} {y : Nat → ClassId} {A0 : Nat → Prop} {o : Int32 × ZS} (X : CallFix p m c cX1_standAt 6 s args wsX1_standAt RX1) (hret : zRv p l e ({ frames := 2, cells := 0, slots := 0, locals := 81 } : Room) s m args below meth c Q cX1_standAt D y A0 o) (n : Nat) : ∀ (x2 : Nat) (x3 : Nat) (x5 : Int32) (S : ZS) (H : Heap) (locs : List Loc) (ls : Array Slot), f_X1_standAt_68 n x2 x3 x5 S = some o → zH D y A0 s H locs S → lv_has ls 6 [(2, .ref (zh y x2)), (3, .ref (zh y x3)), (5, .int x5)] → W p l e ({ frames := 2, cells := 0, slots := 0, locals := 81 } : Room) s m args below meth c H locs 0 0 Q (F0 m 68 ls []) := by
  induction n with
  | zero => intro x2 x3 x5 S H locs ls hf; cases hf
  | succ n ih => intro x2 x3 x5 S H locs ls hf hM hl; exact ws_X1_standAt_68 X hret (self68 := f_X1_standAt_68 n) ih hf hM hl
noncomputable def f_X1_standAt_54 (x0 : Nat) (x2 : Nat) (x3 : Nat) (x4 : Int32) (S : ZS) : Option (Int32 × ZS) :=
  m_chk (zK S x0 = 1) (
  m_cal (zP S 0 x0) (fun b1 =>
  m_chk (zK S x2 = 0) (
  m_cal (f_X0_copyFrom x2 b1 S) (fun o2 =>
  m_bnd (x4 - (1 : Int32)) (fun v3 =>
  f_X1_standAt_68 mFuel x2 x3 v3 o2.2)))))

set_option maxRecDepth 100000 in
set_option maxHeartbeats 4000000 in
theorem w_X1_standAt_54 {p : Program} {l : Launch} {e : Env} {s : State} {m : MethodId} {args : Array Value} {below : List Frame} {meth : Method} {c : Code} {Q : State → Prop} {D : va_G} {y : Nat → ClassId} {A0 : Nat → Prop} {o : Int32 × ZS} (X : CallFix p m c cX1_standAt 6 s args wsX1_standAt RX1) (hret : zRv p l e ({ frames := 2, cells := 0, slots := 0, locals := 81 } : Room) s m args below meth c Q cX1_standAt D y A0 o) {x0 : Nat} {x2 : Nat} {x3 : Nat} {x4 : Int32} {S : ZS} {H : Heap} {locs : List Loc} {ls : Array Slot} (hf : f_X1_standAt_54 x0 x2 x3 x4 S = some o) (hM : zH D y A0 s H locs S) (hl : lv_has ls 6 [(0, .ref (zh y x0)), (2, .ref (zh y x2)), (3, .ref (zh y x3)), (4, .int x4)]) : W p l e ({ frames := 2, cells := 0, slots := 0, locals := 81 } : Room) s m args below meth c H locs 0 0 Q (F0 m 54 ls []) := by
  obtain ⟨hx, hb, hml, hown, hts⟩ := id X
  unfold f_X1_standAt_54 at hf
  refine lv_aload_n hx hb dX1_standAt_54 rfl (lv_at hl 1 rfl) ?_
  refine lv_aload_n hx hb dX1_standAt_55 rfl (lv_at hl 0 rfl) ?_
  obtain ⟨ca, hf⟩ := m_chkE hf
  replace ca := z_in hM (by decide) ca
  refine z_get (k := 1) (j := 0) (C := RX1) (T := TX1) (N := 8) (fl := zf_1) (v := va_rf ((zP S 0 x0).map (zh y))) X hw_X1_standAt_1 hM rfl zc_1 ca (by decide) fl_X1_standAt_1_0 rfl dX1_standAt_56 ?_
  clear ca
  obtain ⟨b1, hb9, hf⟩ := m_calE hf
  refine z_topr hb9 ?_
  clear hb9
  obtain ⟨ca, hf⟩ := m_chkE hf
  replace ca := z_in hM (by decide) ca
  obtain ⟨o2, ho, hf⟩ := m_calE hf
  refine z_callVv (k := 0) (C := RX0) (T := TX0) (N := 7) (fl := zf_0) X hM rfl zc_0 ca (c_X0_copyFrom ho) gX1_standAt_X0_copyFrom rfl ⟨rfl, rfl⟩ hd_X0_copyFrom ⟨Nat.le_of_ble_eq_true rfl, Nat.le_of_ble_eq_true rfl⟩ rfl hl.1 rfl (Nat.le_of_ble_eq_true rfl) dX1_standAt_59 (fun H locs hM => ?_)
  clear ho
  refine lv_iload hx hb dX1_standAt_62 (lv_at hl 3 rfl) ?_
  refine lv_iconst (v := (1 : Int32)) hx hb dX1_standAt_64 (by decide) ?_
  refine lv_isub hx hb dX1_standAt_65 ?_
  obtain ⟨v3, ev, hf⟩ := m_bndE hf
  refine m_top ev ?_
  clear ev
  refine lv_istore (lv' := [(5, .int v3), (0, .ref (zh y x0)), (2, .ref (zh y x2)), (3, .ref (zh y x3)), (4, .int x4)]) hx hb dX1_standAt_66 hl (by decide) rfl (fun ls hl => ?_)
  exact w_X1_standAt_68 X hret _ x2 x3 v3 _ _ _ _ hf hM (lv_sub hl [2, 3, 0] rfl)
noncomputable def f_X1_standAt_11s (self11 : Nat → Nat → Nat → Int32 → Int32 → ZS → Option (Int32 × ZS)) (x0 : Nat) (x2 : Nat) (x3 : Nat) (x4 : Int32) (x5 : Int32) (S : ZS) : Option (Int32 × ZS) :=
  m_if (x5 ≤ 0) (
  f_X1_standAt_54 x0 x2 x3 x4 S
  ) (
  m_if ((300 : Int32) ≤ x4) (
  f_X1_standAt_54 x0 x2 x3 x4 S
  ) (
  m_chk (zK S x0 = 1) (
  m_cal (f_X1_at x0 x5 S) (fun o1 =>
  m_chk (zK o1.2 o1.1 = 4) (
  m_chk (zK o1.2 x3 = 14) (
  m_chk (¬ (x4 < 0 ∨ zN o1.2 x3 ≤ (x4).toNatClampNeg)) (
  m_bnd (zsA o1.2 x3 (x4).toNatClampNeg (zI o1.2 1 o1.1)) (fun S2 =>
  m_bnd (x4 + (1 : Int32)) (fun v3 =>
  m_chk (zK S2 x0 = 1) (
  m_cal (f_X1_at x0 x5 S2) (fun o4 =>
  m_chk (zK o4.2 o4.1 = 4) (
  self11 x0 x2 x3 v3 (zI o4.2 0 o4.1) o4.2))))))))))
  )
  )

set_option maxRecDepth 100000 in
set_option maxHeartbeats 4000000 in
theorem ws_X1_standAt_11 {p : Program} {l : Launch} {e : Env} {s : State} {m : MethodId} {args : Array Value} {below : List Frame} {meth : Method} {c : Code} {Q : State → Prop} {D : va_G} {y : Nat → ClassId} {A0 : Nat → Prop} {o : Int32 × ZS} (X : CallFix p m c cX1_standAt 6 s args wsX1_standAt RX1) (hret : zRv p l e ({ frames := 2, cells := 0, slots := 0, locals := 81 } : Room) s m args below meth c Q cX1_standAt D y A0 o) {self11 : Nat → Nat → Nat → Int32 → Int32 → ZS → Option (Int32 × ZS)} (hself11 : ∀ (x0 : Nat) (x2 : Nat) (x3 : Nat) (x4 : Int32) (x5 : Int32) (S : ZS) (H : Heap) (locs : List Loc) (ls : Array Slot), self11 x0 x2 x3 x4 x5 S = some o → zH D y A0 s H locs S → lv_has ls 6 [(0, .ref (zh y x0)), (2, .ref (zh y x2)), (3, .ref (zh y x3)), (4, .int x4), (5, .int x5)] → W p l e ({ frames := 2, cells := 0, slots := 0, locals := 81 } : Room) s m args below meth c H locs 0 0 Q (F0 m 11 ls [])) {x0 : Nat} {x2 : Nat} {x3 : Nat} {x4 : Int32} {x5 : Int32} {S : ZS} {H : Heap} {locs : List Loc} {ls : Array Slot} (hf : f_X1_standAt_11s self11 x0 x2 x3 x4 x5 S = some o) (hM : zH D y A0 s H locs S) (hl : lv_has ls 6 [(0, .ref (zh y x0)), (2, .ref (zh y x2)), (3, .ref (zh y x3)), (4, .int x4), (5, .int x5)]) : W p l e ({ frames := 2, cells := 0, slots := 0, locals := 81 } : Room) s m args below meth c H locs 0 0 Q (F0 m 11 ls []) := by
  obtain ⟨hx, hb, hml, hown, hts⟩ := id X
  unfold f_X1_standAt_11s at hf
  refine lv_iload hx hb dX1_standAt_11 (lv_at hl 4 rfl) ?_
  refine lv_if_le (tgt := 54) hx hb dX1_standAt_13 (by decide) (fun cc1 => ?_) (fun cc1 => ?_)
  · replace hf := m_ifT hf cc1
    exact w_X1_standAt_54 (x0 := x0) (x2 := x2) (x3 := x3) (x4 := x4) X hret hf hM (lv_sub hl [0, 1, 2, 3] rfl)
  · replace hf := m_ifF hf cc1
    refine lv_iload hx hb dX1_standAt_16 (lv_at hl 3 rfl) ?_
    refine lv_sipush (v := (300 : Int32)) hx hb dX1_standAt_18 (by decide) ?_
    refine lv_icmp_ge (tgt := 54) hx hb dX1_standAt_21 (by decide) (fun cc1 => ?_) (fun cc1 => ?_)
    · replace hf := m_ifT hf cc1
      exact w_X1_standAt_54 (x0 := x0) (x2 := x2) (x3 := x3) (x4 := x4) X hret hf hM (lv_sub hl [0, 1, 2, 3] rfl)
    · replace hf := m_ifF hf cc1
      refine lv_aload_n hx hb dX1_standAt_24 rfl (lv_at hl 2 rfl) ?_
      refine lv_iload hx hb dX1_standAt_25 (lv_at hl 3 rfl) ?_
      refine lv_aload_n hx hb dX1_standAt_27 rfl (lv_at hl 0 rfl) ?_
      refine lv_iload hx hb dX1_standAt_28 (lv_at hl 4 rfl) ?_
      obtain ⟨ca, hf⟩ := m_chkE hf
      replace ca := z_in hM (by decide) ca
      obtain ⟨o1, ho, hf⟩ := m_calE hf
      refine z_callVr (k := 1) (C := RX1) (T := TX1) (N := 8) (fl := zf_1) X hM rfl zc_1 ca (c_X1_at ho) gX1_standAt_X1_at rfl ⟨rfl, rfl⟩ hd_X1_at ⟨Nat.le_of_ble_eq_true rfl, Nat.le_of_ble_eq_true rfl⟩ rfl hl.1 rfl (Nat.le_of_ble_eq_true rfl) dX1_standAt_30 (fun H locs hM => ?_)
      clear ho
      obtain ⟨ca, hf⟩ := m_chkE hf
      replace ca := z_in hM (by decide) ca
      refine z_get (k := 4) (j := 1) (C := RX4) (T := TX4) (N := 7) (fl := zf_4) (v := .int (zI o1.2 1 o1.1)) X hw_X1_standAt_4 hM rfl zc_4 ca (by decide) fl_X1_standAt_4_1 rfl dX1_standAt_33 ?_
      clear ca
      obtain ⟨ca, hf⟩ := m_chkE hf
      replace ca := z_in hM (by decide) ca
      obtain ⟨cd, hf⟩ := m_chkE hf
      refine z_iast X hM ca cd dX1_standAt_36 (fun H locs hM => ?_)
      clear ca cd
      obtain ⟨S2, ev, hf⟩ := m_bndE hf
      replace hM := z_hS hM ev
      clear ev
      obtain ⟨v3, ev, hf⟩ := m_bndE hf
      refine lv_iinc (v := v3) (lv' := [(4, .int v3), (0, .ref (zh y x0)), (2, .ref (zh y x2)), (3, .ref (zh y x3)), (5, .int x5)]) hx hb dX1_standAt_37 hl (k := 3) rfl (by rw [ev]; rfl) (by decide) rfl (fun ls hl => ?_)
      clear ev
      refine lv_aload_n hx hb dX1_standAt_40 rfl (lv_at hl 1 rfl) ?_
      refine lv_iload hx hb dX1_standAt_41 (lv_at hl 4 rfl) ?_
      obtain ⟨ca, hf⟩ := m_chkE hf
      replace ca := z_in hM (by decide) ca
      obtain ⟨o4, ho, hf⟩ := m_calE hf
      refine z_callVr (k := 1) (C := RX1) (T := TX1) (N := 8) (fl := zf_1) X hM rfl zc_1 ca (c_X1_at ho) gX1_standAt_X1_at rfl ⟨rfl, rfl⟩ hd_X1_at ⟨Nat.le_of_ble_eq_true rfl, Nat.le_of_ble_eq_true rfl⟩ rfl hl.1 rfl (Nat.le_of_ble_eq_true rfl) dX1_standAt_43 (fun H locs hM => ?_)
      clear ho
      obtain ⟨ca, hf⟩ := m_chkE hf
      replace ca := z_in hM (by decide) ca
      refine z_get (k := 4) (j := 0) (C := RX4) (T := TX4) (N := 7) (fl := zf_4) (v := .int (zI o4.2 0 o4.1)) X hw_X1_standAt_4 hM rfl zc_4 ca (by decide) fl_X1_standAt_4_0 rfl dX1_standAt_46 ?_
      clear ca
      refine lv_istore (lv' := [(5, .int (zI o4.2 0 o4.1)), (4, .int v3), (0, .ref (zh y x0)), (2, .ref (zh y x2)), (3, .ref (zh y x3))]) hx hb dX1_standAt_49 hl (by decide) rfl (fun ls hl => ?_)
      refine lv_goto (tgt := 11) hx hb dX1_standAt_51 (by decide) ?_
      exact hself11 x0 x2 x3 v3 (zI o4.2 0 o4.1) _ _ _ _ hf hM (lv_sub hl [2, 3, 4, 1, 0] rfl)
noncomputable def f_X1_standAt_11 : Nat → Nat → Nat → Nat → Int32 → Int32 → ZS → Option (Int32 × ZS)
  | 0 => fun _ _ _ _ _ _ => none
  | n + 1 => f_X1_standAt_11s (f_X1_standAt_11 n)
theorem w_X1_standAt_11 {p : Program} {l : Launch} {e : Env} {s : State} {m : MethodId} {args : Array Value} {below : List Frame} {meth : Method} {c : Code} {Q : State → Prop} {D : va_G} {y : Nat → ClassId} {A0 : Nat → Prop} {o : Int32 × ZS} (X : CallFix p m c cX1_standAt 6 s args wsX1_standAt RX1) (hret : zRv p l e ({ frames := 2, cells := 0, slots := 0, locals := 81 } : Room) s m args below meth c Q cX1_standAt D y A0 o) (n : Nat) : ∀ (x0 : Nat) (x2 : Nat) (x3 : Nat) (x4 : Int32) (x5 : Int32) (S : ZS) (H : Heap) (locs : List Loc) (ls : Array Slot), f_X1_standAt_11 n x0 x2 x3 x4 x5 S = some o → zH D y A0 s H locs S → lv_has ls 6 [(0, .ref (zh y x0)), (2, .ref (zh y x2)), (3, .ref (zh y x3)), (4, .int x4), (5, .int x5)] → W p l e ({ frames := 2, cells := 0, slots := 0, locals := 81 } : Room) s m args below meth c H locs 0 0 Q (F0 m 11 ls []) := by
  induction n with
  | zero => intro x0 x2 x3 x4 x5 S H locs ls hf; cases hf
  | succ n ih => intro x0 x2 x3 x4 x5 S H locs ls hf hM hl; exact ws_X1_standAt_11 X hret (self11 := f_X1_standAt_11 n) ih hf hM hl
noncomputable def f_X1_standAt_0 (x0 : Nat) (x1 : Int32) (x2 : Nat) (S : ZS) : Option (Int32 × ZS) :=
  m_chk (zK S x0 = 1) (
  m_cal (zP S 7 x0) (fun b1 =>
  f_X1_standAt_11 mFuel x0 x2 b1 (0 : Int32) x1 S))

set_option maxRecDepth 100000 in
set_option maxHeartbeats 4000000 in
theorem w_X1_standAt_0 {p : Program} {l : Launch} {e : Env} {s : State} {m : MethodId} {args : Array Value} {below : List Frame} {meth : Method} {c : Code} {Q : State → Prop} {D : va_G} {y : Nat → ClassId} {A0 : Nat → Prop} {o : Int32 × ZS} (X : CallFix p m c cX1_standAt 6 s args wsX1_standAt RX1) (hret : zRv p l e ({ frames := 2, cells := 0, slots := 0, locals := 81 } : Room) s m args below meth c Q cX1_standAt D y A0 o) {x0 : Nat} {x1 : Int32} {x2 : Nat} {S : ZS} {H : Heap} {locs : List Loc} {ls : Array Slot} (hf : f_X1_standAt_0 x0 x1 x2 S = some o) (hM : zH D y A0 s H locs S) (hl : lv_has ls 6 [(0, .ref (zh y x0)), (1, .int x1), (2, .ref (zh y x2))]) : W p l e ({ frames := 2, cells := 0, slots := 0, locals := 81 } : Room) s m args below meth c H locs 0 0 Q (F0 m 0 ls []) := by
  obtain ⟨hx, hb, hml, hown, hts⟩ := id X
  unfold f_X1_standAt_0 at hf
  refine lv_aload_n hx hb dX1_standAt_0 rfl (lv_at hl 0 rfl) ?_
  obtain ⟨ca, hf⟩ := m_chkE hf
  replace ca := z_in hM (by decide) ca
  refine z_get (k := 1) (j := 7) (C := RX1) (T := TX1) (N := 8) (fl := zf_1) (v := va_rf ((zP S 7 x0).map (zh y))) X hw_X1_standAt_1 hM rfl zc_1 ca (by decide) fl_X1_standAt_1_7 rfl dX1_standAt_1 ?_
  clear ca
  obtain ⟨b1, hb9, hf⟩ := m_calE hf
  refine z_topr hb9 ?_
  clear hb9
  refine lv_astore_n (lv' := [(3, .ref (zh y b1)), (0, .ref (zh y x0)), (1, .int x1), (2, .ref (zh y x2))]) hx hb dX1_standAt_4 rfl hl (by decide) rfl (fun ls hl => ?_)
  refine lv_iconst (v := (0 : Int32)) hx hb dX1_standAt_5 (by decide) ?_
  refine lv_istore (lv' := [(4, .int (0 : Int32)), (3, .ref (zh y b1)), (0, .ref (zh y x0)), (1, .int x1), (2, .ref (zh y x2))]) hx hb dX1_standAt_6 hl (by decide) rfl (fun ls hl => ?_)
  refine lv_iload_n hx hb dX1_standAt_8 rfl (lv_at hl 3 rfl) ?_
  refine lv_istore (lv' := [(5, .int x1), (4, .int (0 : Int32)), (3, .ref (zh y b1)), (0, .ref (zh y x0)), (1, .int x1), (2, .ref (zh y x2))]) hx hb dX1_standAt_9 hl (by decide) rfl (fun ls hl => ?_)
  exact w_X1_standAt_11 X hret _ x0 x2 b1 (0 : Int32) x1 _ _ _ _ hf hM (lv_sub hl [3, 5, 2, 1, 0] rfl)
noncomputable def f_X1_standAt (x0 : Nat) (x1 : Int32) (x2 : Nat) (S : ZS) : Option (Int32 × ZS) := f_X1_standAt_0 x0 x1 x2 S
theorem c_X1_standAt {l : Launch} {D : va_G} {y : Nat → ClassId} {x0 : Nat} {x1 : Int32} {x2 : Nat} {S : ZS} {o : Int32 × ZS} (hf : f_X1_standAt x0 x1 x2 S = some o) : zMv l yX1_standAt wsX1_standAt ({ frames := 2, cells := 0, slots := 0, locals := 81 } : Room) [.ref (zh y x0), .int x1, .ref (zh y x2)] D y S o :=
  z_entryV (own := RX1) (cc := cX1_standAt) (maxL := 6) (by decide) rfl rfl (Nat.le_of_ble_eq_true rfl) (fun p e s m args below meth c A0 Q H locs ls X hret hM hl => w_X1_standAt_0 X hret hf hM (lv_sub hl [0, 1, 2] rfl))
theorem hd_X10_init : yX10_init.cls = RX10 ∧ yX10_init.cls ≠ "java/lang/invoke/MethodHandle" ∧ yX10_init.cls ≠ "java/lang/invoke/VarHandle" ∧ (parseMethodDescriptor yX10_init.desc).map (fun d => d.parameters.length) = some 0 := by decide +kernel
theorem fl_X10_init_10_0 : Cond.fieldLink RX10 10 "MoveTexts$Tag" "name" "LMoveTexts$Row;" ∈ wsX10_init := by decide +kernel
theorem fl_X10_init_10_1 : Cond.fieldLink RX10 16 "MoveTexts$Tag" "value" "LMoveTexts$Row;" ∈ wsX10_init := by decide +kernel
theorem hw_X10_init_10 : ∀ w ∈ wsX100, w ∈ wsX10_init := by decide +kernel
theorem hw_X10_init_6 : ∀ w ∈ wsX60, w ∈ wsX10_init := by decide +kernel
theorem ii_X10_init_9 : (RX10, 9, yX6_init, "MoveTexts") ∈ zNW ∧ Cond.initialized yX6_init.cls ∈ wsX10_init ∧ Cond.instanceMethod yX6_init ∈ wsX10_init := by decide +kernel
theorem nw_X10_init_7 : Cond.classLink RX10 7 RX6 ∈ wsX10_init ∧ Cond.instantiable RX6 2 ∈ wsX10_init ∧ Cond.initialized RX6 ∈ wsX10_init := by decide +kernel
theorem ob_X10_init : (Cond.methodLink RX10 1 objectInit ∈ wsX10_init ∧ Cond.instanceMethod objectInit ∈ wsX10_init) ∧ Cond.code objectInit ⟨#[0xb1]⟩ 1 none ∈ wsX10_init := by decide +kernel
noncomputable def g_X10_init_0 (Pw : Int32 → ZS → Prop) (x0 : Nat) (S : ZS) (C T : Nat) : Prop :=
  m_newP (C) (T) 2 (zt S) (fun q1 C3 T4 =>
  m_bndP (zsNewO S q1 6 2) (fun S2 =>
  m_calP (f_X6_init q1 S2) (fun o5 =>
  m_chkQ (zK o5.2 x0 = 10) (
  m_bndP (zsP o5.2 0 x0 (some q1)) (fun S6 =>
  m_newP (C3) (T4) 2 (zt S6) (fun q7 C9 T10 =>
  m_bndP (zsNewO S6 q7 6 2) (fun S8 =>
  m_calP (f_X6_init q7 S8) (fun o11 =>
  m_chkQ (zK o11.2 x0 = 10) (
  m_bndP (zsP o11.2 1 x0 (some q7)) (fun S12 =>
  Pw 0 S12))))))))))

set_option maxRecDepth 100000 in
set_option maxHeartbeats 4000000 in
theorem w_X10_init_0 {p : Program} {l : Launch} {e : Env} {s : State} {m : MethodId} {args : Array Value} {below : List Frame} {meth : Method} {c : Code} {Q : State → Prop} {D : va_G} {y : Nat → ClassId} {A0 : Nat → Prop} {kc kt : Nat} {Pw : Int32 → ZS → Prop} (X : CallFix p m c cX10_init 1 s args wsX10_init RX10) (hin : meth.name = "<init>") (hret : zQv p l e ({ frames := 2, cells := kc, slots := kt, locals := 44 } : Room) s m args below meth c Q cX10_init D y A0 Pw) {x0 : Nat} {S : ZS} {C T : Nat} {H : Heap} {locs : List Loc} {ls : Array Slot} (hf : g_X10_init_0 Pw x0 S C T) (hCT : C ≤ kc ∧ T ≤ kt) (hM : zH D y A0 s H locs S) (hl : lv_has ls 1 [(0, .ref (zh y x0))]) : W p l e ({ frames := 2, cells := kc, slots := kt, locals := 44 } : Room) s m args below meth c H locs (kc - C) (kt - T) Q (F0 m 0 ls []) := by
  obtain ⟨hx, hb, hml, hown, hts⟩ := id X
  unfold g_X10_init_0 at hf
  refine lv_aload_n hx hb dX10_init_0 rfl (lv_at hl 0 rfl) ?_
  refine z_obj X (by rw [hml]; exact hl.1.symm) ob_X10_init.1 ob_X10_init.2 (Nat.le_of_ble_eq_true rfl) (Nat.le_of_ble_eq_true rfl) dX10_init_1 ?_
  refine lv_aload_n hx hb dX10_init_4 rfl (lv_at hl 0 rfl) ?_
  obtain ⟨hcm, ho⟩ := hf
  refine z_newO (k := 6) (C := RX6) (T := TX6) (N := 2) (fl := zf_6) X hw_X10_init_6 tyX6_ok hM rfl zc_6 nw_X10_init_7 zd_6 ⟨by show kc - (C) + 1 ≤ kc; omega, by show kt - (T) + 2 ≤ kt; omega⟩ dX10_init_5 (fun q1 H hq hM => ?_)
  replace hf := ho q1 hq
  refine z_eqCS (c2 := kc - (C - 1)) (t2 := kt - (T - 2)) (by omega) (by omega) ?_
  replace hCT : C - 1 ≤ kc ∧ T - 2 ≤ kt := by omega
  generalize C - 1 = C3 at hf hCT ⊢
  generalize T - 2 = T4 at hf hCT ⊢
  obtain ⟨S2, ev, hf⟩ := m_bndPE hf
  replace hM := z_hS hM ev
  clear ev ho hcm hq
  refine lv_dup hx hb dX10_init_8 rfl ?_
  obtain ⟨o5, ho, hf⟩ := m_calPE hf
  refine z_gcallINv X hM (c_X6_init ho) gX10_init_X6_init_n9 ii_X10_init_9.1 ii_X10_init_9.2.1 ii_X10_init_9.2.2 rfl rfl ⟨rfl, rfl⟩ hd_X6_init.2 ⟨Nat.le_of_ble_eq_true rfl, Nat.le_of_ble_eq_true rfl⟩ rfl hl.1 rfl ⟨Nat.sub_le _ _, Nat.sub_le _ _⟩ (Nat.le_of_ble_eq_true rfl) dX10_init_9 (fun H locs hM => ?_)
  clear ho
  obtain ⟨ca, hf⟩ := m_chkPE hf
  replace ca := z_in hM (by decide) ca
  refine z_putPF (k := 10) (j := 0) (C := RX10) (T := TX10) (N := 2) (fl := zf_10) (ty := tyX10 0) X hw_X10_init_10 tyX10_ok nmX10 hM rfl zc_10 ca (by decide) fl_X10_init_10_0 rfl hin rfl (tyX10_ok 0 (by decide)) rfl rfl zp_10_0 (Nat.le_of_ble_eq_true rfl) dX10_init_12 (fun H locs hM => ?_)
  clear ca
  obtain ⟨S6, ev, hf⟩ := m_bndPE hf
  replace hM := z_hS hM ev
  clear ev
  refine lv_aload_n hx hb dX10_init_15 rfl (lv_at hl 0 rfl) ?_
  obtain ⟨hcm, ho⟩ := hf
  refine z_newO (k := 6) (C := RX6) (T := TX6) (N := 2) (fl := zf_6) X hw_X10_init_6 tyX6_ok hM rfl zc_6 nw_X10_init_7 zd_6 ⟨by show kc - (C3) + 1 ≤ kc; omega, by show kt - (T4) + 2 ≤ kt; omega⟩ dX10_init_16 (fun q7 H hq hM => ?_)
  replace hf := ho q7 hq
  refine z_eqCS (c2 := kc - (C3 - 1)) (t2 := kt - (T4 - 2)) (by omega) (by omega) ?_
  replace hCT : C3 - 1 ≤ kc ∧ T4 - 2 ≤ kt := by omega
  generalize C3 - 1 = C9 at hf hCT ⊢
  generalize T4 - 2 = T10 at hf hCT ⊢
  obtain ⟨S8, ev, hf⟩ := m_bndPE hf
  replace hM := z_hS hM ev
  clear ev ho hcm hq
  refine lv_dup hx hb dX10_init_19 rfl ?_
  obtain ⟨o11, ho, hf⟩ := m_calPE hf
  refine z_gcallINv X hM (c_X6_init ho) gX10_init_X6_init_n9 ii_X10_init_9.1 ii_X10_init_9.2.1 ii_X10_init_9.2.2 rfl rfl ⟨rfl, rfl⟩ hd_X6_init.2 ⟨Nat.le_of_ble_eq_true rfl, Nat.le_of_ble_eq_true rfl⟩ rfl hl.1 rfl ⟨Nat.sub_le _ _, Nat.sub_le _ _⟩ (Nat.le_of_ble_eq_true rfl) dX10_init_20 (fun H locs hM => ?_)
  clear ho
  obtain ⟨ca, hf⟩ := m_chkPE hf
  replace ca := z_in hM (by decide) ca
  refine z_putPF (k := 10) (j := 1) (C := RX10) (T := TX10) (N := 2) (fl := zf_10) (ty := tyX10 1) X hw_X10_init_10 tyX10_ok nmX10 hM rfl zc_10 ca (by decide) fl_X10_init_10_1 rfl hin rfl (tyX10_ok 1 (by decide)) rfl rfl zp_10_1 (Nat.le_of_ble_eq_true rfl) dX10_init_23 (fun H locs hM => ?_)
  clear ca
  obtain ⟨S12, ev, hf⟩ := m_bndPE hf
  replace hM := z_hS hM ev
  clear ev
  exact hret _ _ _ H locs _ ls hf hM dX10_init_26
noncomputable def g_X10_init (x0 : Nat) (S : ZS) (mc ms : Nat) (Pw : Int32 → ZS → Prop) : Prop := g_X10_init_0 Pw x0 S mc ms
theorem c_X10_init {l : Launch} {D : va_G} {y : Nat → ClassId} {x0 : Nat} {S : ZS} {kc kt : Nat} {Pw : Int32 → ZS → Prop} (hf : g_X10_init x0 S kc kt Pw) : zWv l yX10_init wsX10_init ({ frames := 2, cells := kc, slots := kt, locals := 44 } : Room) [.ref (zh y x0)] D y S kc kt Pw :=
  z_wentC (own := RX10) (cc := cX10_init) (maxL := 1) (by decide) rfl rfl (Nat.le_of_ble_eq_true rfl) ⟨rfl, rfl⟩ rfl (fun p e s m args below meth c A0 Q H locs ls X hin hret hM hl => w_X10_init_0 X hin hret hf ⟨Nat.le_refl _, Nat.le_refl _⟩ hM (lv_sub hl [0] rfl))
theorem hd_X1_tagAt : yX1_tagAt.cls = RX1 ∧ yX1_tagAt.cls ≠ "java/lang/invoke/MethodHandle" ∧ yX1_tagAt.cls ≠ "java/lang/invoke/VarHandle" ∧ (parseMethodDescriptor yX1_tagAt.desc).map (fun d => d.parameters.length) = some 1 := by decide +kernel
theorem fl_X1_tagAt_1_4 : Cond.fieldLink RX1 35 "MoveTexts$Game" "tagRow" "[LMoveTexts$Tag;" ∈ wsX1_tagAt := by decide +kernel
theorem fl_X1_tagAt_1_5 : Cond.fieldLink RX1 39 "MoveTexts$Game" "tagCount" "I" ∈ wsX1_tagAt := by decide +kernel
theorem hw_X1_tagAt_1 : ∀ w ∈ wsX10, w ∈ wsX1_tagAt := by decide +kernel
theorem hw_X1_tagAt_10 : ∀ w ∈ wsX100, w ∈ wsX1_tagAt := by decide +kernel
theorem ii_X1_tagAt_84 : (RX1, 84, yX10_init, "MoveTexts") ∈ zNW ∧ Cond.initialized yX10_init.cls ∈ wsX1_tagAt ∧ Cond.instanceMethod yX10_init ∈ wsX1_tagAt := by decide +kernel
theorem nw_X1_tagAt_33 : Cond.classLink RX1 33 RX10 ∈ wsX1_tagAt ∧ Cond.instantiable RX10 2 ∈ wsX1_tagAt ∧ Cond.initialized RX10 ∈ wsX1_tagAt := by decide +kernel
noncomputable def g_X1_tagAt_38 (Pw : Nat → ZS → Prop) (t0 : Option Nat) (S : ZS) (C T : Nat) : Prop :=
  m_calP t0 (fun b1 => Pw b1 S)

set_option maxRecDepth 100000 in
set_option maxHeartbeats 4000000 in
theorem w_X1_tagAt_38 {p : Program} {l : Launch} {e : Env} {s : State} {m : MethodId} {args : Array Value} {below : List Frame} {meth : Method} {c : Code} {Q : State → Prop} {D : va_G} {y : Nat → ClassId} {A0 : Nat → Prop} {kc kt : Nat} {Pw : Nat → ZS → Prop} (X : CallFix p m c cX1_tagAt 3 s args wsX1_tagAt RX1) (hret : zQr p l e ({ frames := 3, cells := kc, slots := kt, locals := 64 } : Room) s m args below meth c Q cX1_tagAt D y A0 Pw) {t0 : Option Nat} {S : ZS} {C T : Nat} {H : Heap} {locs : List Loc} {ls : Array Slot} (hf : g_X1_tagAt_38 Pw t0 S C T) (hCT : C ≤ kc ∧ T ≤ kt) (hM : zH D y A0 s H locs S) (hl : lv_has ls 3 []) : W p l e ({ frames := 3, cells := kc, slots := kt, locals := 64 } : Room) s m args below meth c H locs (kc - C) (kt - T) Q (F0 m 38 ls [va_rf ((t0).map (zh y))]) := by
  obtain ⟨hx, hb, hml, hown, hts⟩ := id X
  unfold g_X1_tagAt_38 at hf
  obtain ⟨b1, hb9, hf⟩ := m_calPE hf
  refine z_topr hb9 ?_
  exact hret _ _ _ _ H locs _ ls hf hM dX1_tagAt_38
noncomputable def g_X1_tagAt_22 (Pw : Nat → ZS → Prop) (t0 : Option Nat) (S : ZS) (C T : Nat) : Prop :=
  m_optP t0 (
  m_newP (C) (T) 2 (zt S) (fun q2 C4 T5 =>
  m_bndP (zsNewO S q2 10 2) (fun S3 =>
  m_gal (C4) (T5) (fun mc ms Pw => g_X10_init q2 S3 mc ms Pw) (fun r7 S8 C9 T10 =>
  g_X1_tagAt_38 Pw (some q2) S8 (C9) (T10))))
  ) (fun b1 =>
  g_X1_tagAt_38 Pw (some b1) S (C) (T)
  )

set_option maxRecDepth 100000 in
set_option maxHeartbeats 4000000 in
theorem w_X1_tagAt_22 {p : Program} {l : Launch} {e : Env} {s : State} {m : MethodId} {args : Array Value} {below : List Frame} {meth : Method} {c : Code} {Q : State → Prop} {D : va_G} {y : Nat → ClassId} {A0 : Nat → Prop} {kc kt : Nat} {Pw : Nat → ZS → Prop} (X : CallFix p m c cX1_tagAt 3 s args wsX1_tagAt RX1) (hret : zQr p l e ({ frames := 3, cells := kc, slots := kt, locals := 64 } : Room) s m args below meth c Q cX1_tagAt D y A0 Pw) {t0 : Option Nat} {S : ZS} {C T : Nat} {H : Heap} {locs : List Loc} {ls : Array Slot} (hf : g_X1_tagAt_22 Pw t0 S C T) (hCT : C ≤ kc ∧ T ≤ kt) (hM : zH D y A0 s H locs S) (hl : lv_has ls 3 []) : W p l e ({ frames := 3, cells := kc, slots := kt, locals := 64 } : Room) s m args below meth c H locs (kc - C) (kt - T) Q (F0 m 22 ls [va_rf ((t0).map (zh y))]) := by
  obtain ⟨hx, hb, hml, hown, hts⟩ := id X
  unfold g_X1_tagAt_22 at hf
  cases t0 with
  | none =>
    replace hf := m_optPN hf
    refine lv_astore_nN (lv' := [(2, .null)]) hx hb dX1_tagAt_22 rfl hl (by decide) rfl (fun ls hl => ?_)
    refine lv_aload_nN hx hb dX1_tagAt_23 rfl (lv_at hl 0 rfl) ?_
    refine lv_ifnullN (tgt := 31) hx hb dX1_tagAt_24 (by decide) ?_
    obtain ⟨hcm, ho⟩ := hf
    refine z_newO (k := 10) (C := RX10) (T := TX10) (N := 2) (fl := zf_10) X hw_X1_tagAt_10 tyX10_ok hM rfl zc_10 nw_X1_tagAt_33 zd_10 ⟨by show kc - (C) + 1 ≤ kc; omega, by show kt - (T) + 2 ≤ kt; omega⟩ dX1_tagAt_31 (fun q2 H hq hM => ?_)
    replace hf := ho q2 hq
    refine z_eqCS (c2 := kc - (C - 1)) (t2 := kt - (T - 2)) (by omega) (by omega) ?_
    replace hCT : C - 1 ≤ kc ∧ T - 2 ≤ kt := by omega
    generalize C - 1 = C4 at hf hCT ⊢
    generalize T - 2 = T5 at hf hCT ⊢
    obtain ⟨S3, ev, hf⟩ := m_bndPE hf
    replace hM := z_hS hM ev
    clear ev ho hcm hq
    refine lv_dup hx hb dX1_tagAt_34 rfl ?_
    obtain ⟨mc, ms, hcm, ho⟩ := m_galE hf
    refine z_wcallINv X hM (c_X10_init ho) gX1_tagAt_X10_init_n84 ii_X1_tagAt_84.1 ii_X1_tagAt_84.2.1 ii_X1_tagAt_84.2.2 rfl rfl ⟨rfl, rfl⟩ ⟨by show kc - (C4) + mc ≤ kc; omega, by show kt - (T5) + ms ≤ kt; omega⟩ hd_X10_init.2 ⟨Nat.le_of_ble_eq_true rfl, Nat.le_of_ble_eq_true rfl⟩ rfl hl.1 rfl (Nat.le_of_ble_eq_true rfl) dX1_tagAt_35 (fun S8 H locs hf hM => ?_)
    refine z_eqCS (c2 := kc - (C4 - mc)) (t2 := kt - (T5 - ms)) (by omega) (by omega) ?_
    replace hCT : C4 - mc ≤ kc ∧ T5 - ms ≤ kt := by omega
    generalize C4 - mc = C9 at hf hCT ⊢
    generalize T5 - ms = T10 at hf hCT ⊢
    clear ho hcm
    exact w_X1_tagAt_38 (t0 := (some q2)) X hret hf hCT hM (lv_sub hl [] rfl)
  | some b1 =>
    replace hf := m_optPS hf
    refine lv_astore_n (lv' := [(2, .ref (zh y b1))]) hx hb dX1_tagAt_22 rfl hl (by decide) rfl (fun ls hl => ?_)
    refine lv_aload_n hx hb dX1_tagAt_23 rfl (lv_at hl 0 rfl) ?_
    refine lv_ifnull (x := (zh y b1)) hx hb dX1_tagAt_24 ?_
    refine lv_aload_n hx hb dX1_tagAt_27 rfl (lv_at hl 0 rfl) ?_
    refine lv_goto (tgt := 38) hx hb dX1_tagAt_28 (by decide) ?_
    exact w_X1_tagAt_38 (t0 := (some b1)) X hret hf hCT hM (lv_sub hl [] rfl)
noncomputable def g_X1_tagAt_21 (Pw : Nat → ZS → Prop) (S : ZS) (C T : Nat) : Prop :=
  g_X1_tagAt_22 Pw none S (C) (T)

set_option maxRecDepth 100000 in
set_option maxHeartbeats 4000000 in
theorem w_X1_tagAt_21 {p : Program} {l : Launch} {e : Env} {s : State} {m : MethodId} {args : Array Value} {below : List Frame} {meth : Method} {c : Code} {Q : State → Prop} {D : va_G} {y : Nat → ClassId} {A0 : Nat → Prop} {kc kt : Nat} {Pw : Nat → ZS → Prop} (X : CallFix p m c cX1_tagAt 3 s args wsX1_tagAt RX1) (hret : zQr p l e ({ frames := 3, cells := kc, slots := kt, locals := 64 } : Room) s m args below meth c Q cX1_tagAt D y A0 Pw) {S : ZS} {C T : Nat} {H : Heap} {locs : List Loc} {ls : Array Slot} (hf : g_X1_tagAt_21 Pw  S C T) (hCT : C ≤ kc ∧ T ≤ kt) (hM : zH D y A0 s H locs S) (hl : lv_has ls 3 []) : W p l e ({ frames := 3, cells := kc, slots := kt, locals := 64 } : Room) s m args below meth c H locs (kc - C) (kt - T) Q (F0 m 21 ls []) := by
  obtain ⟨hx, hb, hml, hown, hts⟩ := id X
  unfold g_X1_tagAt_21 at hf
  refine lv_null hx hb dX1_tagAt_21 ?_
  exact w_X1_tagAt_22 (t0 := none) X hret hf hCT hM (lv_sub hl [] rfl)
noncomputable def g_X1_tagAt_0 (Pw : Nat → ZS → Prop) (x0 : Nat) (x1 : Int32) (S : ZS) (C T : Nat) : Prop :=
  m_ifQ (x1 < 0) (
  g_X1_tagAt_21 Pw  S (C) (T)
  ) (
  m_chkQ (zK S x0 = 1) (
  m_ifQ ((zI S 5 x0) ≤ x1) (
  g_X1_tagAt_21 Pw  S (C) (T)
  ) (
  m_chkQ (zK S x0 = 1) (
  m_calP (zP S 4 x0) (fun b1 =>
  m_chkQ (zK S b1 = 17) (
  m_chkQ (¬ (x1 < 0 ∨ zN S b1 ≤ (x1).toNatClampNeg)) (
  m_bndP (zB S b1 (x1).toNatClampNeg) (fun v2 =>
  g_X1_tagAt_22 Pw v2 S (C) (T))))))
  ))
  )

set_option maxRecDepth 100000 in
set_option maxHeartbeats 4000000 in
theorem w_X1_tagAt_0 {p : Program} {l : Launch} {e : Env} {s : State} {m : MethodId} {args : Array Value} {below : List Frame} {meth : Method} {c : Code} {Q : State → Prop} {D : va_G} {y : Nat → ClassId} {A0 : Nat → Prop} {kc kt : Nat} {Pw : Nat → ZS → Prop} (X : CallFix p m c cX1_tagAt 3 s args wsX1_tagAt RX1) (hret : zQr p l e ({ frames := 3, cells := kc, slots := kt, locals := 64 } : Room) s m args below meth c Q cX1_tagAt D y A0 Pw) {x0 : Nat} {x1 : Int32} {S : ZS} {C T : Nat} {H : Heap} {locs : List Loc} {ls : Array Slot} (hf : g_X1_tagAt_0 Pw x0 x1 S C T) (hCT : C ≤ kc ∧ T ≤ kt) (hM : zH D y A0 s H locs S) (hl : lv_has ls 3 [(0, .ref (zh y x0)), (1, .int x1)]) : W p l e ({ frames := 3, cells := kc, slots := kt, locals := 64 } : Room) s m args below meth c H locs (kc - C) (kt - T) Q (F0 m 0 ls []) := by
  obtain ⟨hx, hb, hml, hown, hts⟩ := id X
  unfold g_X1_tagAt_0 at hf
  refine lv_iload_n hx hb dX1_tagAt_0 rfl (lv_at hl 1 rfl) ?_
  refine lv_if_lt (tgt := 21) hx hb dX1_tagAt_1 (by decide) (fun cc1 => ?_) (fun cc1 => ?_)
  · replace hf := m_ifPT hf cc1
    exact w_X1_tagAt_21 X hret hf hCT hM (lv_sub hl [] rfl)
  · replace hf := m_ifPF hf cc1
    refine lv_iload_n hx hb dX1_tagAt_4 rfl (lv_at hl 1 rfl) ?_
    refine lv_aload_n hx hb dX1_tagAt_5 rfl (lv_at hl 0 rfl) ?_
    obtain ⟨ca, hf⟩ := m_chkPE hf
    replace ca := z_in hM (by decide) ca
    refine z_get (k := 1) (j := 5) (C := RX1) (T := TX1) (N := 8) (fl := zf_1) (v := .int (zI S 5 x0)) X hw_X1_tagAt_1 hM rfl zc_1 ca (by decide) fl_X1_tagAt_1_5 rfl dX1_tagAt_6 ?_
    clear ca
    refine lv_icmp_ge (tgt := 21) hx hb dX1_tagAt_9 (by decide) (fun cc1 => ?_) (fun cc1 => ?_)
    · replace hf := m_ifPT hf cc1
      exact w_X1_tagAt_21 X hret hf hCT hM (lv_sub hl [] rfl)
    · replace hf := m_ifPF hf cc1
      refine lv_aload_n hx hb dX1_tagAt_12 rfl (lv_at hl 0 rfl) ?_
      obtain ⟨ca, hf⟩ := m_chkPE hf
      replace ca := z_in hM (by decide) ca
      refine z_get (k := 1) (j := 4) (C := RX1) (T := TX1) (N := 8) (fl := zf_1) (v := va_rf ((zP S 4 x0).map (zh y))) X hw_X1_tagAt_1 hM rfl zc_1 ca (by decide) fl_X1_tagAt_1_4 rfl dX1_tagAt_13 ?_
      clear ca
      obtain ⟨b1, hb9, hf⟩ := m_calPE hf
      refine z_topr hb9 ?_
      clear hb9
      refine lv_iload_n hx hb dX1_tagAt_16 rfl (lv_at hl 1 rfl) ?_
      obtain ⟨ca, hf⟩ := m_chkPE hf
      replace ca := z_in hM (by decide) ca
      obtain ⟨cd, hf⟩ := m_chkPE hf
      refine z_aald (k := 17) (t0 := 4) (C := "MoveTexts$Tag") X hM (fun _ _ _ _ _ => rfl) rfl ca cd dX1_tagAt_17 ?_
      clear ca cd
      obtain ⟨v2, ev, hf⟩ := m_bndPE hf
      refine z_topq ev ?_
      clear ev
      refine lv_goto (tgt := 22) hx hb dX1_tagAt_18 (by decide) ?_
      exact w_X1_tagAt_22 (t0 := v2) X hret hf hCT hM (lv_sub hl [] rfl)
noncomputable def g_X1_tagAt (x0 : Nat) (x1 : Int32) (S : ZS) (mc ms : Nat) (Pw : Nat → ZS → Prop) : Prop := g_X1_tagAt_0 Pw x0 x1 S mc ms
theorem c_X1_tagAt {l : Launch} {D : va_G} {y : Nat → ClassId} {x0 : Nat} {x1 : Int32} {S : ZS} {kc kt : Nat} {Pw : Nat → ZS → Prop} (hf : g_X1_tagAt x0 x1 S kc kt Pw) : zWr l yX1_tagAt wsX1_tagAt ({ frames := 3, cells := kc, slots := kt, locals := 64 } : Room) [.ref (zh y x0), .int x1] D y S kc kt Pw :=
  z_wentR (rt := .object "MoveTexts$Tag") (own := RX1) (cc := cX1_tagAt) (maxL := 3) (by decide) rfl rfl (Nat.le_of_ble_eq_true rfl) ⟨rfl, rfl⟩ ⟨_, rfl⟩ (fun p e s m args below meth c A0 Q H locs ls X hret hM hl => w_X1_tagAt_0 X hret hf ⟨Nat.le_refl _, Nat.le_refl _⟩ hM (lv_sub hl [0, 1] rfl))
theorem hd_X6_at : yX6_at.cls = RX6 ∧ yX6_at.cls ≠ "java/lang/invoke/MethodHandle" ∧ yX6_at.cls ≠ "java/lang/invoke/VarHandle" ∧ (parseMethodDescriptor yX6_at.desc).map (fun d => d.parameters.length) = some 1 := by decide +kernel
theorem fl_X6_at_6_0 : Cond.fieldLink RX6 13 "MoveTexts$Row" "chars" "[C" ∈ wsX6_at := by decide +kernel
theorem fl_X6_at_6_1 : Cond.fieldLink RX6 16 "MoveTexts$Row" "length" "I" ∈ wsX6_at := by decide +kernel
theorem hw_X6_at_6 : ∀ w ∈ wsX60, w ∈ wsX6_at := by decide +kernel
noncomputable def f_X6_at_22 (t0 : Int32) (S : ZS) : Option (Int32 × ZS) :=
  m_chk (vp_nar .char t0 = t0) (some (t0, S))

set_option maxRecDepth 100000 in
set_option maxHeartbeats 4000000 in
theorem w_X6_at_22 {p : Program} {l : Launch} {e : Env} {s : State} {m : MethodId} {args : Array Value} {below : List Frame} {meth : Method} {c : Code} {Q : State → Prop} {D : va_G} {y : Nat → ClassId} {A0 : Nat → Prop} {o : Int32 × ZS} (X : CallFix p m c cX6_at 2 s args wsX6_at RX6) (hret : zRi p l e ({ frames := 0, cells := 0, slots := 0, locals := 0 } : Room) s m args below meth c Q cX6_at D y A0 .char o) {t0 : Int32} {S : ZS} {H : Heap} {locs : List Loc} {ls : Array Slot} (hf : f_X6_at_22 t0 S = some o) (hM : zH D y A0 s H locs S) (hl : lv_has ls 2 []) : W p l e ({ frames := 0, cells := 0, slots := 0, locals := 0 } : Room) s m args below meth c H locs 0 0 Q (F0 m 22 ls [.int t0]) := by
  obtain ⟨hx, hb, hml, hown, hts⟩ := id X
  unfold f_X6_at_22 at hf
  obtain ⟨cd, hf⟩ := m_chkE hf
  cases hf
  exact hret H locs _ ls hM (m_nc cd) dX6_at_22
noncomputable def f_X6_at_21 (S : ZS) : Option (Int32 × ZS) :=
  f_X6_at_22 (0 : Int32) S

set_option maxRecDepth 100000 in
set_option maxHeartbeats 4000000 in
theorem w_X6_at_21 {p : Program} {l : Launch} {e : Env} {s : State} {m : MethodId} {args : Array Value} {below : List Frame} {meth : Method} {c : Code} {Q : State → Prop} {D : va_G} {y : Nat → ClassId} {A0 : Nat → Prop} {o : Int32 × ZS} (X : CallFix p m c cX6_at 2 s args wsX6_at RX6) (hret : zRi p l e ({ frames := 0, cells := 0, slots := 0, locals := 0 } : Room) s m args below meth c Q cX6_at D y A0 .char o) {S : ZS} {H : Heap} {locs : List Loc} {ls : Array Slot} (hf : f_X6_at_21  S = some o) (hM : zH D y A0 s H locs S) (hl : lv_has ls 2 []) : W p l e ({ frames := 0, cells := 0, slots := 0, locals := 0 } : Room) s m args below meth c H locs 0 0 Q (F0 m 21 ls []) := by
  obtain ⟨hx, hb, hml, hown, hts⟩ := id X
  unfold f_X6_at_21 at hf
  refine lv_iconst (v := (0 : Int32)) hx hb dX6_at_21 (by decide) ?_
  exact w_X6_at_22 (t0 := (0 : Int32)) X hret hf hM (lv_sub hl [] rfl)
noncomputable def f_X6_at_0 (x0 : Nat) (x1 : Int32) (S : ZS) : Option (Int32 × ZS) :=
  m_if (x1 < 0) (
  f_X6_at_21  S
  ) (
  m_chk (zK S x0 = 6) (
  m_if ((zI S 1 x0) ≤ x1) (
  f_X6_at_21  S
  ) (
  m_chk (zK S x0 = 6) (
  m_cal (zP S 0 x0) (fun b1 =>
  m_chk (zK S b1 = 13) (
  m_chk (¬ (x1 < 0 ∨ zN S b1 ≤ (x1).toNatClampNeg)) (
  m_bnd (zA S b1 (x1).toNatClampNeg) (fun v2 =>
  f_X6_at_22 v2 S)))))
  ))
  )

set_option maxRecDepth 100000 in
set_option maxHeartbeats 4000000 in
theorem w_X6_at_0 {p : Program} {l : Launch} {e : Env} {s : State} {m : MethodId} {args : Array Value} {below : List Frame} {meth : Method} {c : Code} {Q : State → Prop} {D : va_G} {y : Nat → ClassId} {A0 : Nat → Prop} {o : Int32 × ZS} (X : CallFix p m c cX6_at 2 s args wsX6_at RX6) (hret : zRi p l e ({ frames := 0, cells := 0, slots := 0, locals := 0 } : Room) s m args below meth c Q cX6_at D y A0 .char o) {x0 : Nat} {x1 : Int32} {S : ZS} {H : Heap} {locs : List Loc} {ls : Array Slot} (hf : f_X6_at_0 x0 x1 S = some o) (hM : zH D y A0 s H locs S) (hl : lv_has ls 2 [(0, .ref (zh y x0)), (1, .int x1)]) : W p l e ({ frames := 0, cells := 0, slots := 0, locals := 0 } : Room) s m args below meth c H locs 0 0 Q (F0 m 0 ls []) := by
  obtain ⟨hx, hb, hml, hown, hts⟩ := id X
  unfold f_X6_at_0 at hf
  refine lv_iload_n hx hb dX6_at_0 rfl (lv_at hl 1 rfl) ?_
  refine lv_if_lt (tgt := 21) hx hb dX6_at_1 (by decide) (fun cc1 => ?_) (fun cc1 => ?_)
  · replace hf := m_ifT hf cc1
    exact w_X6_at_21 X hret hf hM (lv_sub hl [] rfl)
  · replace hf := m_ifF hf cc1
    refine lv_iload_n hx hb dX6_at_4 rfl (lv_at hl 1 rfl) ?_
    refine lv_aload_n hx hb dX6_at_5 rfl (lv_at hl 0 rfl) ?_
    obtain ⟨ca, hf⟩ := m_chkE hf
    replace ca := z_in hM (by decide) ca
    refine z_get (k := 6) (j := 1) (C := RX6) (T := TX6) (N := 2) (fl := zf_6) (v := .int (zI S 1 x0)) X hw_X6_at_6 hM rfl zc_6 ca (by decide) fl_X6_at_6_1 rfl dX6_at_6 ?_
    clear ca
    refine lv_icmp_ge (tgt := 21) hx hb dX6_at_9 (by decide) (fun cc1 => ?_) (fun cc1 => ?_)
    · replace hf := m_ifT hf cc1
      exact w_X6_at_21 X hret hf hM (lv_sub hl [] rfl)
    · replace hf := m_ifF hf cc1
      refine lv_aload_n hx hb dX6_at_12 rfl (lv_at hl 0 rfl) ?_
      obtain ⟨ca, hf⟩ := m_chkE hf
      replace ca := z_in hM (by decide) ca
      refine z_get (k := 6) (j := 0) (C := RX6) (T := TX6) (N := 2) (fl := zf_6) (v := va_rf ((zP S 0 x0).map (zh y))) X hw_X6_at_6 hM rfl zc_6 ca (by decide) fl_X6_at_6_0 rfl dX6_at_13 ?_
      clear ca
      obtain ⟨b1, hb9, hf⟩ := m_calE hf
      refine z_topr hb9 ?_
      clear hb9
      refine lv_iload_n hx hb dX6_at_16 rfl (lv_at hl 1 rfl) ?_
      obtain ⟨ca, hf⟩ := m_chkE hf
      replace ca := z_in hM (by decide) ca
      obtain ⟨cd, hf⟩ := m_chkE hf
      refine z_cald X hM ca cd dX6_at_17 ?_
      clear ca cd
      obtain ⟨v2, ev, hf⟩ := m_bndE hf
      refine m_top ev ?_
      clear ev
      refine lv_goto (tgt := 22) hx hb dX6_at_18 (by decide) ?_
      exact w_X6_at_22 (t0 := v2) X hret hf hM (lv_sub hl [] rfl)
noncomputable def f_X6_at (x0 : Nat) (x1 : Int32) (S : ZS) : Option (Int32 × ZS) := f_X6_at_0 x0 x1 S
theorem c_X6_at {l : Launch} {D : va_G} {y : Nat → ClassId} {x0 : Nat} {x1 : Int32} {S : ZS} {o : Int32 × ZS} (hf : f_X6_at x0 x1 S = some o) : zMi l yX6_at wsX6_at ({ frames := 0, cells := 0, slots := 0, locals := 0 } : Room) [.ref (zh y x0), .int x1] D y S o :=
  z_entryI (own := RX6) (cc := cX6_at) (maxL := 2) (by decide) rfl rfl (Nat.le_of_ble_eq_true rfl) (fun p e s m args below meth c A0 Q H locs ls X hret hM hl => w_X6_at_0 X hret hf hM (lv_sub hl [0, 1] rfl))
theorem hd_X6_isLike : yX6_isLike.cls = RX6 ∧ yX6_isLike.cls ≠ "java/lang/invoke/MethodHandle" ∧ yX6_isLike.cls ≠ "java/lang/invoke/VarHandle" ∧ (parseMethodDescriptor yX6_isLike.desc).map (fun d => d.parameters.length) = some 1 := by decide +kernel
theorem fl_X6_isLike_6_0 : Cond.fieldLink RX6 13 "MoveTexts$Row" "chars" "[C" ∈ wsX6_isLike := by decide +kernel
theorem fl_X6_isLike_6_1 : Cond.fieldLink RX6 16 "MoveTexts$Row" "length" "I" ∈ wsX6_isLike := by decide +kernel
theorem hw_X6_isLike_6 : ∀ w ∈ wsX60, w ∈ wsX6_isLike := by decide +kernel
noncomputable def f_X6_isLike_15s (self15 : Nat → Nat → Int32 → ZS → Option (Int32 × ZS)) (x0 : Nat) (x1 : Nat) (x2 : Int32) (S : ZS) : Option (Int32 × ZS) :=
  m_chk (zK S x0 = 6) (
  m_if ((zI S 1 x0) ≤ x2) (
  m_chk (vp_nar .boolean (1 : Int32) = (1 : Int32)) (some ((1 : Int32), S))
  ) (
  m_chk (zK S x0 = 6) (
  m_cal (zP S 0 x0) (fun b1 =>
  m_chk (zK S b1 = 13) (
  m_chk (¬ (x2 < 0 ∨ zN S b1 ≤ (x2).toNatClampNeg)) (
  m_bnd (zA S b1 (x2).toNatClampNeg) (fun v2 =>
  m_chk (zK S x1 = 6) (
  m_cal (f_X6_at x1 x2 S) (fun o3 =>
  m_if (v2 = o3.1) (
  m_bnd (x2 + (1 : Int32)) (fun v4 =>
  self15 x0 x1 v4 o3.2)
  ) (
  m_chk (vp_nar .boolean (0 : Int32) = (0 : Int32)) (some ((0 : Int32), o3.2))
  ))))))))
  ))

set_option maxRecDepth 100000 in
set_option maxHeartbeats 4000000 in
theorem ws_X6_isLike_15 {p : Program} {l : Launch} {e : Env} {s : State} {m : MethodId} {args : Array Value} {below : List Frame} {meth : Method} {c : Code} {Q : State → Prop} {D : va_G} {y : Nat → ClassId} {A0 : Nat → Prop} {o : Int32 × ZS} (X : CallFix p m c cX6_isLike 3 s args wsX6_isLike RX6) (hret : zRi p l e ({ frames := 1, cells := 0, slots := 0, locals := 21 } : Room) s m args below meth c Q cX6_isLike D y A0 .boolean o) {self15 : Nat → Nat → Int32 → ZS → Option (Int32 × ZS)} (hself15 : ∀ (x0 : Nat) (x1 : Nat) (x2 : Int32) (S : ZS) (H : Heap) (locs : List Loc) (ls : Array Slot), self15 x0 x1 x2 S = some o → zH D y A0 s H locs S → lv_has ls 3 [(0, .ref (zh y x0)), (1, .ref (zh y x1)), (2, .int x2)] → W p l e ({ frames := 1, cells := 0, slots := 0, locals := 21 } : Room) s m args below meth c H locs 0 0 Q (F0 m 15 ls [])) {x0 : Nat} {x1 : Nat} {x2 : Int32} {S : ZS} {H : Heap} {locs : List Loc} {ls : Array Slot} (hf : f_X6_isLike_15s self15 x0 x1 x2 S = some o) (hM : zH D y A0 s H locs S) (hl : lv_has ls 3 [(0, .ref (zh y x0)), (1, .ref (zh y x1)), (2, .int x2)]) : W p l e ({ frames := 1, cells := 0, slots := 0, locals := 21 } : Room) s m args below meth c H locs 0 0 Q (F0 m 15 ls []) := by
  obtain ⟨hx, hb, hml, hown, hts⟩ := id X
  unfold f_X6_isLike_15s at hf
  refine lv_iload_n hx hb dX6_isLike_15 rfl (lv_at hl 2 rfl) ?_
  refine lv_aload_n hx hb dX6_isLike_16 rfl (lv_at hl 0 rfl) ?_
  obtain ⟨ca, hf⟩ := m_chkE hf
  replace ca := z_in hM (by decide) ca
  refine z_get (k := 6) (j := 1) (C := RX6) (T := TX6) (N := 2) (fl := zf_6) (v := .int (zI S 1 x0)) X hw_X6_isLike_6 hM rfl zc_6 ca (by decide) fl_X6_isLike_6_1 rfl dX6_isLike_17 ?_
  clear ca
  refine lv_icmp_ge (tgt := 45) hx hb dX6_isLike_20 (by decide) (fun cc1 => ?_) (fun cc1 => ?_)
  · replace hf := m_ifT hf cc1
    refine lv_iconst (v := (1 : Int32)) hx hb dX6_isLike_45 (by decide) ?_
    obtain ⟨cd, hf⟩ := m_chkE hf
    cases hf
    exact hret H locs _ ls hM (m_nb cd) dX6_isLike_46
  · replace hf := m_ifF hf cc1
    refine lv_aload_n hx hb dX6_isLike_23 rfl (lv_at hl 0 rfl) ?_
    obtain ⟨ca, hf⟩ := m_chkE hf
    replace ca := z_in hM (by decide) ca
    refine z_get (k := 6) (j := 0) (C := RX6) (T := TX6) (N := 2) (fl := zf_6) (v := va_rf ((zP S 0 x0).map (zh y))) X hw_X6_isLike_6 hM rfl zc_6 ca (by decide) fl_X6_isLike_6_0 rfl dX6_isLike_24 ?_
    clear ca
    obtain ⟨b1, hb9, hf⟩ := m_calE hf
    refine z_topr hb9 ?_
    clear hb9
    refine lv_iload_n hx hb dX6_isLike_27 rfl (lv_at hl 2 rfl) ?_
    obtain ⟨ca, hf⟩ := m_chkE hf
    replace ca := z_in hM (by decide) ca
    obtain ⟨cd, hf⟩ := m_chkE hf
    refine z_cald X hM ca cd dX6_isLike_28 ?_
    clear ca cd
    obtain ⟨v2, ev, hf⟩ := m_bndE hf
    refine m_top ev ?_
    clear ev
    refine lv_aload_n hx hb dX6_isLike_29 rfl (lv_at hl 1 rfl) ?_
    refine lv_iload_n hx hb dX6_isLike_30 rfl (lv_at hl 2 rfl) ?_
    obtain ⟨ca, hf⟩ := m_chkE hf
    replace ca := z_in hM (by decide) ca
    obtain ⟨o3, ho, hf⟩ := m_calE hf
    refine z_callVi (k := 6) (C := RX6) (T := TX6) (N := 2) (fl := zf_6) X hM rfl zc_6 ca (c_X6_at ho) gX6_isLike_X6_at rfl ⟨rfl, rfl⟩ hd_X6_at ⟨Nat.le_of_ble_eq_true rfl, Nat.le_of_ble_eq_true rfl⟩ rfl hl.1 rfl (Nat.le_of_ble_eq_true rfl) dX6_isLike_31 (fun H locs hM => ?_)
    clear ho
    refine lv_icmp_eq (tgt := 39) hx hb dX6_isLike_34 (by decide) (fun cc1 => ?_) (fun cc1 => ?_)
    · replace hf := m_ifT hf cc1
      obtain ⟨v4, ev, hf⟩ := m_bndE hf
      refine lv_iinc (v := v4) (lv' := [(2, .int v4), (0, .ref (zh y x0)), (1, .ref (zh y x1))]) hx hb dX6_isLike_39 hl (k := 2) rfl (by rw [ev]; rfl) (by decide) rfl (fun ls hl => ?_)
      clear ev
      refine lv_goto (tgt := 15) hx hb dX6_isLike_42 (by decide) ?_
      exact hself15 x0 x1 v4 _ _ _ _ hf hM (lv_sub hl [1, 2, 0] rfl)
    · replace hf := m_ifF hf cc1
      refine lv_iconst (v := (0 : Int32)) hx hb dX6_isLike_37 (by decide) ?_
      obtain ⟨cd, hf⟩ := m_chkE hf
      cases hf
      exact hret H locs _ ls hM (m_nb cd) dX6_isLike_38
noncomputable def f_X6_isLike_15 : Nat → Nat → Nat → Int32 → ZS → Option (Int32 × ZS)
  | 0 => fun _ _ _ _ => none
  | n + 1 => f_X6_isLike_15s (f_X6_isLike_15 n)
theorem w_X6_isLike_15 {p : Program} {l : Launch} {e : Env} {s : State} {m : MethodId} {args : Array Value} {below : List Frame} {meth : Method} {c : Code} {Q : State → Prop} {D : va_G} {y : Nat → ClassId} {A0 : Nat → Prop} {o : Int32 × ZS} (X : CallFix p m c cX6_isLike 3 s args wsX6_isLike RX6) (hret : zRi p l e ({ frames := 1, cells := 0, slots := 0, locals := 21 } : Room) s m args below meth c Q cX6_isLike D y A0 .boolean o) (n : Nat) : ∀ (x0 : Nat) (x1 : Nat) (x2 : Int32) (S : ZS) (H : Heap) (locs : List Loc) (ls : Array Slot), f_X6_isLike_15 n x0 x1 x2 S = some o → zH D y A0 s H locs S → lv_has ls 3 [(0, .ref (zh y x0)), (1, .ref (zh y x1)), (2, .int x2)] → W p l e ({ frames := 1, cells := 0, slots := 0, locals := 21 } : Room) s m args below meth c H locs 0 0 Q (F0 m 15 ls []) := by
  induction n with
  | zero => intro x0 x1 x2 S H locs ls hf; cases hf
  | succ n ih => intro x0 x1 x2 S H locs ls hf hM hl; exact ws_X6_isLike_15 X hret (self15 := f_X6_isLike_15 n) ih hf hM hl
noncomputable def f_X6_isLike_0 (x0 : Nat) (x1 : Nat) (S : ZS) : Option (Int32 × ZS) :=
  m_chk (zK S x0 = 6) (
  m_chk (zK S x1 = 6) (
  m_if ((zI S 1 x0) = (zI S 1 x1)) (
  f_X6_isLike_15 mFuel x0 x1 (0 : Int32) S
  ) (
  m_chk (vp_nar .boolean (0 : Int32) = (0 : Int32)) (some ((0 : Int32), S))
  )))

set_option maxRecDepth 100000 in
set_option maxHeartbeats 4000000 in
theorem w_X6_isLike_0 {p : Program} {l : Launch} {e : Env} {s : State} {m : MethodId} {args : Array Value} {below : List Frame} {meth : Method} {c : Code} {Q : State → Prop} {D : va_G} {y : Nat → ClassId} {A0 : Nat → Prop} {o : Int32 × ZS} (X : CallFix p m c cX6_isLike 3 s args wsX6_isLike RX6) (hret : zRi p l e ({ frames := 1, cells := 0, slots := 0, locals := 21 } : Room) s m args below meth c Q cX6_isLike D y A0 .boolean o) {x0 : Nat} {x1 : Nat} {S : ZS} {H : Heap} {locs : List Loc} {ls : Array Slot} (hf : f_X6_isLike_0 x0 x1 S = some o) (hM : zH D y A0 s H locs S) (hl : lv_has ls 3 [(0, .ref (zh y x0)), (1, .ref (zh y x1))]) : W p l e ({ frames := 1, cells := 0, slots := 0, locals := 21 } : Room) s m args below meth c H locs 0 0 Q (F0 m 0 ls []) := by
  obtain ⟨hx, hb, hml, hown, hts⟩ := id X
  unfold f_X6_isLike_0 at hf
  refine lv_aload_n hx hb dX6_isLike_0 rfl (lv_at hl 0 rfl) ?_
  obtain ⟨ca, hf⟩ := m_chkE hf
  replace ca := z_in hM (by decide) ca
  refine z_get (k := 6) (j := 1) (C := RX6) (T := TX6) (N := 2) (fl := zf_6) (v := .int (zI S 1 x0)) X hw_X6_isLike_6 hM rfl zc_6 ca (by decide) fl_X6_isLike_6_1 rfl dX6_isLike_1 ?_
  clear ca
  refine lv_aload_n hx hb dX6_isLike_4 rfl (lv_at hl 1 rfl) ?_
  obtain ⟨ca, hf⟩ := m_chkE hf
  replace ca := z_in hM (by decide) ca
  refine z_get (k := 6) (j := 1) (C := RX6) (T := TX6) (N := 2) (fl := zf_6) (v := .int (zI S 1 x1)) X hw_X6_isLike_6 hM rfl zc_6 ca (by decide) fl_X6_isLike_6_1 rfl dX6_isLike_5 ?_
  clear ca
  refine lv_icmp_eq (tgt := 13) hx hb dX6_isLike_8 (by decide) (fun cc1 => ?_) (fun cc1 => ?_)
  · replace hf := m_ifT hf cc1
    refine lv_iconst (v := (0 : Int32)) hx hb dX6_isLike_13 (by decide) ?_
    refine lv_istore_n (lv' := [(2, .int (0 : Int32)), (0, .ref (zh y x0)), (1, .ref (zh y x1))]) hx hb dX6_isLike_14 rfl hl (by decide) rfl (fun ls hl => ?_)
    exact w_X6_isLike_15 X hret _ x0 x1 (0 : Int32) _ _ _ _ hf hM (lv_sub hl [1, 2, 0] rfl)
  · replace hf := m_ifF hf cc1
    refine lv_iconst (v := (0 : Int32)) hx hb dX6_isLike_11 (by decide) ?_
    obtain ⟨cd, hf⟩ := m_chkE hf
    cases hf
    exact hret H locs _ ls hM (m_nb cd) dX6_isLike_12
noncomputable def f_X6_isLike (x0 : Nat) (x1 : Nat) (S : ZS) : Option (Int32 × ZS) := f_X6_isLike_0 x0 x1 S
theorem c_X6_isLike {l : Launch} {D : va_G} {y : Nat → ClassId} {x0 : Nat} {x1 : Nat} {S : ZS} {o : Int32 × ZS} (hf : f_X6_isLike x0 x1 S = some o) : zMi l yX6_isLike wsX6_isLike ({ frames := 1, cells := 0, slots := 0, locals := 21 } : Room) [.ref (zh y x0), .ref (zh y x1)] D y S o :=
  z_entryI (own := RX6) (cc := cX6_isLike) (maxL := 3) (by decide) rfl rfl (Nat.le_of_ble_eq_true rfl) (fun p e s m args below meth c A0 Q H locs ls X hret hM hl => w_X6_isLike_0 X hret hf hM (lv_sub hl [0, 1] rfl))
theorem hd_X1_hasTag : yX1_hasTag.cls = RX1 ∧ yX1_hasTag.cls ≠ "java/lang/invoke/MethodHandle" ∧ yX1_hasTag.cls ≠ "java/lang/invoke/VarHandle" ∧ (parseMethodDescriptor yX1_hasTag.desc).map (fun d => d.parameters.length) = some 1 := by decide +kernel
theorem fl_X1_hasTag_10_0 : Cond.fieldLink RX1 89 "MoveTexts$Tag" "name" "LMoveTexts$Row;" ∈ wsX1_hasTag := by decide +kernel
theorem fl_X1_hasTag_1_5 : Cond.fieldLink RX1 39 "MoveTexts$Game" "tagCount" "I" ∈ wsX1_hasTag := by decide +kernel
theorem hw_X1_hasTag_1 : ∀ w ∈ wsX10, w ∈ wsX1_hasTag := by decide +kernel
theorem hw_X1_hasTag_10 : ∀ w ∈ wsX100, w ∈ wsX1_hasTag := by decide +kernel
noncomputable def g_X1_hasTag_2s (Pw : Int32 → ZS → Prop) (self2 : Nat → Nat → Int32 → ZS → Nat → Nat → Prop) (x0 : Nat) (x1 : Nat) (x2 : Int32) (S : ZS) (C T : Nat) : Prop :=
  m_chkQ (zK S x0 = 1) (
  m_ifQ ((zI S 5 x0) ≤ x2) (
  m_chkQ (vp_nar .boolean (0 : Int32) = (0 : Int32)) (Pw (0 : Int32) S)
  ) (
  m_chkQ (zK S x0 = 1) (
  m_galN (C) (T) (fun mc ms Pw => g_X1_tagAt x0 x2 S mc ms Pw) (fun r2 S3 C4 T5 =>
  m_chkQ (zK S3 r2 = 10) (
  m_calP (zP S3 0 r2) (fun b6 =>
  m_chkQ (zK S3 b6 = 6) (
  m_calP (f_X6_isLike b6 x1 S3) (fun o7 =>
  m_ifQ (o7.1 = 0) (
  m_bndP (x2 + (1 : Int32)) (fun v8 =>
  self2 x0 x1 v8 o7.2 (C4) (T5))
  ) (
  m_chkQ (vp_nar .boolean (1 : Int32) = (1 : Int32)) (Pw (1 : Int32) o7.2)
  )))))))
  ))

set_option maxRecDepth 100000 in
set_option maxHeartbeats 4000000 in
theorem ws_X1_hasTag_2 {p : Program} {l : Launch} {e : Env} {s : State} {m : MethodId} {args : Array Value} {below : List Frame} {meth : Method} {c : Code} {Q : State → Prop} {D : va_G} {y : Nat → ClassId} {A0 : Nat → Prop} {kc kt : Nat} {Pw : Int32 → ZS → Prop} (X : CallFix p m c cX1_hasTag 3 s args wsX1_hasTag RX1) (hret : zQi p l e ({ frames := 4, cells := kc, slots := kt, locals := 86 } : Room) s m args below meth c Q cX1_hasTag D y A0 .boolean Pw) {self2 : Nat → Nat → Int32 → ZS → Nat → Nat → Prop} (hself2 : ∀ (x0 : Nat) (x1 : Nat) (x2 : Int32) (S : ZS) (C T : Nat) (H : Heap) (locs : List Loc) (ls : Array Slot), self2 x0 x1 x2 S C T → C ≤ kc ∧ T ≤ kt → zH D y A0 s H locs S → lv_has ls 3 [(0, .ref (zh y x0)), (1, .ref (zh y x1)), (2, .int x2)] → W p l e ({ frames := 4, cells := kc, slots := kt, locals := 86 } : Room) s m args below meth c H locs (kc - C) (kt - T) Q (F0 m 2 ls [])) {x0 : Nat} {x1 : Nat} {x2 : Int32} {S : ZS} {C T : Nat} {H : Heap} {locs : List Loc} {ls : Array Slot} (hf : g_X1_hasTag_2s Pw self2 x0 x1 x2 S C T) (hCT : C ≤ kc ∧ T ≤ kt) (hM : zH D y A0 s H locs S) (hl : lv_has ls 3 [(0, .ref (zh y x0)), (1, .ref (zh y x1)), (2, .int x2)]) : W p l e ({ frames := 4, cells := kc, slots := kt, locals := 86 } : Room) s m args below meth c H locs (kc - C) (kt - T) Q (F0 m 2 ls []) := by
  obtain ⟨hx, hb, hml, hown, hts⟩ := id X
  unfold g_X1_hasTag_2s at hf
  refine lv_iload_n hx hb dX1_hasTag_2 rfl (lv_at hl 2 rfl) ?_
  refine lv_aload_n hx hb dX1_hasTag_3 rfl (lv_at hl 0 rfl) ?_
  obtain ⟨ca, hf⟩ := m_chkPE hf
  replace ca := z_in hM (by decide) ca
  refine z_get (k := 1) (j := 5) (C := RX1) (T := TX1) (N := 8) (fl := zf_1) (v := .int (zI S 5 x0)) X hw_X1_hasTag_1 hM rfl zc_1 ca (by decide) fl_X1_hasTag_1_5 rfl dX1_hasTag_4 ?_
  clear ca
  refine lv_icmp_ge (tgt := 33) hx hb dX1_hasTag_7 (by decide) (fun cc1 => ?_) (fun cc1 => ?_)
  · replace hf := m_ifPT hf cc1
    refine lv_iconst (v := (0 : Int32)) hx hb dX1_hasTag_33 (by decide) ?_
    obtain ⟨cd, hf⟩ := m_chkPE hf
    exact hret _ _ _ _ H locs _ ls hf hM (m_nb cd) dX1_hasTag_34
  · replace hf := m_ifPF hf cc1
    refine lv_aload_n hx hb dX1_hasTag_10 rfl (lv_at hl 0 rfl) ?_
    refine lv_iload_n hx hb dX1_hasTag_11 rfl (lv_at hl 2 rfl) ?_
    obtain ⟨ca, hf⟩ := m_chkPE hf
    replace ca := z_in hM (by decide) ca
    obtain ⟨mc, ms, hcm, ho⟩ := m_galNE hf
    refine z_wcallVr (k := 1) (C := RX1) (T := TX1) (N := 8) (fl := zf_1) X hM rfl zc_1 ca (c_X1_tagAt ho) gX1_hasTag_X1_tagAt rfl ⟨rfl, rfl⟩ ⟨by show kc - (C) + mc ≤ kc; omega, by show kt - (T) + ms ≤ kt; omega⟩ hd_X1_tagAt ⟨Nat.le_of_ble_eq_true rfl, Nat.le_of_ble_eq_true rfl⟩ rfl hl.1 rfl (Nat.le_of_ble_eq_true rfl) dX1_hasTag_12 (fun r2 S3 H locs hf hM => ?_)
    refine z_eqCS (c2 := kc - (C - mc)) (t2 := kt - (T - ms)) (by omega) (by omega) ?_
    replace hCT : C - mc ≤ kc ∧ T - ms ≤ kt := by omega
    generalize C - mc = C4 at hf hCT ⊢
    generalize T - ms = T5 at hf hCT ⊢
    clear ho hcm
    obtain ⟨ca, hf⟩ := m_chkPE hf
    replace ca := z_in hM (by decide) ca
    refine z_get (k := 10) (j := 0) (C := RX10) (T := TX10) (N := 2) (fl := zf_10) (v := va_rf ((zP S3 0 r2).map (zh y))) X hw_X1_hasTag_10 hM rfl zc_10 ca (by decide) fl_X1_hasTag_10_0 rfl dX1_hasTag_15 ?_
    clear ca
    obtain ⟨b6, hb9, hf⟩ := m_calPE hf
    refine z_topr hb9 ?_
    clear hb9
    refine lv_aload_n hx hb dX1_hasTag_18 rfl (lv_at hl 1 rfl) ?_
    obtain ⟨ca, hf⟩ := m_chkPE hf
    replace ca := z_in hM (by decide) ca
    obtain ⟨o7, ho, hf⟩ := m_calPE hf
    refine z_gcallVi (k := 6) (C := RX6) (T := TX6) (N := 2) (fl := zf_6) X hM rfl zc_6 ca (c_X6_isLike ho) gX1_hasTag_X6_isLike rfl ⟨rfl, rfl⟩ hd_X6_isLike ⟨Nat.le_of_ble_eq_true rfl, Nat.le_of_ble_eq_true rfl⟩ rfl hl.1 rfl ⟨Nat.sub_le _ _, Nat.sub_le _ _⟩ (Nat.le_of_ble_eq_true rfl) dX1_hasTag_19 (fun H locs hM => ?_)
    clear ho
    refine lv_if_eq (tgt := 27) hx hb dX1_hasTag_22 (by decide) (fun cc1 => ?_) (fun cc1 => ?_)
    · replace hf := m_ifPT hf cc1
      obtain ⟨v8, ev, hf⟩ := m_bndPE hf
      refine lv_iinc (v := v8) (lv' := [(2, .int v8), (0, .ref (zh y x0)), (1, .ref (zh y x1))]) hx hb dX1_hasTag_27 hl (k := 2) rfl (by rw [ev]; rfl) (by decide) rfl (fun ls hl => ?_)
      clear ev
      refine lv_goto (tgt := 2) hx hb dX1_hasTag_30 (by decide) ?_
      exact hself2 x0 x1 v8 _ _ _ _ _ _ hf hCT hM (lv_sub hl [1, 2, 0] rfl)
    · replace hf := m_ifPF hf cc1
      refine lv_iconst (v := (1 : Int32)) hx hb dX1_hasTag_25 (by decide) ?_
      obtain ⟨cd, hf⟩ := m_chkPE hf
      exact hret _ _ _ _ H locs _ ls hf hM (m_nb cd) dX1_hasTag_26
noncomputable def g_X1_hasTag_2 (Pw : Int32 → ZS → Prop) : Nat → Nat → Nat → Int32 → ZS → Nat → Nat → Prop
  | 0 => fun _ _ _ _ _ _ => False
  | n + 1 => g_X1_hasTag_2s Pw (g_X1_hasTag_2 Pw n)
theorem w_X1_hasTag_2 {p : Program} {l : Launch} {e : Env} {s : State} {m : MethodId} {args : Array Value} {below : List Frame} {meth : Method} {c : Code} {Q : State → Prop} {D : va_G} {y : Nat → ClassId} {A0 : Nat → Prop} {kc kt : Nat} {Pw : Int32 → ZS → Prop} (X : CallFix p m c cX1_hasTag 3 s args wsX1_hasTag RX1) (hret : zQi p l e ({ frames := 4, cells := kc, slots := kt, locals := 86 } : Room) s m args below meth c Q cX1_hasTag D y A0 .boolean Pw) (n : Nat) : ∀ (x0 : Nat) (x1 : Nat) (x2 : Int32) (S : ZS) (C T : Nat) (H : Heap) (locs : List Loc) (ls : Array Slot), g_X1_hasTag_2 Pw n x0 x1 x2 S C T → C ≤ kc ∧ T ≤ kt → zH D y A0 s H locs S → lv_has ls 3 [(0, .ref (zh y x0)), (1, .ref (zh y x1)), (2, .int x2)] → W p l e ({ frames := 4, cells := kc, slots := kt, locals := 86 } : Room) s m args below meth c H locs (kc - C) (kt - T) Q (F0 m 2 ls []) := by
  induction n with
  | zero => intro x0 x1 x2 S C T H locs ls hf; exact absurd hf id
  | succ n ih => intro x0 x1 x2 S C T H locs ls hf hCT hM hl; exact ws_X1_hasTag_2 X hret (self2 := g_X1_hasTag_2 Pw n) ih hf hCT hM hl
noncomputable def g_X1_hasTag_0 (Pw : Int32 → ZS → Prop) (x0 : Nat) (x1 : Nat) (S : ZS) (C T : Nat) : Prop :=
  g_X1_hasTag_2 Pw mFuel x0 x1 (0 : Int32) S (C) (T)

set_option maxRecDepth 100000 in
set_option maxHeartbeats 4000000 in
theorem w_X1_hasTag_0 {p : Program} {l : Launch} {e : Env} {s : State} {m : MethodId} {args : Array Value} {below : List Frame} {meth : Method} {c : Code} {Q : State → Prop} {D : va_G} {y : Nat → ClassId} {A0 : Nat → Prop} {kc kt : Nat} {Pw : Int32 → ZS → Prop} (X : CallFix p m c cX1_hasTag 3 s args wsX1_hasTag RX1) (hret : zQi p l e ({ frames := 4, cells := kc, slots := kt, locals := 86 } : Room) s m args below meth c Q cX1_hasTag D y A0 .boolean Pw) {x0 : Nat} {x1 : Nat} {S : ZS} {C T : Nat} {H : Heap} {locs : List Loc} {ls : Array Slot} (hf : g_X1_hasTag_0 Pw x0 x1 S C T) (hCT : C ≤ kc ∧ T ≤ kt) (hM : zH D y A0 s H locs S) (hl : lv_has ls 3 [(0, .ref (zh y x0)), (1, .ref (zh y x1))]) : W p l e ({ frames := 4, cells := kc, slots := kt, locals := 86 } : Room) s m args below meth c H locs (kc - C) (kt - T) Q (F0 m 0 ls []) := by
  obtain ⟨hx, hb, hml, hown, hts⟩ := id X
  unfold g_X1_hasTag_0 at hf
  refine lv_iconst (v := (0 : Int32)) hx hb dX1_hasTag_0 (by decide) ?_
  refine lv_istore_n (lv' := [(2, .int (0 : Int32)), (0, .ref (zh y x0)), (1, .ref (zh y x1))]) hx hb dX1_hasTag_1 rfl hl (by decide) rfl (fun ls hl => ?_)
  exact w_X1_hasTag_2 X hret _ x0 x1 (0 : Int32) _ _ _ _ _ _ hf hCT hM (lv_sub hl [1, 2, 0] rfl)
noncomputable def g_X1_hasTag (x0 : Nat) (x1 : Nat) (S : ZS) (mc ms : Nat) (Pw : Int32 → ZS → Prop) : Prop := g_X1_hasTag_0 Pw x0 x1 S mc ms
theorem c_X1_hasTag {l : Launch} {D : va_G} {y : Nat → ClassId} {x0 : Nat} {x1 : Nat} {S : ZS} {kc kt : Nat} {Pw : Int32 → ZS → Prop} (hf : g_X1_hasTag x0 x1 S kc kt Pw) : zWi l yX1_hasTag wsX1_hasTag ({ frames := 4, cells := kc, slots := kt, locals := 86 } : Room) [.ref (zh y x0), .ref (zh y x1)] D y S kc kt Pw :=
  z_wentI (own := RX1) (cc := cX1_hasTag) (maxL := 3) (by decide) rfl rfl (Nat.le_of_ble_eq_true rfl) ⟨rfl, rfl⟩ (fun p e s m args below meth c A0 Q H locs ls X hret hM hl => w_X1_hasTag_0 X hret hf ⟨Nat.le_refl _, Nat.le_refl _⟩ hM (lv_sub hl [0, 1] rfl))
theorem hd_X6_put : yX6_put.cls = RX6 ∧ yX6_put.cls ≠ "java/lang/invoke/MethodHandle" ∧ yX6_put.cls ≠ "java/lang/invoke/VarHandle" ∧ (parseMethodDescriptor yX6_put.desc).map (fun d => d.parameters.length) = some 1 := by decide +kernel
theorem ac_X6_put : (Cond.methodLink RX6 20 arraycopyName ∈ wsX6_put ∧ Cond.native arraycopyName ∈ wsX6_put) ∧ Cond.static arraycopyName ∈ wsX6_put ∧ Cond.initialized "java/lang/System" ∈ wsX6_put := by decide +kernel
theorem ar_X6_put_char : Cond.arrayClass .char ∈ wsX6_put := by decide +kernel
theorem fl_X6_put_6_0 : Cond.fieldLink RX6 13 "MoveTexts$Row" "chars" "[C" ∈ wsX6_put := by decide +kernel
theorem fl_X6_put_6_1 : Cond.fieldLink RX6 16 "MoveTexts$Row" "length" "I" ∈ wsX6_put := by decide +kernel
theorem hw_X6_put_6 : ∀ w ∈ wsX60, w ∈ wsX6_put := by decide +kernel
noncomputable def g_X6_put_43 (Pw : Int32 → ZS → Prop) (x0 : Nat) (x1 : Int32) (S : ZS) (C T : Nat) : Prop :=
  m_chkQ (zK S x0 = 6) (
  m_calP (zP S 0 x0) (fun b1 =>
  m_chkQ (zK S x0 = 6) (
  m_chkQ (zK S b1 = 13) (
  m_chkQ (¬ ((zI S 1 x0) < 0 ∨ zN S b1 ≤ ((zI S 1 x0)).toNatClampNeg)) (
  m_bndP (zsA S b1 ((zI S 1 x0)).toNatClampNeg (vp_nar .char x1)) (fun S2 =>
  m_chkQ (zK S2 x0 = 6) (
  m_bndP ((zI S2 1 x0) + (1 : Int32)) (fun v3 =>
  m_chkQ (zK S2 x0 = 6) (
  m_bndP (zsI S2 1 x0 v3) (fun S4 =>
  Pw 0 S4))))))))))

set_option maxRecDepth 100000 in
set_option maxHeartbeats 4000000 in
theorem w_X6_put_43 {p : Program} {l : Launch} {e : Env} {s : State} {m : MethodId} {args : Array Value} {below : List Frame} {meth : Method} {c : Code} {Q : State → Prop} {D : va_G} {y : Nat → ClassId} {A0 : Nat → Prop} {kc kt : Nat} {Pw : Int32 → ZS → Prop} (X : CallFix p m c cX6_put 3 s args wsX6_put RX6) (hret : zQv p l e ({ frames := 1, cells := kc, slots := kt, locals := 60 } : Room) s m args below meth c Q cX6_put D y A0 Pw) {x0 : Nat} {x1 : Int32} {S : ZS} {C T : Nat} {H : Heap} {locs : List Loc} {ls : Array Slot} (hf : g_X6_put_43 Pw x0 x1 S C T) (hCT : C ≤ kc ∧ T ≤ kt) (hM : zH D y A0 s H locs S) (hl : lv_has ls 3 [(0, .ref (zh y x0)), (1, .int x1)]) : W p l e ({ frames := 1, cells := kc, slots := kt, locals := 60 } : Room) s m args below meth c H locs (kc - C) (kt - T) Q (F0 m 43 ls []) := by
  obtain ⟨hx, hb, hml, hown, hts⟩ := id X
  unfold g_X6_put_43 at hf
  refine lv_aload_n hx hb dX6_put_43 rfl (lv_at hl 0 rfl) ?_
  obtain ⟨ca, hf⟩ := m_chkPE hf
  replace ca := z_in hM (by decide) ca
  refine z_get (k := 6) (j := 0) (C := RX6) (T := TX6) (N := 2) (fl := zf_6) (v := va_rf ((zP S 0 x0).map (zh y))) X hw_X6_put_6 hM rfl zc_6 ca (by decide) fl_X6_put_6_0 rfl dX6_put_44 ?_
  clear ca
  obtain ⟨b1, hb9, hf⟩ := m_calPE hf
  refine z_topr hb9 ?_
  clear hb9
  refine lv_aload_n hx hb dX6_put_47 rfl (lv_at hl 0 rfl) ?_
  obtain ⟨ca, hf⟩ := m_chkPE hf
  replace ca := z_in hM (by decide) ca
  refine z_get (k := 6) (j := 1) (C := RX6) (T := TX6) (N := 2) (fl := zf_6) (v := .int (zI S 1 x0)) X hw_X6_put_6 hM rfl zc_6 ca (by decide) fl_X6_put_6_1 rfl dX6_put_48 ?_
  clear ca
  refine lv_iload_n hx hb dX6_put_51 rfl (lv_at hl 1 rfl) ?_
  obtain ⟨ca, hf⟩ := m_chkPE hf
  replace ca := z_in hM (by decide) ca
  obtain ⟨cd, hf⟩ := m_chkPE hf
  refine z_cast X hM ca cd dX6_put_52 (fun H locs hM => ?_)
  clear ca cd
  obtain ⟨S2, ev, hf⟩ := m_bndPE hf
  replace hM := z_hS hM ev
  clear ev
  refine lv_aload_n hx hb dX6_put_53 rfl (lv_at hl 0 rfl) ?_
  refine lv_dup hx hb dX6_put_54 rfl ?_
  obtain ⟨ca, hf⟩ := m_chkPE hf
  replace ca := z_in hM (by decide) ca
  refine z_get (k := 6) (j := 1) (C := RX6) (T := TX6) (N := 2) (fl := zf_6) (v := .int (zI S2 1 x0)) X hw_X6_put_6 hM rfl zc_6 ca (by decide) fl_X6_put_6_1 rfl dX6_put_55 ?_
  clear ca
  refine lv_iconst (v := (1 : Int32)) hx hb dX6_put_58 (by decide) ?_
  refine lv_iadd hx hb dX6_put_59 ?_
  obtain ⟨v3, ev, hf⟩ := m_bndPE hf
  refine m_top ev ?_
  clear ev
  obtain ⟨ca, hf⟩ := m_chkPE hf
  replace ca := z_in hM (by decide) ca
  refine z_putI (k := 6) (j := 1) (C := RX6) (T := TX6) (N := 2) (fl := zf_6) (ty := .int) X hw_X6_put_6 tyX6_ok nmX6 hM rfl zc_6 ca (by decide) fl_X6_put_6_1 rfl (tyX6_ok 1 (by decide)) rfl rfl zi_6_1 (Nat.le_of_ble_eq_true rfl) dX6_put_60 (fun H locs hM => ?_)
  clear ca
  obtain ⟨S4, ev, hf⟩ := m_bndPE hf
  replace hM := z_hS hM ev
  clear ev
  exact hret _ _ _ H locs _ ls hf hM dX6_put_63
noncomputable def g_X6_put_0 (Pw : Int32 → ZS → Prop) (x0 : Nat) (x1 : Int32) (S : ZS) (C T : Nat) : Prop :=
  m_chkQ (zK S x0 = 6) (
  m_chkQ (zK S x0 = 6) (
  m_calP (zP S 0 x0) (fun b1 =>
  m_chkQ (b1 = 0 ∨ zK S b1 = 13) (
  m_bndP (Int32.ofNat (if b1 = 0 then 0 else zN S b1)) (fun v2 =>
  m_ifQ ((zI S 1 x0) < v2) (
  g_X6_put_43 Pw x0 x1 S (C) (T)
  ) (
  m_chkQ (zK S x0 = 6) (
  m_bndP ((2 : Int32) * (zI S 1 x0)) (fun v3 =>
  m_bndP (v3 + (8 : Int32)) (fun v4 =>
  m_chkQ (¬ v4 < 0 ∧ (v4).toNatClampNeg * componentBytes .char ≤ 536870912) (
  m_newP (C) (T) (v4).toNatClampNeg (zt S) (fun q5 C7 T8 =>
  m_bndP (zsNewA S q5 13 (v4).toNatClampNeg) (fun S6 =>
  m_chkQ (zK S6 x0 = 6) (
  m_calP (zP S6 0 x0) (fun b9 =>
  m_chkQ (zK S6 x0 = 6) (
  m_chkQ (zK S6 q5 = 13) (
  m_chkQ ((b9 = 0 ∧ (zI S6 1 x0) = 0) ∨ (zK S6 b9 = 13 ∧ ¬ b9 = 0 ∧ ¬ (zI S6 1 x0) < 0 ∧ ((zI S6 1 x0)).toNatClampNeg ≤ zN S6 b9 ∧ ((zI S6 1 x0)).toNatClampNeg ≤ zN S6 q5 ∧ ∀ i, i < ((zI S6 1 x0)).toNatClampNeg → fits .char (.int (zA S6 b9 i)) = true)) (
  m_bndP (zsD S6 b9 q5 0 0 ((zI S6 1 x0)).toNatClampNeg) (fun S10 =>
  m_chkQ (zK S10 x0 = 6) (
  m_bndP (zsP S10 0 x0 (some q5)) (fun S11 =>
  g_X6_put_43 Pw x0 x1 S11 (C7) (T8)))))))))))))))
  ))))))

set_option maxRecDepth 100000 in
set_option maxHeartbeats 4000000 in
theorem w_X6_put_0 {p : Program} {l : Launch} {e : Env} {s : State} {m : MethodId} {args : Array Value} {below : List Frame} {meth : Method} {c : Code} {Q : State → Prop} {D : va_G} {y : Nat → ClassId} {A0 : Nat → Prop} {kc kt : Nat} {Pw : Int32 → ZS → Prop} (X : CallFix p m c cX6_put 3 s args wsX6_put RX6) (hret : zQv p l e ({ frames := 1, cells := kc, slots := kt, locals := 60 } : Room) s m args below meth c Q cX6_put D y A0 Pw) {x0 : Nat} {x1 : Int32} {S : ZS} {C T : Nat} {H : Heap} {locs : List Loc} {ls : Array Slot} (hf : g_X6_put_0 Pw x0 x1 S C T) (hCT : C ≤ kc ∧ T ≤ kt) (hM : zH D y A0 s H locs S) (hl : lv_has ls 3 [(0, .ref (zh y x0)), (1, .int x1)]) : W p l e ({ frames := 1, cells := kc, slots := kt, locals := 60 } : Room) s m args below meth c H locs (kc - C) (kt - T) Q (F0 m 0 ls []) := by
  obtain ⟨hx, hb, hml, hown, hts⟩ := id X
  unfold g_X6_put_0 at hf
  refine lv_aload_n hx hb dX6_put_0 rfl (lv_at hl 0 rfl) ?_
  obtain ⟨ca, hf⟩ := m_chkPE hf
  replace ca := z_in hM (by decide) ca
  refine z_get (k := 6) (j := 1) (C := RX6) (T := TX6) (N := 2) (fl := zf_6) (v := .int (zI S 1 x0)) X hw_X6_put_6 hM rfl zc_6 ca (by decide) fl_X6_put_6_1 rfl dX6_put_1 ?_
  clear ca
  refine lv_aload_n hx hb dX6_put_4 rfl (lv_at hl 0 rfl) ?_
  obtain ⟨ca, hf⟩ := m_chkPE hf
  replace ca := z_in hM (by decide) ca
  refine z_get (k := 6) (j := 0) (C := RX6) (T := TX6) (N := 2) (fl := zf_6) (v := va_rf ((zP S 0 x0).map (zh y))) X hw_X6_put_6 hM rfl zc_6 ca (by decide) fl_X6_put_6_0 rfl dX6_put_5 ?_
  clear ca
  obtain ⟨b1, hb9, hf⟩ := m_calPE hf
  refine z_topr hb9 ?_
  clear hb9
  obtain ⟨ca, hf⟩ := m_chkPE hf
  refine z_alenC X hM ca dX6_put_8 ?_
  clear ca
  obtain ⟨v2, ev, hf⟩ := m_bndPE hf
  refine m_top ev ?_
  clear ev
  refine lv_icmp_lt (tgt := 43) hx hb dX6_put_9 (by decide) (fun cc1 => ?_) (fun cc1 => ?_)
  · replace hf := m_ifPT hf cc1
    exact w_X6_put_43 (x0 := x0) (x1 := x1) X hret hf hCT hM (lv_sub hl [0, 1] rfl)
  · replace hf := m_ifPF hf cc1
    refine lv_iconst (v := (2 : Int32)) hx hb dX6_put_12 (by decide) ?_
    refine lv_aload_n hx hb dX6_put_13 rfl (lv_at hl 0 rfl) ?_
    obtain ⟨ca, hf⟩ := m_chkPE hf
    replace ca := z_in hM (by decide) ca
    refine z_get (k := 6) (j := 1) (C := RX6) (T := TX6) (N := 2) (fl := zf_6) (v := .int (zI S 1 x0)) X hw_X6_put_6 hM rfl zc_6 ca (by decide) fl_X6_put_6_1 rfl dX6_put_14 ?_
    clear ca
    refine lv_imul hx hb dX6_put_17 ?_
    obtain ⟨v3, ev, hf⟩ := m_bndPE hf
    refine m_top ev ?_
    clear ev
    refine lv_bipush (v := (8 : Int32)) hx hb dX6_put_18 (by decide) ?_
    refine lv_iadd hx hb dX6_put_20 ?_
    obtain ⟨v4, ev, hf⟩ := m_bndPE hf
    refine m_top ev ?_
    clear ev
    obtain ⟨cd, hf⟩ := m_chkPE hf
    obtain ⟨hcm, ho⟩ := hf
    refine z_newC X hM ar_X6_put_char cd.1 cd.2 ⟨by show kc - (C) + 1 ≤ kc; omega, by show kt - (T) + _ ≤ kt; omega⟩ dX6_put_21 (fun q5 H hq hM => ?_)
    replace hf := ho q5 hq
    refine z_eqCS (c2 := kc - (C - 1)) (t2 := kt - (T - (v4).toNatClampNeg)) (by omega) (by omega) ?_
    replace hCT : C - 1 ≤ kc ∧ T - (v4).toNatClampNeg ≤ kt := by omega
    generalize C - 1 = C7 at hf hCT ⊢
    generalize T - (v4).toNatClampNeg = T8 at hf hCT ⊢
    obtain ⟨S6, ev, hf⟩ := m_bndPE hf
    replace hM := z_hS hM ev
    clear ev ho hcm cd hq
    refine lv_astore_n (lv' := [(2, .ref (zh y q5)), (0, .ref (zh y x0)), (1, .int x1)]) hx hb dX6_put_23 rfl hl (by decide) rfl (fun ls hl => ?_)
    refine lv_aload_n hx hb dX6_put_24 rfl (lv_at hl 1 rfl) ?_
    obtain ⟨ca, hf⟩ := m_chkPE hf
    replace ca := z_in hM (by decide) ca
    refine z_get (k := 6) (j := 0) (C := RX6) (T := TX6) (N := 2) (fl := zf_6) (v := va_rf ((zP S6 0 x0).map (zh y))) X hw_X6_put_6 hM rfl zc_6 ca (by decide) fl_X6_put_6_0 rfl dX6_put_25 ?_
    clear ca
    obtain ⟨b9, hb9, hf⟩ := m_calPE hf
    refine z_topr hb9 ?_
    clear hb9
    refine lv_iconst (v := (0 : Int32)) hx hb dX6_put_28 (by decide) ?_
    refine lv_aload_n hx hb dX6_put_29 rfl (lv_at hl 0 rfl) ?_
    refine lv_iconst (v := (0 : Int32)) hx hb dX6_put_30 (by decide) ?_
    refine lv_aload_n hx hb dX6_put_31 rfl (lv_at hl 1 rfl) ?_
    obtain ⟨ca, hf⟩ := m_chkPE hf
    replace ca := z_in hM (by decide) ca
    refine z_get (k := 6) (j := 1) (C := RX6) (T := TX6) (N := 2) (fl := zf_6) (v := .int (zI S6 1 x0)) X hw_X6_put_6 hM rfl zc_6 ca (by decide) fl_X6_put_6_1 rfl dX6_put_32 ?_
    clear ca
    obtain ⟨cb, hf⟩ := m_chkPE hf
    replace cb := z_in hM (by decide) cb
    obtain ⟨cd, hf⟩ := m_chkPE hf
    refine z_copyc X hM (by rw [hml]; exact hl.1.symm) ac_X6_put.1 ac_X6_put.2 cb cd (Nat.le_of_ble_eq_true rfl) (Nat.le_of_ble_eq_true rfl) dX6_put_35 (fun H locs hM => ?_)
    clear cb cd
    obtain ⟨S10, ev, hf⟩ := m_bndPE hf
    replace hM := z_hS hM ev
    clear ev
    refine lv_aload_n hx hb dX6_put_38 rfl (lv_at hl 1 rfl) ?_
    refine lv_aload_n hx hb dX6_put_39 rfl (lv_at hl 0 rfl) ?_
    obtain ⟨ca, hf⟩ := m_chkPE hf
    replace ca := z_in hM (by decide) ca
    refine z_putP (k := 6) (j := 0) (C := RX6) (T := TX6) (N := 2) (fl := zf_6) (ty := tyX6 0) X hw_X6_put_6 tyX6_ok nmX6 hM rfl zc_6 ca (by decide) fl_X6_put_6_0 rfl (tyX6_ok 0 (by decide)) rfl rfl zp_6_0 (Nat.le_of_ble_eq_true rfl) dX6_put_40 (fun H locs hM => ?_)
    clear ca
    obtain ⟨S11, ev, hf⟩ := m_bndPE hf
    replace hM := z_hS hM ev
    clear ev
    exact w_X6_put_43 (x0 := x0) (x1 := x1) X hret hf hCT hM (lv_sub hl [1, 2] rfl)
noncomputable def g_X6_put (x0 : Nat) (x1 : Int32) (S : ZS) (mc ms : Nat) (Pw : Int32 → ZS → Prop) : Prop := g_X6_put_0 Pw x0 x1 S mc ms
theorem c_X6_put {l : Launch} {D : va_G} {y : Nat → ClassId} {x0 : Nat} {x1 : Int32} {S : ZS} {kc kt : Nat} {Pw : Int32 → ZS → Prop} (hf : g_X6_put x0 x1 S kc kt Pw) : zWv l yX6_put wsX6_put ({ frames := 1, cells := kc, slots := kt, locals := 60 } : Room) [.ref (zh y x0), .int x1] D y S kc kt Pw :=
  z_wentV (own := RX6) (cc := cX6_put) (maxL := 3) (by decide) rfl rfl (Nat.le_of_ble_eq_true rfl) ⟨rfl, rfl⟩ (fun p e s m args below meth c A0 Q H locs ls X hret hM hl => w_X6_put_0 X hret hf ⟨Nat.le_refl _, Nat.le_refl _⟩ hM (lv_sub hl [0, 1] rfl))
theorem hd_X6_putAll : yX6_putAll.cls = RX6 ∧ yX6_putAll.cls ≠ "java/lang/invoke/MethodHandle" ∧ yX6_putAll.cls ≠ "java/lang/invoke/VarHandle" ∧ (parseMethodDescriptor yX6_putAll.desc).map (fun d => d.parameters.length) = some 1 := by decide +kernel
theorem fl_X6_putAll_6_1 : Cond.fieldLink RX6 16 "MoveTexts$Row" "length" "I" ∈ wsX6_putAll := by decide +kernel
theorem hw_X6_putAll_6 : ∀ w ∈ wsX60, w ∈ wsX6_putAll := by decide +kernel
noncomputable def g_X6_putAll_2s (Pw : Int32 → ZS → Prop) (self2 : Nat → Nat → Int32 → ZS → Nat → Nat → Prop) (x0 : Nat) (x1 : Nat) (x2 : Int32) (S : ZS) (C T : Nat) : Prop :=
  m_chkQ (zK S x1 = 6) (
  m_ifQ ((zI S 1 x1) ≤ x2) (
  Pw 0 S
  ) (
  m_chkQ (zK S x1 = 6) (
  m_calP (f_X6_at x1 x2 S) (fun o1 =>
  m_chkQ (zK o1.2 x0 = 6) (
  m_gal (C) (T) (fun mc ms Pw => g_X6_put x0 o1.1 o1.2 mc ms Pw) (fun r3 S4 C5 T6 =>
  m_bndP (x2 + (1 : Int32)) (fun v7 =>
  self2 x0 x1 v7 S4 (C5) (T6))))))
  ))

set_option maxRecDepth 100000 in
set_option maxHeartbeats 4000000 in
theorem ws_X6_putAll_2 {p : Program} {l : Launch} {e : Env} {s : State} {m : MethodId} {args : Array Value} {below : List Frame} {meth : Method} {c : Code} {Q : State → Prop} {D : va_G} {y : Nat → ClassId} {A0 : Nat → Prop} {kc kt : Nat} {Pw : Int32 → ZS → Prop} (X : CallFix p m c cX6_putAll 3 s args wsX6_putAll RX6) (hret : zQv p l e ({ frames := 2, cells := kc, slots := kt, locals := 82 } : Room) s m args below meth c Q cX6_putAll D y A0 Pw) {self2 : Nat → Nat → Int32 → ZS → Nat → Nat → Prop} (hself2 : ∀ (x0 : Nat) (x1 : Nat) (x2 : Int32) (S : ZS) (C T : Nat) (H : Heap) (locs : List Loc) (ls : Array Slot), self2 x0 x1 x2 S C T → C ≤ kc ∧ T ≤ kt → zH D y A0 s H locs S → lv_has ls 3 [(0, .ref (zh y x0)), (1, .ref (zh y x1)), (2, .int x2)] → W p l e ({ frames := 2, cells := kc, slots := kt, locals := 82 } : Room) s m args below meth c H locs (kc - C) (kt - T) Q (F0 m 2 ls [])) {x0 : Nat} {x1 : Nat} {x2 : Int32} {S : ZS} {C T : Nat} {H : Heap} {locs : List Loc} {ls : Array Slot} (hf : g_X6_putAll_2s Pw self2 x0 x1 x2 S C T) (hCT : C ≤ kc ∧ T ≤ kt) (hM : zH D y A0 s H locs S) (hl : lv_has ls 3 [(0, .ref (zh y x0)), (1, .ref (zh y x1)), (2, .int x2)]) : W p l e ({ frames := 2, cells := kc, slots := kt, locals := 82 } : Room) s m args below meth c H locs (kc - C) (kt - T) Q (F0 m 2 ls []) := by
  obtain ⟨hx, hb, hml, hown, hts⟩ := id X
  unfold g_X6_putAll_2s at hf
  refine lv_iload_n hx hb dX6_putAll_2 rfl (lv_at hl 2 rfl) ?_
  refine lv_aload_n hx hb dX6_putAll_3 rfl (lv_at hl 1 rfl) ?_
  obtain ⟨ca, hf⟩ := m_chkPE hf
  replace ca := z_in hM (by decide) ca
  refine z_get (k := 6) (j := 1) (C := RX6) (T := TX6) (N := 2) (fl := zf_6) (v := .int (zI S 1 x1)) X hw_X6_putAll_6 hM rfl zc_6 ca (by decide) fl_X6_putAll_6_1 rfl dX6_putAll_4 ?_
  clear ca
  refine lv_icmp_ge (tgt := 25) hx hb dX6_putAll_7 (by decide) (fun cc1 => ?_) (fun cc1 => ?_)
  · replace hf := m_ifPT hf cc1
    exact hret _ _ _ H locs _ ls hf hM dX6_putAll_25
  · replace hf := m_ifPF hf cc1
    refine lv_aload_n hx hb dX6_putAll_10 rfl (lv_at hl 0 rfl) ?_
    refine lv_aload_n hx hb dX6_putAll_11 rfl (lv_at hl 1 rfl) ?_
    refine lv_iload_n hx hb dX6_putAll_12 rfl (lv_at hl 2 rfl) ?_
    obtain ⟨ca, hf⟩ := m_chkPE hf
    replace ca := z_in hM (by decide) ca
    obtain ⟨o1, ho, hf⟩ := m_calPE hf
    refine z_gcallVi (k := 6) (C := RX6) (T := TX6) (N := 2) (fl := zf_6) X hM rfl zc_6 ca (c_X6_at ho) gX6_putAll_X6_at rfl ⟨rfl, rfl⟩ hd_X6_at ⟨Nat.le_of_ble_eq_true rfl, Nat.le_of_ble_eq_true rfl⟩ rfl hl.1 rfl ⟨Nat.sub_le _ _, Nat.sub_le _ _⟩ (Nat.le_of_ble_eq_true rfl) dX6_putAll_13 (fun H locs hM => ?_)
    clear ho
    obtain ⟨ca, hf⟩ := m_chkPE hf
    replace ca := z_in hM (by decide) ca
    obtain ⟨mc, ms, hcm, ho⟩ := m_galE hf
    refine z_wcallVv (k := 6) (C := RX6) (T := TX6) (N := 2) (fl := zf_6) X hM rfl zc_6 ca (c_X6_put ho) gX6_putAll_X6_put rfl ⟨rfl, rfl⟩ ⟨by show kc - (C) + mc ≤ kc; omega, by show kt - (T) + ms ≤ kt; omega⟩ hd_X6_put ⟨Nat.le_of_ble_eq_true rfl, Nat.le_of_ble_eq_true rfl⟩ rfl hl.1 rfl (Nat.le_of_ble_eq_true rfl) dX6_putAll_16 (fun S4 H locs hf hM => ?_)
    refine z_eqCS (c2 := kc - (C - mc)) (t2 := kt - (T - ms)) (by omega) (by omega) ?_
    replace hCT : C - mc ≤ kc ∧ T - ms ≤ kt := by omega
    generalize C - mc = C5 at hf hCT ⊢
    generalize T - ms = T6 at hf hCT ⊢
    clear ho hcm
    obtain ⟨v7, ev, hf⟩ := m_bndPE hf
    refine lv_iinc (v := v7) (lv' := [(2, .int v7), (0, .ref (zh y x0)), (1, .ref (zh y x1))]) hx hb dX6_putAll_19 hl (k := 2) rfl (by rw [ev]; rfl) (by decide) rfl (fun ls hl => ?_)
    clear ev
    refine lv_goto (tgt := 2) hx hb dX6_putAll_22 (by decide) ?_
    exact hself2 x0 x1 v7 _ _ _ _ _ _ hf hCT hM (lv_sub hl [1, 2, 0] rfl)
noncomputable def g_X6_putAll_2 (Pw : Int32 → ZS → Prop) : Nat → Nat → Nat → Int32 → ZS → Nat → Nat → Prop
  | 0 => fun _ _ _ _ _ _ => False
  | n + 1 => g_X6_putAll_2s Pw (g_X6_putAll_2 Pw n)
theorem w_X6_putAll_2 {p : Program} {l : Launch} {e : Env} {s : State} {m : MethodId} {args : Array Value} {below : List Frame} {meth : Method} {c : Code} {Q : State → Prop} {D : va_G} {y : Nat → ClassId} {A0 : Nat → Prop} {kc kt : Nat} {Pw : Int32 → ZS → Prop} (X : CallFix p m c cX6_putAll 3 s args wsX6_putAll RX6) (hret : zQv p l e ({ frames := 2, cells := kc, slots := kt, locals := 82 } : Room) s m args below meth c Q cX6_putAll D y A0 Pw) (n : Nat) : ∀ (x0 : Nat) (x1 : Nat) (x2 : Int32) (S : ZS) (C T : Nat) (H : Heap) (locs : List Loc) (ls : Array Slot), g_X6_putAll_2 Pw n x0 x1 x2 S C T → C ≤ kc ∧ T ≤ kt → zH D y A0 s H locs S → lv_has ls 3 [(0, .ref (zh y x0)), (1, .ref (zh y x1)), (2, .int x2)] → W p l e ({ frames := 2, cells := kc, slots := kt, locals := 82 } : Room) s m args below meth c H locs (kc - C) (kt - T) Q (F0 m 2 ls []) := by
  induction n with
  | zero => intro x0 x1 x2 S C T H locs ls hf; exact absurd hf id
  | succ n ih => intro x0 x1 x2 S C T H locs ls hf hCT hM hl; exact ws_X6_putAll_2 X hret (self2 := g_X6_putAll_2 Pw n) ih hf hCT hM hl
noncomputable def g_X6_putAll_0 (Pw : Int32 → ZS → Prop) (x0 : Nat) (x1 : Nat) (S : ZS) (C T : Nat) : Prop :=
  g_X6_putAll_2 Pw mFuel x0 x1 (0 : Int32) S (C) (T)

set_option maxRecDepth 100000 in
set_option maxHeartbeats 4000000 in
theorem w_X6_putAll_0 {p : Program} {l : Launch} {e : Env} {s : State} {m : MethodId} {args : Array Value} {below : List Frame} {meth : Method} {c : Code} {Q : State → Prop} {D : va_G} {y : Nat → ClassId} {A0 : Nat → Prop} {kc kt : Nat} {Pw : Int32 → ZS → Prop} (X : CallFix p m c cX6_putAll 3 s args wsX6_putAll RX6) (hret : zQv p l e ({ frames := 2, cells := kc, slots := kt, locals := 82 } : Room) s m args below meth c Q cX6_putAll D y A0 Pw) {x0 : Nat} {x1 : Nat} {S : ZS} {C T : Nat} {H : Heap} {locs : List Loc} {ls : Array Slot} (hf : g_X6_putAll_0 Pw x0 x1 S C T) (hCT : C ≤ kc ∧ T ≤ kt) (hM : zH D y A0 s H locs S) (hl : lv_has ls 3 [(0, .ref (zh y x0)), (1, .ref (zh y x1))]) : W p l e ({ frames := 2, cells := kc, slots := kt, locals := 82 } : Room) s m args below meth c H locs (kc - C) (kt - T) Q (F0 m 0 ls []) := by
  obtain ⟨hx, hb, hml, hown, hts⟩ := id X
  unfold g_X6_putAll_0 at hf
  refine lv_iconst (v := (0 : Int32)) hx hb dX6_putAll_0 (by decide) ?_
  refine lv_istore_n (lv' := [(2, .int (0 : Int32)), (0, .ref (zh y x0)), (1, .ref (zh y x1))]) hx hb dX6_putAll_1 rfl hl (by decide) rfl (fun ls hl => ?_)
  exact w_X6_putAll_2 X hret _ x0 x1 (0 : Int32) _ _ _ _ _ _ hf hCT hM (lv_sub hl [1, 2, 0] rfl)
noncomputable def g_X6_putAll (x0 : Nat) (x1 : Nat) (S : ZS) (mc ms : Nat) (Pw : Int32 → ZS → Prop) : Prop := g_X6_putAll_0 Pw x0 x1 S mc ms
theorem c_X6_putAll {l : Launch} {D : va_G} {y : Nat → ClassId} {x0 : Nat} {x1 : Nat} {S : ZS} {kc kt : Nat} {Pw : Int32 → ZS → Prop} (hf : g_X6_putAll x0 x1 S kc kt Pw) : zWv l yX6_putAll wsX6_putAll ({ frames := 2, cells := kc, slots := kt, locals := 82 } : Room) [.ref (zh y x0), .ref (zh y x1)] D y S kc kt Pw :=
  z_wentV (own := RX6) (cc := cX6_putAll) (maxL := 3) (by decide) rfl rfl (Nat.le_of_ble_eq_true rfl) ⟨rfl, rfl⟩ (fun p e s m args below meth c A0 Q H locs ls X hret hM hl => w_X6_putAll_0 X hret hf ⟨Nat.le_refl _, Nat.le_refl _⟩ hM (lv_sub hl [0, 1] rfl))
theorem hd_X6_copyFrom : yX6_copyFrom.cls = RX6 ∧ yX6_copyFrom.cls ≠ "java/lang/invoke/MethodHandle" ∧ yX6_copyFrom.cls ≠ "java/lang/invoke/VarHandle" ∧ (parseMethodDescriptor yX6_copyFrom.desc).map (fun d => d.parameters.length) = some 1 := by decide +kernel
theorem fl_X6_copyFrom_6_1 : Cond.fieldLink RX6 16 "MoveTexts$Row" "length" "I" ∈ wsX6_copyFrom := by decide +kernel
theorem hw_X6_copyFrom_6 : ∀ w ∈ wsX60, w ∈ wsX6_copyFrom := by decide +kernel
noncomputable def g_X6_copyFrom_0 (Pw : Int32 → ZS → Prop) (x0 : Nat) (x1 : Nat) (S : ZS) (C T : Nat) : Prop :=
  m_chkQ (zK S x0 = 6) (
  m_bndP (zsI S 1 x0 (0 : Int32)) (fun S1 =>
  m_chkQ (zK S1 x0 = 6) (
  m_gal (C) (T) (fun mc ms Pw => g_X6_putAll x0 x1 S1 mc ms Pw) (fun r3 S4 C5 T6 =>
  Pw 0 S4))))

set_option maxRecDepth 100000 in
set_option maxHeartbeats 4000000 in
theorem w_X6_copyFrom_0 {p : Program} {l : Launch} {e : Env} {s : State} {m : MethodId} {args : Array Value} {below : List Frame} {meth : Method} {c : Code} {Q : State → Prop} {D : va_G} {y : Nat → ClassId} {A0 : Nat → Prop} {kc kt : Nat} {Pw : Int32 → ZS → Prop} (X : CallFix p m c cX6_copyFrom 2 s args wsX6_copyFrom RX6) (hret : zQv p l e ({ frames := 3, cells := kc, slots := kt, locals := 104 } : Room) s m args below meth c Q cX6_copyFrom D y A0 Pw) {x0 : Nat} {x1 : Nat} {S : ZS} {C T : Nat} {H : Heap} {locs : List Loc} {ls : Array Slot} (hf : g_X6_copyFrom_0 Pw x0 x1 S C T) (hCT : C ≤ kc ∧ T ≤ kt) (hM : zH D y A0 s H locs S) (hl : lv_has ls 2 [(0, .ref (zh y x0)), (1, .ref (zh y x1))]) : W p l e ({ frames := 3, cells := kc, slots := kt, locals := 104 } : Room) s m args below meth c H locs (kc - C) (kt - T) Q (F0 m 0 ls []) := by
  obtain ⟨hx, hb, hml, hown, hts⟩ := id X
  unfold g_X6_copyFrom_0 at hf
  refine lv_aload_n hx hb dX6_copyFrom_0 rfl (lv_at hl 0 rfl) ?_
  refine lv_iconst (v := (0 : Int32)) hx hb dX6_copyFrom_1 (by decide) ?_
  obtain ⟨ca, hf⟩ := m_chkPE hf
  replace ca := z_in hM (by decide) ca
  refine z_putI (k := 6) (j := 1) (C := RX6) (T := TX6) (N := 2) (fl := zf_6) (ty := .int) X hw_X6_copyFrom_6 tyX6_ok nmX6 hM rfl zc_6 ca (by decide) fl_X6_copyFrom_6_1 rfl (tyX6_ok 1 (by decide)) rfl rfl zi_6_1 (Nat.le_of_ble_eq_true rfl) dX6_copyFrom_2 (fun H locs hM => ?_)
  clear ca
  obtain ⟨S1, ev, hf⟩ := m_bndPE hf
  replace hM := z_hS hM ev
  clear ev
  refine lv_aload_n hx hb dX6_copyFrom_5 rfl (lv_at hl 0 rfl) ?_
  refine lv_aload_n hx hb dX6_copyFrom_6 rfl (lv_at hl 1 rfl) ?_
  obtain ⟨ca, hf⟩ := m_chkPE hf
  replace ca := z_in hM (by decide) ca
  obtain ⟨mc, ms, hcm, ho⟩ := m_galE hf
  refine z_wcallVv (k := 6) (C := RX6) (T := TX6) (N := 2) (fl := zf_6) X hM rfl zc_6 ca (c_X6_putAll ho) gX6_copyFrom_X6_putAll rfl ⟨rfl, rfl⟩ ⟨by show kc - (C) + mc ≤ kc; omega, by show kt - (T) + ms ≤ kt; omega⟩ hd_X6_putAll ⟨Nat.le_of_ble_eq_true rfl, Nat.le_of_ble_eq_true rfl⟩ rfl hl.1 rfl (Nat.le_of_ble_eq_true rfl) dX6_copyFrom_7 (fun S4 H locs hf hM => ?_)
  refine z_eqCS (c2 := kc - (C - mc)) (t2 := kt - (T - ms)) (by omega) (by omega) ?_
  replace hCT : C - mc ≤ kc ∧ T - ms ≤ kt := by omega
  generalize C - mc = C5 at hf hCT ⊢
  generalize T - ms = T6 at hf hCT ⊢
  clear ho hcm
  exact hret _ _ _ H locs _ ls hf hM dX6_copyFrom_10
noncomputable def g_X6_copyFrom (x0 : Nat) (x1 : Nat) (S : ZS) (mc ms : Nat) (Pw : Int32 → ZS → Prop) : Prop := g_X6_copyFrom_0 Pw x0 x1 S mc ms
theorem c_X6_copyFrom {l : Launch} {D : va_G} {y : Nat → ClassId} {x0 : Nat} {x1 : Nat} {S : ZS} {kc kt : Nat} {Pw : Int32 → ZS → Prop} (hf : g_X6_copyFrom x0 x1 S kc kt Pw) : zWv l yX6_copyFrom wsX6_copyFrom ({ frames := 3, cells := kc, slots := kt, locals := 104 } : Room) [.ref (zh y x0), .ref (zh y x1)] D y S kc kt Pw :=
  z_wentV (own := RX6) (cc := cX6_copyFrom) (maxL := 2) (by decide) rfl rfl (Nat.le_of_ble_eq_true rfl) ⟨rfl, rfl⟩ (fun p e s m args below meth c A0 Q H locs ls X hret hM hl => w_X6_copyFrom_0 X hret hf ⟨Nat.le_refl _, Nat.le_refl _⟩ hM (lv_sub hl [0, 1] rfl))
theorem hd_X1_putTag : yX1_putTag.cls = RX1 ∧ yX1_putTag.cls ≠ "java/lang/invoke/MethodHandle" ∧ yX1_putTag.cls ≠ "java/lang/invoke/VarHandle" ∧ (parseMethodDescriptor yX1_putTag.desc).map (fun d => d.parameters.length) = some 2 := by decide +kernel
theorem fl_X1_putTag_10_0 : Cond.fieldLink RX1 89 "MoveTexts$Tag" "name" "LMoveTexts$Row;" ∈ wsX1_putTag := by decide +kernel
theorem fl_X1_putTag_10_1 : Cond.fieldLink RX1 102 "MoveTexts$Tag" "value" "LMoveTexts$Row;" ∈ wsX1_putTag := by decide +kernel
theorem fl_X1_putTag_1_4 : Cond.fieldLink RX1 35 "MoveTexts$Game" "tagRow" "[LMoveTexts$Tag;" ∈ wsX1_putTag := by decide +kernel
theorem fl_X1_putTag_1_5 : Cond.fieldLink RX1 39 "MoveTexts$Game" "tagCount" "I" ∈ wsX1_putTag := by decide +kernel
theorem hw_X1_putTag_1 : ∀ w ∈ wsX10, w ∈ wsX1_putTag := by decide +kernel
theorem hw_X1_putTag_10 : ∀ w ∈ wsX100, w ∈ wsX1_putTag := by decide +kernel
theorem ii_X1_putTag_84 : (RX1, 84, yX10_init, "MoveTexts") ∈ zNW ∧ Cond.initialized yX10_init.cls ∈ wsX1_putTag ∧ Cond.instanceMethod yX10_init ∈ wsX1_putTag := by decide +kernel
theorem nw_X1_putTag_33 : Cond.classLink RX1 33 RX10 ∈ wsX1_putTag ∧ Cond.instantiable RX10 2 ∈ wsX1_putTag ∧ Cond.initialized RX10 ∈ wsX1_putTag := by decide +kernel
noncomputable def g_X1_putTag_38 (Pw : Int32 → ZS → Prop) (x0 : Nat) (x1 : Nat) (x2 : Nat) (S : ZS) (C T : Nat) : Prop :=
  m_chkQ (zK S x0 = 1) (
  m_bndP ((zI S 5 x0) + (1 : Int32)) (fun v1 =>
  m_chkQ (zK S x0 = 1) (
  m_bndP (zsI S 5 x0 v1) (fun S2 =>
  m_chkQ (zK S2 x0 = 1) (
  m_bndP ((zI S2 5 x0) - (1 : Int32)) (fun v3 =>
  m_chkQ (zK S2 x0 = 1) (
  m_galN (C) (T) (fun mc ms Pw => g_X1_tagAt x0 v3 S2 mc ms Pw) (fun r5 S6 C7 T8 =>
  m_chkQ (zK S6 r5 = 10) (
  m_calP (zP S6 0 r5) (fun b9 =>
  m_chkQ (zK S6 b9 = 6) (
  m_gal (C7) (T8) (fun mc ms Pw => g_X6_copyFrom b9 x1 S6 mc ms Pw) (fun r11 S12 C13 T14 =>
  m_chkQ (zK S12 x0 = 1) (
  m_bndP ((zI S12 5 x0) - (1 : Int32)) (fun v15 =>
  m_chkQ (zK S12 x0 = 1) (
  m_galN (C13) (T14) (fun mc ms Pw => g_X1_tagAt x0 v15 S12 mc ms Pw) (fun r17 S18 C19 T20 =>
  m_chkQ (zK S18 r17 = 10) (
  m_calP (zP S18 1 r17) (fun b21 =>
  m_chkQ (zK S18 b21 = 6) (
  m_gal (C19) (T20) (fun mc ms Pw => g_X6_copyFrom b21 x2 S18 mc ms Pw) (fun r23 S24 C25 T26 =>
  Pw 0 S24))))))))))))))))))))

set_option maxRecDepth 100000 in
set_option maxHeartbeats 4000000 in
theorem w_X1_putTag_38 {p : Program} {l : Launch} {e : Env} {s : State} {m : MethodId} {args : Array Value} {below : List Frame} {meth : Method} {c : Code} {Q : State → Prop} {D : va_G} {y : Nat → ClassId} {A0 : Nat → Prop} {kc kt : Nat} {Pw : Int32 → ZS → Prop} (X : CallFix p m c cX1_putTag 3 s args wsX1_putTag RX1) (hret : zQv p l e ({ frames := 4, cells := kc, slots := kt, locals := 125 } : Room) s m args below meth c Q cX1_putTag D y A0 Pw) {x0 : Nat} {x1 : Nat} {x2 : Nat} {S : ZS} {C T : Nat} {H : Heap} {locs : List Loc} {ls : Array Slot} (hf : g_X1_putTag_38 Pw x0 x1 x2 S C T) (hCT : C ≤ kc ∧ T ≤ kt) (hM : zH D y A0 s H locs S) (hl : lv_has ls 3 [(0, .ref (zh y x0)), (1, .ref (zh y x1)), (2, .ref (zh y x2))]) : W p l e ({ frames := 4, cells := kc, slots := kt, locals := 125 } : Room) s m args below meth c H locs (kc - C) (kt - T) Q (F0 m 38 ls []) := by
  obtain ⟨hx, hb, hml, hown, hts⟩ := id X
  unfold g_X1_putTag_38 at hf
  refine lv_aload_n hx hb dX1_putTag_38 rfl (lv_at hl 0 rfl) ?_
  refine lv_dup hx hb dX1_putTag_39 rfl ?_
  obtain ⟨ca, hf⟩ := m_chkPE hf
  replace ca := z_in hM (by decide) ca
  refine z_get (k := 1) (j := 5) (C := RX1) (T := TX1) (N := 8) (fl := zf_1) (v := .int (zI S 5 x0)) X hw_X1_putTag_1 hM rfl zc_1 ca (by decide) fl_X1_putTag_1_5 rfl dX1_putTag_40 ?_
  clear ca
  refine lv_iconst (v := (1 : Int32)) hx hb dX1_putTag_43 (by decide) ?_
  refine lv_iadd hx hb dX1_putTag_44 ?_
  obtain ⟨v1, ev, hf⟩ := m_bndPE hf
  refine m_top ev ?_
  clear ev
  obtain ⟨ca, hf⟩ := m_chkPE hf
  replace ca := z_in hM (by decide) ca
  refine z_putI (k := 1) (j := 5) (C := RX1) (T := TX1) (N := 8) (fl := zf_1) (ty := .int) X hw_X1_putTag_1 tyX1_ok nmX1 hM rfl zc_1 ca (by decide) fl_X1_putTag_1_5 rfl (tyX1_ok 5 (by decide)) rfl rfl zi_1_5 (Nat.le_of_ble_eq_true rfl) dX1_putTag_45 (fun H locs hM => ?_)
  clear ca
  obtain ⟨S2, ev, hf⟩ := m_bndPE hf
  replace hM := z_hS hM ev
  clear ev
  refine lv_aload_n hx hb dX1_putTag_48 rfl (lv_at hl 0 rfl) ?_
  refine lv_aload_n hx hb dX1_putTag_49 rfl (lv_at hl 0 rfl) ?_
  obtain ⟨ca, hf⟩ := m_chkPE hf
  replace ca := z_in hM (by decide) ca
  refine z_get (k := 1) (j := 5) (C := RX1) (T := TX1) (N := 8) (fl := zf_1) (v := .int (zI S2 5 x0)) X hw_X1_putTag_1 hM rfl zc_1 ca (by decide) fl_X1_putTag_1_5 rfl dX1_putTag_50 ?_
  clear ca
  refine lv_iconst (v := (1 : Int32)) hx hb dX1_putTag_53 (by decide) ?_
  refine lv_isub hx hb dX1_putTag_54 ?_
  obtain ⟨v3, ev, hf⟩ := m_bndPE hf
  refine m_top ev ?_
  clear ev
  obtain ⟨ca, hf⟩ := m_chkPE hf
  replace ca := z_in hM (by decide) ca
  obtain ⟨mc, ms, hcm, ho⟩ := m_galNE hf
  refine z_wcallVr (k := 1) (C := RX1) (T := TX1) (N := 8) (fl := zf_1) X hM rfl zc_1 ca (c_X1_tagAt ho) gX1_putTag_X1_tagAt rfl ⟨rfl, rfl⟩ ⟨by show kc - (C) + mc ≤ kc; omega, by show kt - (T) + ms ≤ kt; omega⟩ hd_X1_tagAt ⟨Nat.le_of_ble_eq_true rfl, Nat.le_of_ble_eq_true rfl⟩ rfl hl.1 rfl (Nat.le_of_ble_eq_true rfl) dX1_putTag_55 (fun r5 S6 H locs hf hM => ?_)
  refine z_eqCS (c2 := kc - (C - mc)) (t2 := kt - (T - ms)) (by omega) (by omega) ?_
  replace hCT : C - mc ≤ kc ∧ T - ms ≤ kt := by omega
  generalize C - mc = C7 at hf hCT ⊢
  generalize T - ms = T8 at hf hCT ⊢
  clear ho hcm
  obtain ⟨ca, hf⟩ := m_chkPE hf
  replace ca := z_in hM (by decide) ca
  refine z_get (k := 10) (j := 0) (C := RX10) (T := TX10) (N := 2) (fl := zf_10) (v := va_rf ((zP S6 0 r5).map (zh y))) X hw_X1_putTag_10 hM rfl zc_10 ca (by decide) fl_X1_putTag_10_0 rfl dX1_putTag_58 ?_
  clear ca
  obtain ⟨b9, hb9, hf⟩ := m_calPE hf
  refine z_topr hb9 ?_
  clear hb9
  refine lv_aload_n hx hb dX1_putTag_61 rfl (lv_at hl 1 rfl) ?_
  obtain ⟨ca, hf⟩ := m_chkPE hf
  replace ca := z_in hM (by decide) ca
  obtain ⟨mc, ms, hcm, ho⟩ := m_galE hf
  refine z_wcallVv (k := 6) (C := RX6) (T := TX6) (N := 2) (fl := zf_6) X hM rfl zc_6 ca (c_X6_copyFrom ho) gX1_putTag_X6_copyFrom rfl ⟨rfl, rfl⟩ ⟨by show kc - (C7) + mc ≤ kc; omega, by show kt - (T8) + ms ≤ kt; omega⟩ hd_X6_copyFrom ⟨Nat.le_of_ble_eq_true rfl, Nat.le_of_ble_eq_true rfl⟩ rfl hl.1 rfl (Nat.le_of_ble_eq_true rfl) dX1_putTag_62 (fun S12 H locs hf hM => ?_)
  refine z_eqCS (c2 := kc - (C7 - mc)) (t2 := kt - (T8 - ms)) (by omega) (by omega) ?_
  replace hCT : C7 - mc ≤ kc ∧ T8 - ms ≤ kt := by omega
  generalize C7 - mc = C13 at hf hCT ⊢
  generalize T8 - ms = T14 at hf hCT ⊢
  clear ho hcm
  refine lv_aload_n hx hb dX1_putTag_65 rfl (lv_at hl 0 rfl) ?_
  refine lv_aload_n hx hb dX1_putTag_66 rfl (lv_at hl 0 rfl) ?_
  obtain ⟨ca, hf⟩ := m_chkPE hf
  replace ca := z_in hM (by decide) ca
  refine z_get (k := 1) (j := 5) (C := RX1) (T := TX1) (N := 8) (fl := zf_1) (v := .int (zI S12 5 x0)) X hw_X1_putTag_1 hM rfl zc_1 ca (by decide) fl_X1_putTag_1_5 rfl dX1_putTag_67 ?_
  clear ca
  refine lv_iconst (v := (1 : Int32)) hx hb dX1_putTag_70 (by decide) ?_
  refine lv_isub hx hb dX1_putTag_71 ?_
  obtain ⟨v15, ev, hf⟩ := m_bndPE hf
  refine m_top ev ?_
  clear ev
  obtain ⟨ca, hf⟩ := m_chkPE hf
  replace ca := z_in hM (by decide) ca
  obtain ⟨mc, ms, hcm, ho⟩ := m_galNE hf
  refine z_wcallVr (k := 1) (C := RX1) (T := TX1) (N := 8) (fl := zf_1) X hM rfl zc_1 ca (c_X1_tagAt ho) gX1_putTag_X1_tagAt rfl ⟨rfl, rfl⟩ ⟨by show kc - (C13) + mc ≤ kc; omega, by show kt - (T14) + ms ≤ kt; omega⟩ hd_X1_tagAt ⟨Nat.le_of_ble_eq_true rfl, Nat.le_of_ble_eq_true rfl⟩ rfl hl.1 rfl (Nat.le_of_ble_eq_true rfl) dX1_putTag_72 (fun r17 S18 H locs hf hM => ?_)
  refine z_eqCS (c2 := kc - (C13 - mc)) (t2 := kt - (T14 - ms)) (by omega) (by omega) ?_
  replace hCT : C13 - mc ≤ kc ∧ T14 - ms ≤ kt := by omega
  generalize C13 - mc = C19 at hf hCT ⊢
  generalize T14 - ms = T20 at hf hCT ⊢
  clear ho hcm
  obtain ⟨ca, hf⟩ := m_chkPE hf
  replace ca := z_in hM (by decide) ca
  refine z_get (k := 10) (j := 1) (C := RX10) (T := TX10) (N := 2) (fl := zf_10) (v := va_rf ((zP S18 1 r17).map (zh y))) X hw_X1_putTag_10 hM rfl zc_10 ca (by decide) fl_X1_putTag_10_1 rfl dX1_putTag_75 ?_
  clear ca
  obtain ⟨b21, hb9, hf⟩ := m_calPE hf
  refine z_topr hb9 ?_
  clear hb9
  refine lv_aload_n hx hb dX1_putTag_78 rfl (lv_at hl 2 rfl) ?_
  obtain ⟨ca, hf⟩ := m_chkPE hf
  replace ca := z_in hM (by decide) ca
  obtain ⟨mc, ms, hcm, ho⟩ := m_galE hf
  refine z_wcallVv (k := 6) (C := RX6) (T := TX6) (N := 2) (fl := zf_6) X hM rfl zc_6 ca (c_X6_copyFrom ho) gX1_putTag_X6_copyFrom rfl ⟨rfl, rfl⟩ ⟨by show kc - (C19) + mc ≤ kc; omega, by show kt - (T20) + ms ≤ kt; omega⟩ hd_X6_copyFrom ⟨Nat.le_of_ble_eq_true rfl, Nat.le_of_ble_eq_true rfl⟩ rfl hl.1 rfl (Nat.le_of_ble_eq_true rfl) dX1_putTag_79 (fun S24 H locs hf hM => ?_)
  refine z_eqCS (c2 := kc - (C19 - mc)) (t2 := kt - (T20 - ms)) (by omega) (by omega) ?_
  replace hCT : C19 - mc ≤ kc ∧ T20 - ms ≤ kt := by omega
  generalize C19 - mc = C25 at hf hCT ⊢
  generalize T20 - ms = T26 at hf hCT ⊢
  clear ho hcm
  exact hret _ _ _ H locs _ ls hf hM dX1_putTag_82
noncomputable def g_X1_putTag_0 (Pw : Int32 → ZS → Prop) (x0 : Nat) (x1 : Nat) (x2 : Nat) (S : ZS) (C T : Nat) : Prop :=
  m_chkQ (zK S x0 = 1) (
  m_ifQ ((zI S 5 x0) < (8 : Int32)) (
  m_chkQ (zK S x0 = 1) (
  m_calP (zP S 4 x0) (fun b1 =>
  m_chkQ (zK S x0 = 1) (
  m_chkQ (zK S b1 = 17) (
  m_chkQ (¬ ((zI S 5 x0) < 0 ∨ zN S b1 ≤ ((zI S 5 x0)).toNatClampNeg)) (
  m_bndP (zB S b1 ((zI S 5 x0)).toNatClampNeg) (fun v2 =>
  m_optP v2 (
  m_chkQ (zK S x0 = 1) (
  m_calP (zP S 4 x0) (fun b4 =>
  m_chkQ (zK S x0 = 1) (
  m_newP (C) (T) 2 (zt S) (fun q5 C7 T8 =>
  m_bndP (zsNewO S q5 10 2) (fun S6 =>
  m_gal (C7) (T8) (fun mc ms Pw => g_X10_init q5 S6 mc ms Pw) (fun r10 S11 C12 T13 =>
  m_chkQ (zK S11 b4 = 17) (
  m_chkQ (zK S11 q5 = 10) (
  m_chkQ (¬ ((zI S 5 x0) < 0 ∨ zN S11 b4 ≤ ((zI S 5 x0)).toNatClampNeg)) (
  m_bndP (zsB S11 b4 ((zI S 5 x0)).toNatClampNeg (some q5)) (fun S14 =>
  g_X1_putTag_38 Pw x0 x1 x2 S14 (C12) (T13)))))))))))
  ) (fun b3 =>
  g_X1_putTag_38 Pw x0 x1 x2 S (C) (T)
  )))))))
  ) (
  Pw 0 S
  ))

set_option maxRecDepth 100000 in
set_option maxHeartbeats 4000000 in
theorem w_X1_putTag_0 {p : Program} {l : Launch} {e : Env} {s : State} {m : MethodId} {args : Array Value} {below : List Frame} {meth : Method} {c : Code} {Q : State → Prop} {D : va_G} {y : Nat → ClassId} {A0 : Nat → Prop} {kc kt : Nat} {Pw : Int32 → ZS → Prop} (X : CallFix p m c cX1_putTag 3 s args wsX1_putTag RX1) (hret : zQv p l e ({ frames := 4, cells := kc, slots := kt, locals := 125 } : Room) s m args below meth c Q cX1_putTag D y A0 Pw) {x0 : Nat} {x1 : Nat} {x2 : Nat} {S : ZS} {C T : Nat} {H : Heap} {locs : List Loc} {ls : Array Slot} (hf : g_X1_putTag_0 Pw x0 x1 x2 S C T) (hCT : C ≤ kc ∧ T ≤ kt) (hM : zH D y A0 s H locs S) (hl : lv_has ls 3 [(0, .ref (zh y x0)), (1, .ref (zh y x1)), (2, .ref (zh y x2))]) : W p l e ({ frames := 4, cells := kc, slots := kt, locals := 125 } : Room) s m args below meth c H locs (kc - C) (kt - T) Q (F0 m 0 ls []) := by
  obtain ⟨hx, hb, hml, hown, hts⟩ := id X
  unfold g_X1_putTag_0 at hf
  refine lv_aload_n hx hb dX1_putTag_0 rfl (lv_at hl 0 rfl) ?_
  obtain ⟨ca, hf⟩ := m_chkPE hf
  replace ca := z_in hM (by decide) ca
  refine z_get (k := 1) (j := 5) (C := RX1) (T := TX1) (N := 8) (fl := zf_1) (v := .int (zI S 5 x0)) X hw_X1_putTag_1 hM rfl zc_1 ca (by decide) fl_X1_putTag_1_5 rfl dX1_putTag_1 ?_
  clear ca
  refine lv_bipush (v := (8 : Int32)) hx hb dX1_putTag_4 (by decide) ?_
  refine lv_icmp_lt (tgt := 10) hx hb dX1_putTag_6 (by decide) (fun cc1 => ?_) (fun cc1 => ?_)
  · replace hf := m_ifPT hf cc1
    refine lv_aload_n hx hb dX1_putTag_10 rfl (lv_at hl 0 rfl) ?_
    obtain ⟨ca, hf⟩ := m_chkPE hf
    replace ca := z_in hM (by decide) ca
    refine z_get (k := 1) (j := 4) (C := RX1) (T := TX1) (N := 8) (fl := zf_1) (v := va_rf ((zP S 4 x0).map (zh y))) X hw_X1_putTag_1 hM rfl zc_1 ca (by decide) fl_X1_putTag_1_4 rfl dX1_putTag_11 ?_
    clear ca
    obtain ⟨b1, hb9, hf⟩ := m_calPE hf
    refine z_topr hb9 ?_
    clear hb9
    refine lv_aload_n hx hb dX1_putTag_14 rfl (lv_at hl 0 rfl) ?_
    obtain ⟨ca, hf⟩ := m_chkPE hf
    replace ca := z_in hM (by decide) ca
    refine z_get (k := 1) (j := 5) (C := RX1) (T := TX1) (N := 8) (fl := zf_1) (v := .int (zI S 5 x0)) X hw_X1_putTag_1 hM rfl zc_1 ca (by decide) fl_X1_putTag_1_5 rfl dX1_putTag_15 ?_
    clear ca
    obtain ⟨ca, hf⟩ := m_chkPE hf
    replace ca := z_in hM (by decide) ca
    obtain ⟨cd, hf⟩ := m_chkPE hf
    refine z_aald (k := 17) (t0 := 4) (C := "MoveTexts$Tag") X hM (fun _ _ _ _ _ => rfl) rfl ca cd dX1_putTag_18 ?_
    clear ca cd
    obtain ⟨v2, ev, hf⟩ := m_bndPE hf
    refine z_topq ev ?_
    clear ev
    cases v2 with
    | none =>
      replace hf := m_optPN hf
      refine lv_ifnonnullN hx hb dX1_putTag_19 ?_
      refine lv_aload_n hx hb dX1_putTag_22 rfl (lv_at hl 0 rfl) ?_
      obtain ⟨ca, hf⟩ := m_chkPE hf
      replace ca := z_in hM (by decide) ca
      refine z_get (k := 1) (j := 4) (C := RX1) (T := TX1) (N := 8) (fl := zf_1) (v := va_rf ((zP S 4 x0).map (zh y))) X hw_X1_putTag_1 hM rfl zc_1 ca (by decide) fl_X1_putTag_1_4 rfl dX1_putTag_23 ?_
      clear ca
      obtain ⟨b4, hb9, hf⟩ := m_calPE hf
      refine z_topr hb9 ?_
      clear hb9
      refine lv_aload_n hx hb dX1_putTag_26 rfl (lv_at hl 0 rfl) ?_
      obtain ⟨ca, hf⟩ := m_chkPE hf
      replace ca := z_in hM (by decide) ca
      refine z_get (k := 1) (j := 5) (C := RX1) (T := TX1) (N := 8) (fl := zf_1) (v := .int (zI S 5 x0)) X hw_X1_putTag_1 hM rfl zc_1 ca (by decide) fl_X1_putTag_1_5 rfl dX1_putTag_27 ?_
      clear ca
      obtain ⟨hcm, ho⟩ := hf
      refine z_newO (k := 10) (C := RX10) (T := TX10) (N := 2) (fl := zf_10) X hw_X1_putTag_10 tyX10_ok hM rfl zc_10 nw_X1_putTag_33 zd_10 ⟨by show kc - (C) + 1 ≤ kc; omega, by show kt - (T) + 2 ≤ kt; omega⟩ dX1_putTag_30 (fun q5 H hq hM => ?_)
      replace hf := ho q5 hq
      refine z_eqCS (c2 := kc - (C - 1)) (t2 := kt - (T - 2)) (by omega) (by omega) ?_
      replace hCT : C - 1 ≤ kc ∧ T - 2 ≤ kt := by omega
      generalize C - 1 = C7 at hf hCT ⊢
      generalize T - 2 = T8 at hf hCT ⊢
      obtain ⟨S6, ev, hf⟩ := m_bndPE hf
      replace hM := z_hS hM ev
      clear ev ho hcm hq
      refine lv_dup hx hb dX1_putTag_33 rfl ?_
      obtain ⟨mc, ms, hcm, ho⟩ := m_galE hf
      refine z_wcallINv X hM (c_X10_init ho) gX1_putTag_X10_init_n84 ii_X1_putTag_84.1 ii_X1_putTag_84.2.1 ii_X1_putTag_84.2.2 rfl rfl ⟨rfl, rfl⟩ ⟨by show kc - (C7) + mc ≤ kc; omega, by show kt - (T8) + ms ≤ kt; omega⟩ hd_X10_init.2 ⟨Nat.le_of_ble_eq_true rfl, Nat.le_of_ble_eq_true rfl⟩ rfl hl.1 rfl (Nat.le_of_ble_eq_true rfl) dX1_putTag_34 (fun S11 H locs hf hM => ?_)
      refine z_eqCS (c2 := kc - (C7 - mc)) (t2 := kt - (T8 - ms)) (by omega) (by omega) ?_
      replace hCT : C7 - mc ≤ kc ∧ T8 - ms ≤ kt := by omega
      generalize C7 - mc = C12 at hf hCT ⊢
      generalize T8 - ms = T13 at hf hCT ⊢
      clear ho hcm
      obtain ⟨ca, hf⟩ := m_chkPE hf
      replace ca := z_in hM (by decide) ca
      obtain ⟨cb, hf⟩ := m_chkPE hf
      replace cb := z_in hM (by decide) cb
      obtain ⟨cd, hf⟩ := m_chkPE hf
      refine z_aast (k := 17) (t0 := 4) (kv := 10) (C := RX10) (T := TX10) (N := 2) (fl := zf_10) X hM (fun _ _ _ _ _ => rfl) rfl rfl zc_10 ca cb cd dX1_putTag_37 (fun H locs hM => ?_)
      clear ca cb cd
      obtain ⟨S14, ev, hf⟩ := m_bndPE hf
      replace hM := z_hS hM ev
      clear ev
      exact w_X1_putTag_38 (x0 := x0) (x1 := x1) (x2 := x2) X hret hf hCT hM (lv_sub hl [0, 1, 2] rfl)
    | some b3 =>
      replace hf := m_optPS hf
      refine lv_ifnonnull (x := (zh y b3)) (tgt := 38) hx hb dX1_putTag_19 (by decide) ?_
      exact w_X1_putTag_38 (x0 := x0) (x1 := x1) (x2 := x2) X hret hf hCT hM (lv_sub hl [0, 1, 2] rfl)
  · replace hf := m_ifPF hf cc1
    exact hret _ _ _ H locs _ ls hf hM dX1_putTag_9
noncomputable def g_X1_putTag (x0 : Nat) (x1 : Nat) (x2 : Nat) (S : ZS) (mc ms : Nat) (Pw : Int32 → ZS → Prop) : Prop := g_X1_putTag_0 Pw x0 x1 x2 S mc ms
theorem c_X1_putTag {l : Launch} {D : va_G} {y : Nat → ClassId} {x0 : Nat} {x1 : Nat} {x2 : Nat} {S : ZS} {kc kt : Nat} {Pw : Int32 → ZS → Prop} (hf : g_X1_putTag x0 x1 x2 S kc kt Pw) : zWv l yX1_putTag wsX1_putTag ({ frames := 4, cells := kc, slots := kt, locals := 125 } : Room) [.ref (zh y x0), .ref (zh y x1), .ref (zh y x2)] D y S kc kt Pw :=
  z_wentV (own := RX1) (cc := cX1_putTag) (maxL := 3) (by decide) rfl rfl (Nat.le_of_ble_eq_true rfl) ⟨rfl, rfl⟩ (fun p e s m args below meth c A0 Q H locs ls X hret hM hl => w_X1_putTag_0 X hret hf ⟨Nat.le_refl _, Nat.le_refl _⟩ hM (lv_sub hl [0, 1, 2] rfl))
theorem hd_J0_coder_7d493 : yJ0_coder_7d493.cls = RJ0 ∧ yJ0_coder_7d493.cls ≠ "java/lang/invoke/MethodHandle" ∧ yJ0_coder_7d493.cls ≠ "java/lang/invoke/VarHandle" ∧ (parseMethodDescriptor yJ0_coder_7d493.desc).map (fun d => d.parameters.length) = some 0 := by decide +kernel
theorem gs_J0_coder_7d493_COMPACT_STRINGS : Cond.fieldLink RJ0 38 "java/lang/String" "COMPACT_STRINGS" "Z" ∈ wsJ0_coder_7d493 := by decide +kernel
theorem sl_J0_coder_7d493_coder : Cond.fieldLink RJ0 15 "java/lang/String" "coder" "B" ∈ wsJ0_coder_7d493 := by decide +kernel
noncomputable def f_J0_coder_7d493_14 (t0 : Int32) (S : ZS) : Option (Int32 × ZS) :=
  m_chk (vp_nar .byte t0 = t0) (some (t0, S))

set_option maxRecDepth 100000 in
set_option maxHeartbeats 4000000 in
theorem w_J0_coder_7d493_14 {p : Program} {l : Launch} {e : Env} {s : State} {m : MethodId} {args : Array Value} {below : List Frame} {meth : Method} {c : Code} {Q : State → Prop} {D : va_G} {y : Nat → ClassId} {A0 : Nat → Prop} {o : Int32 × ZS} (X : CallFix p m c cJ0_coder_7d493 1 s args wsJ0_coder_7d493 RJ0) (hret : zRi p l e ({ frames := 0, cells := 0, slots := 0, locals := 0 } : Room) s m args below meth c Q cJ0_coder_7d493 D y A0 .byte o) {t0 : Int32} {S : ZS} {H : Heap} {locs : List Loc} {ls : Array Slot} (hf : f_J0_coder_7d493_14 t0 S = some o) (hM : zH D y A0 s H locs S) (hl : lv_has ls 1 []) : W p l e ({ frames := 0, cells := 0, slots := 0, locals := 0 } : Room) s m args below meth c H locs 0 0 Q (F0 m 14 ls [.int t0]) := by
  obtain ⟨hx, hb, hml, hown, hts⟩ := id X
  unfold f_J0_coder_7d493_14 at hf
  obtain ⟨cd, hf⟩ := m_chkE hf
  cases hf
  exact hret H locs _ ls hM (m_nby cd) dJ0_coder_7d493_14
noncomputable def f_J0_coder_7d493_0 (x0 : Nat) (S : ZS) : Option (Int32 × ZS) :=
  m_if ((1 : Int32) = 0) (
  f_J0_coder_7d493_14 (1 : Int32) S
  ) (
  m_chk (x0 < zSn) (
  f_J0_coder_7d493_14 (0 : Int32) S)
  )

set_option maxRecDepth 100000 in
set_option maxHeartbeats 4000000 in
theorem w_J0_coder_7d493_0 {p : Program} {l : Launch} {e : Env} {s : State} {m : MethodId} {args : Array Value} {below : List Frame} {meth : Method} {c : Code} {Q : State → Prop} {D : va_G} {y : Nat → ClassId} {A0 : Nat → Prop} {o : Int32 × ZS} (X : CallFix p m c cJ0_coder_7d493 1 s args wsJ0_coder_7d493 RJ0) (hret : zRi p l e ({ frames := 0, cells := 0, slots := 0, locals := 0 } : Room) s m args below meth c Q cJ0_coder_7d493 D y A0 .byte o) {x0 : Nat} {S : ZS} {H : Heap} {locs : List Loc} {ls : Array Slot} (hf : f_J0_coder_7d493_0 x0 S = some o) (hM : zH D y A0 s H locs S) (hl : lv_has ls 1 [(0, .ref (y (100 + x0)))]) : W p l e ({ frames := 0, cells := 0, slots := 0, locals := 0 } : Room) s m args below meth c H locs 0 0 Q (F0 m 0 ls []) := by
  obtain ⟨hx, hb, hml, hown, hts⟩ := id X
  unfold f_J0_coder_7d493_0 at hf
  refine z_compact X hM gs_J0_coder_7d493_COMPACT_STRINGS dJ0_coder_7d493_0 ?_
  refine lv_if_eq (tgt := 13) hx hb dJ0_coder_7d493_3 (by decide) (fun cc1 => ?_) (fun cc1 => ?_)
  · replace hf := m_ifT hf cc1
    refine lv_iconst (v := (1 : Int32)) hx hb dJ0_coder_7d493_13 (by decide) ?_
    exact w_J0_coder_7d493_14 (t0 := (1 : Int32)) X hret hf hM (lv_sub hl [] rfl)
  · replace hf := m_ifF hf cc1
    refine lv_aload_n hx hb dJ0_coder_7d493_6 rfl (lv_at hl 0 rfl) ?_
    obtain ⟨cd, hf⟩ := m_chkE hf
    refine z_scod X hM cd sl_J0_coder_7d493_coder dJ0_coder_7d493_7 ?_
    clear cd
    refine lv_goto (tgt := 14) hx hb dJ0_coder_7d493_10 (by decide) ?_
    exact w_J0_coder_7d493_14 (t0 := (0 : Int32)) X hret hf hM (lv_sub hl [] rfl)
noncomputable def f_J0_coder_7d493 (x0 : Nat) (S : ZS) : Option (Int32 × ZS) := f_J0_coder_7d493_0 x0 S
theorem c_J0_coder_7d493 {l : Launch} {D : va_G} {y : Nat → ClassId} {x0 : Nat} {S : ZS} {o : Int32 × ZS} (hf : f_J0_coder_7d493 x0 S = some o) : zMi l yJ0_coder_7d493 wsJ0_coder_7d493 ({ frames := 0, cells := 0, slots := 0, locals := 0 } : Room) [.ref (y (100 + x0))] D y S o :=
  z_entryI (own := RJ0) (cc := cJ0_coder_7d493) (maxL := 1) (by decide) rfl rfl (Nat.le_of_ble_eq_true rfl) (fun p e s m args below meth c A0 Q H locs ls X hret hM hl => w_J0_coder_7d493_0 X hret hf hM (lv_sub hl [0] rfl))
theorem hd_J0_length_8abf5 : yJ0_length_8abf5.cls = RJ0 ∧ yJ0_length_8abf5.cls ≠ "java/lang/invoke/MethodHandle" ∧ yJ0_length_8abf5.cls ≠ "java/lang/invoke/VarHandle" ∧ (parseMethodDescriptor yJ0_length_8abf5.desc).map (fun d => d.parameters.length) = some 0 := by decide +kernel
theorem sl_J0_length_8abf5_value : Cond.fieldLink RJ0 9 "java/lang/String" "value" "[B" ∈ wsJ0_length_8abf5 := by decide +kernel
noncomputable def f_J0_length_8abf5_0 (x0 : Nat) (S : ZS) : Option (Int32 × ZS) :=
  m_chk (x0 < zSn) (
  m_chk (x0 < zSn) (
  m_bnd (Int32.ofNat (zSl.getD x0 0)) (fun v1 =>
  m_chk (x0 < zSn) (
  m_cal (f_J0_coder_7d493 x0 S) (fun o2 =>
  m_bnd (v1 >>> (o2.1 &&& 31)) (fun v3 =>
  some (v3, o2.2)))))))

set_option maxRecDepth 100000 in
set_option maxHeartbeats 4000000 in
theorem w_J0_length_8abf5_0 {p : Program} {l : Launch} {e : Env} {s : State} {m : MethodId} {args : Array Value} {below : List Frame} {meth : Method} {c : Code} {Q : State → Prop} {D : va_G} {y : Nat → ClassId} {A0 : Nat → Prop} {o : Int32 × ZS} (X : CallFix p m c cJ0_length_8abf5 1 s args wsJ0_length_8abf5 RJ0) (hret : zRi p l e ({ frames := 1, cells := 0, slots := 0, locals := 20 } : Room) s m args below meth c Q cJ0_length_8abf5 D y A0 .int o) {x0 : Nat} {S : ZS} {H : Heap} {locs : List Loc} {ls : Array Slot} (hf : f_J0_length_8abf5_0 x0 S = some o) (hM : zH D y A0 s H locs S) (hl : lv_has ls 1 [(0, .ref (y (100 + x0)))]) : W p l e ({ frames := 1, cells := 0, slots := 0, locals := 20 } : Room) s m args below meth c H locs 0 0 Q (F0 m 0 ls []) := by
  obtain ⟨hx, hb, hml, hown, hts⟩ := id X
  unfold f_J0_length_8abf5_0 at hf
  refine lv_aload_n hx hb dJ0_length_8abf5_0 rfl (lv_at hl 0 rfl) ?_
  obtain ⟨cd, hf⟩ := m_chkE hf
  refine z_sval X hM cd sl_J0_length_8abf5_value dJ0_length_8abf5_1 ?_
  clear cd
  obtain ⟨cd, hf⟩ := m_chkE hf
  refine z_slen X hM cd dJ0_length_8abf5_4 ?_
  clear cd
  obtain ⟨v1, ev, hf⟩ := m_bndE hf
  refine m_top ev ?_
  clear ev
  refine lv_aload_n hx hb dJ0_length_8abf5_5 rfl (lv_at hl 0 rfl) ?_
  obtain ⟨ca, hf⟩ := m_chkE hf
  obtain ⟨o2, ho, hf⟩ := m_calE hf
  refine z_callTi X hM ca (c_J0_coder_7d493 ho) gJ0_length_8abf5_J0_coder_7d493 rfl ⟨rfl, rfl⟩ hd_J0_coder_7d493 ⟨Nat.le_of_ble_eq_true rfl, Nat.le_of_ble_eq_true rfl⟩ rfl hl.1 rfl (Nat.le_of_ble_eq_true rfl) dJ0_length_8abf5_6 (fun H locs hM => ?_)
  clear ho
  refine lv_ishr hx hb dJ0_length_8abf5_9 ?_
  obtain ⟨v3, ev, hf⟩ := m_bndE hf
  refine m_top ev ?_
  clear ev
  cases hf
  exact hret H locs _ ls hM rfl dJ0_length_8abf5_10
noncomputable def f_J0_length_8abf5 (x0 : Nat) (S : ZS) : Option (Int32 × ZS) := f_J0_length_8abf5_0 x0 S
theorem c_J0_length_8abf5 {l : Launch} {D : va_G} {y : Nat → ClassId} {x0 : Nat} {S : ZS} {o : Int32 × ZS} (hf : f_J0_length_8abf5 x0 S = some o) : zMi l yJ0_length_8abf5 wsJ0_length_8abf5 ({ frames := 1, cells := 0, slots := 0, locals := 20 } : Room) [.ref (y (100 + x0))] D y S o :=
  z_entryI (own := RJ0) (cc := cJ0_length_8abf5) (maxL := 1) (by decide) rfl rfl (Nat.le_of_ble_eq_true rfl) (fun p e s m args below meth c A0 Q H locs ls X hret hM hl => w_J0_length_8abf5_0 X hret hf hM (lv_sub hl [0] rfl))
theorem hd_J0_isLatin1_aae02 : yJ0_isLatin1_aae02.cls = RJ0 ∧ yJ0_isLatin1_aae02.cls ≠ "java/lang/invoke/MethodHandle" ∧ yJ0_isLatin1_aae02.cls ≠ "java/lang/invoke/VarHandle" ∧ (parseMethodDescriptor yJ0_isLatin1_aae02.desc).map (fun d => d.parameters.length) = some 0 := by decide +kernel
theorem gs_J0_isLatin1_aae02_COMPACT_STRINGS : Cond.fieldLink RJ0 38 "java/lang/String" "COMPACT_STRINGS" "Z" ∈ wsJ0_isLatin1_aae02 := by decide +kernel
theorem sl_J0_isLatin1_aae02_coder : Cond.fieldLink RJ0 15 "java/lang/String" "coder" "B" ∈ wsJ0_isLatin1_aae02 := by decide +kernel
noncomputable def f_J0_isLatin1_aae02_18 (t0 : Int32) (S : ZS) : Option (Int32 × ZS) :=
  m_chk (vp_nar .boolean t0 = t0) (some (t0, S))

set_option maxRecDepth 100000 in
set_option maxHeartbeats 4000000 in
theorem w_J0_isLatin1_aae02_18 {p : Program} {l : Launch} {e : Env} {s : State} {m : MethodId} {args : Array Value} {below : List Frame} {meth : Method} {c : Code} {Q : State → Prop} {D : va_G} {y : Nat → ClassId} {A0 : Nat → Prop} {o : Int32 × ZS} (X : CallFix p m c cJ0_isLatin1_aae02 1 s args wsJ0_isLatin1_aae02 RJ0) (hret : zRi p l e ({ frames := 0, cells := 0, slots := 0, locals := 0 } : Room) s m args below meth c Q cJ0_isLatin1_aae02 D y A0 .boolean o) {t0 : Int32} {S : ZS} {H : Heap} {locs : List Loc} {ls : Array Slot} (hf : f_J0_isLatin1_aae02_18 t0 S = some o) (hM : zH D y A0 s H locs S) (hl : lv_has ls 1 []) : W p l e ({ frames := 0, cells := 0, slots := 0, locals := 0 } : Room) s m args below meth c H locs 0 0 Q (F0 m 18 ls [.int t0]) := by
  obtain ⟨hx, hb, hml, hown, hts⟩ := id X
  unfold f_J0_isLatin1_aae02_18 at hf
  obtain ⟨cd, hf⟩ := m_chkE hf
  cases hf
  exact hret H locs _ ls hM (m_nb cd) dJ0_isLatin1_aae02_18
noncomputable def f_J0_isLatin1_aae02_17 (S : ZS) : Option (Int32 × ZS) :=
  f_J0_isLatin1_aae02_18 (0 : Int32) S

set_option maxRecDepth 100000 in
set_option maxHeartbeats 4000000 in
theorem w_J0_isLatin1_aae02_17 {p : Program} {l : Launch} {e : Env} {s : State} {m : MethodId} {args : Array Value} {below : List Frame} {meth : Method} {c : Code} {Q : State → Prop} {D : va_G} {y : Nat → ClassId} {A0 : Nat → Prop} {o : Int32 × ZS} (X : CallFix p m c cJ0_isLatin1_aae02 1 s args wsJ0_isLatin1_aae02 RJ0) (hret : zRi p l e ({ frames := 0, cells := 0, slots := 0, locals := 0 } : Room) s m args below meth c Q cJ0_isLatin1_aae02 D y A0 .boolean o) {S : ZS} {H : Heap} {locs : List Loc} {ls : Array Slot} (hf : f_J0_isLatin1_aae02_17  S = some o) (hM : zH D y A0 s H locs S) (hl : lv_has ls 1 []) : W p l e ({ frames := 0, cells := 0, slots := 0, locals := 0 } : Room) s m args below meth c H locs 0 0 Q (F0 m 17 ls []) := by
  obtain ⟨hx, hb, hml, hown, hts⟩ := id X
  unfold f_J0_isLatin1_aae02_17 at hf
  refine lv_iconst (v := (0 : Int32)) hx hb dJ0_isLatin1_aae02_17 (by decide) ?_
  exact w_J0_isLatin1_aae02_18 (t0 := (0 : Int32)) X hret hf hM (lv_sub hl [] rfl)
noncomputable def f_J0_isLatin1_aae02_0 (x0 : Nat) (S : ZS) : Option (Int32 × ZS) :=
  m_if ((1 : Int32) = 0) (
  f_J0_isLatin1_aae02_17  S
  ) (
  m_chk (x0 < zSn) (
  m_if ((0 : Int32) = 0) (
  f_J0_isLatin1_aae02_18 (1 : Int32) S
  ) (
  f_J0_isLatin1_aae02_17  S
  ))
  )

set_option maxRecDepth 100000 in
set_option maxHeartbeats 4000000 in
theorem w_J0_isLatin1_aae02_0 {p : Program} {l : Launch} {e : Env} {s : State} {m : MethodId} {args : Array Value} {below : List Frame} {meth : Method} {c : Code} {Q : State → Prop} {D : va_G} {y : Nat → ClassId} {A0 : Nat → Prop} {o : Int32 × ZS} (X : CallFix p m c cJ0_isLatin1_aae02 1 s args wsJ0_isLatin1_aae02 RJ0) (hret : zRi p l e ({ frames := 0, cells := 0, slots := 0, locals := 0 } : Room) s m args below meth c Q cJ0_isLatin1_aae02 D y A0 .boolean o) {x0 : Nat} {S : ZS} {H : Heap} {locs : List Loc} {ls : Array Slot} (hf : f_J0_isLatin1_aae02_0 x0 S = some o) (hM : zH D y A0 s H locs S) (hl : lv_has ls 1 [(0, .ref (y (100 + x0)))]) : W p l e ({ frames := 0, cells := 0, slots := 0, locals := 0 } : Room) s m args below meth c H locs 0 0 Q (F0 m 0 ls []) := by
  obtain ⟨hx, hb, hml, hown, hts⟩ := id X
  unfold f_J0_isLatin1_aae02_0 at hf
  refine z_compact X hM gs_J0_isLatin1_aae02_COMPACT_STRINGS dJ0_isLatin1_aae02_0 ?_
  refine lv_if_eq (tgt := 17) hx hb dJ0_isLatin1_aae02_3 (by decide) (fun cc1 => ?_) (fun cc1 => ?_)
  · replace hf := m_ifT hf cc1
    exact w_J0_isLatin1_aae02_17 X hret hf hM (lv_sub hl [] rfl)
  · replace hf := m_ifF hf cc1
    refine lv_aload_n hx hb dJ0_isLatin1_aae02_6 rfl (lv_at hl 0 rfl) ?_
    obtain ⟨cd, hf⟩ := m_chkE hf
    refine z_scod X hM cd sl_J0_isLatin1_aae02_coder dJ0_isLatin1_aae02_7 ?_
    clear cd
    refine lv_if_ne (tgt := 17) hx hb dJ0_isLatin1_aae02_10 (by decide) (fun cc1 => ?_) (fun cc1 => ?_)
    · replace hf := m_ifF hf cc1
      exact w_J0_isLatin1_aae02_17 X hret hf hM (lv_sub hl [] rfl)
    · replace hf := m_ifT hf cc1
      refine lv_iconst (v := (1 : Int32)) hx hb dJ0_isLatin1_aae02_13 (by decide) ?_
      refine lv_goto (tgt := 18) hx hb dJ0_isLatin1_aae02_14 (by decide) ?_
      exact w_J0_isLatin1_aae02_18 (t0 := (1 : Int32)) X hret hf hM (lv_sub hl [] rfl)
noncomputable def f_J0_isLatin1_aae02 (x0 : Nat) (S : ZS) : Option (Int32 × ZS) := f_J0_isLatin1_aae02_0 x0 S
theorem c_J0_isLatin1_aae02 {l : Launch} {D : va_G} {y : Nat → ClassId} {x0 : Nat} {S : ZS} {o : Int32 × ZS} (hf : f_J0_isLatin1_aae02 x0 S = some o) : zMi l yJ0_isLatin1_aae02 wsJ0_isLatin1_aae02 ({ frames := 0, cells := 0, slots := 0, locals := 0 } : Room) [.ref (y (100 + x0))] D y S o :=
  z_entryI (own := RJ0) (cc := cJ0_isLatin1_aae02) (maxL := 1) (by decide) rfl rfl (Nat.le_of_ble_eq_true rfl) (fun p e s m args below meth c A0 Q H locs ls X hret hM hl => w_J0_isLatin1_aae02_0 X hret hf hM (lv_sub hl [0] rfl))
theorem hd_J3_checkIndex_8e157 : yJ3_checkIndex_8e157.cls ≠ "java/lang/invoke/MethodHandle" ∧ yJ3_checkIndex_8e157.cls ≠ "java/lang/invoke/VarHandle" ∧ (parseMethodDescriptor yJ3_checkIndex_8e157.desc).map (fun d => d.parameters.length) = some 3 := by decide +kernel
noncomputable def f_J3_checkIndex_8e157_0 (x0 : Int32) (x1 : Int32) (S : ZS) : Option (Int32 × ZS) :=
  m_if (x0 < 0) (
  none
  ) (
  m_if (x0 < x1) (
  some (x0, S)
  ) (
  none
  )
  )

set_option maxRecDepth 100000 in
set_option maxHeartbeats 4000000 in
theorem w_J3_checkIndex_8e157_0 {p : Program} {l : Launch} {e : Env} {s : State} {m : MethodId} {args : Array Value} {below : List Frame} {meth : Method} {c : Code} {Q : State → Prop} {D : va_G} {y : Nat → ClassId} {A0 : Nat → Prop} {o : Int32 × ZS} (X : CallFix p m c cJ3_checkIndex_8e157 3 s args wsJ3_checkIndex_8e157 RJ3) (hret : zRi p l e ({ frames := 0, cells := 0, slots := 0, locals := 0 } : Room) s m args below meth c Q cJ3_checkIndex_8e157 D y A0 .int o) {x0 : Int32} {x1 : Int32} {S : ZS} {H : Heap} {locs : List Loc} {ls : Array Slot} (hf : f_J3_checkIndex_8e157_0 x0 x1 S = some o) (hM : zH D y A0 s H locs S) (hl : lv_has ls 3 [(0, .int x0), (1, .int x1)]) : W p l e ({ frames := 0, cells := 0, slots := 0, locals := 0 } : Room) s m args below meth c H locs 0 0 Q (F0 m 0 ls []) := by
  obtain ⟨hx, hb, hml, hown, hts⟩ := id X
  unfold f_J3_checkIndex_8e157_0 at hf
  refine lv_iload_n hx hb dJ3_checkIndex_8e157_0 rfl (lv_at hl 0 rfl) ?_
  refine lv_if_lt (tgt := 9) hx hb dJ3_checkIndex_8e157_1 (by decide) (fun cc1 => ?_) (fun cc1 => ?_)
  · replace hf := m_ifT hf cc1
    cases hf
  · replace hf := m_ifF hf cc1
    refine lv_iload_n hx hb dJ3_checkIndex_8e157_4 rfl (lv_at hl 0 rfl) ?_
    refine lv_iload_n hx hb dJ3_checkIndex_8e157_5 rfl (lv_at hl 1 rfl) ?_
    refine lv_icmp_lt (tgt := 16) hx hb dJ3_checkIndex_8e157_6 (by decide) (fun cc1 => ?_) (fun cc1 => ?_)
    · replace hf := m_ifT hf cc1
      refine lv_iload_n hx hb dJ3_checkIndex_8e157_16 rfl (lv_at hl 0 rfl) ?_
      cases hf
      exact hret H locs _ ls hM rfl dJ3_checkIndex_8e157_17
    · replace hf := m_ifF hf cc1
      cases hf
noncomputable def f_J3_checkIndex_8e157 (x0 : Int32) (x1 : Int32) (S : ZS) : Option (Int32 × ZS) := f_J3_checkIndex_8e157_0 x0 x1 S
theorem c_J3_checkIndex_8e157 {l : Launch} {D : va_G} {y : Nat → ClassId} {x0 : Int32} {x1 : Int32} {x2 : Option Nat} {S : ZS} {o : Int32 × ZS} (hf : f_J3_checkIndex_8e157 x0 x1 S = some o) : zMi l yJ3_checkIndex_8e157 wsJ3_checkIndex_8e157 ({ frames := 0, cells := 0, slots := 0, locals := 0 } : Room) [.int x0, .int x1, va_rf x2] D y S o :=
  z_entryI (own := RJ3) (cc := cJ3_checkIndex_8e157) (maxL := 3) (by decide) rfl rfl (by cases x2 <;> exact Nat.le_of_ble_eq_true rfl) (fun p e s m args below meth c A0 Q H locs ls X hret hM hl => w_J3_checkIndex_8e157_0 X hret hf hM (lv_sub hl [0, 1] rfl))
theorem hd_J0_checkIndex_df160 : yJ0_checkIndex_df160.cls ≠ "java/lang/invoke/MethodHandle" ∧ yJ0_checkIndex_df160.cls ≠ "java/lang/invoke/VarHandle" ∧ (parseMethodDescriptor yJ0_checkIndex_df160.desc).map (fun d => d.parameters.length) = some 2 := by decide +kernel
theorem gs_J0_checkIndex_df160_SIOOBE_FORMATTER : Cond.fieldLink RJ0 1053 "jdk/internal/util/Preconditions" "SIOOBE_FORMATTER" "Ljava/util/function/BiFunction;" ∈ wsJ0_checkIndex_df160 := by decide +kernel
noncomputable def f_J0_checkIndex_df160_0 (x0 : Int32) (x1 : Int32) (S : ZS) : Option (Int32 × ZS) :=
  m_cal (f_J3_checkIndex_8e157 x0 x1 S) (fun o1 =>
  some (0, o1.2))

set_option maxRecDepth 100000 in
set_option maxHeartbeats 4000000 in
theorem w_J0_checkIndex_df160_0 {p : Program} {l : Launch} {e : Env} {s : State} {m : MethodId} {args : Array Value} {below : List Frame} {meth : Method} {c : Code} {Q : State → Prop} {D : va_G} {y : Nat → ClassId} {A0 : Nat → Prop} {o : Int32 × ZS} (X : CallFix p m c cJ0_checkIndex_df160 2 s args wsJ0_checkIndex_df160 RJ0) (hret : zRv p l e ({ frames := 1, cells := 0, slots := 0, locals := 22 } : Room) s m args below meth c Q cJ0_checkIndex_df160 D y A0 o) {x0 : Int32} {x1 : Int32} {S : ZS} {H : Heap} {locs : List Loc} {ls : Array Slot} (hf : f_J0_checkIndex_df160_0 x0 x1 S = some o) (hM : zH D y A0 s H locs S) (hl : lv_has ls 2 [(0, .int x0), (1, .int x1)]) : W p l e ({ frames := 1, cells := 0, slots := 0, locals := 22 } : Room) s m args below meth c H locs 0 0 Q (F0 m 0 ls []) := by
  obtain ⟨hx, hb, hml, hown, hts⟩ := id X
  unfold f_J0_checkIndex_df160_0 at hf
  refine lv_iload_n hx hb dJ0_checkIndex_df160_0 rfl (lv_at hl 0 rfl) ?_
  refine lv_iload_n hx hb dJ0_checkIndex_df160_1 rfl (lv_at hl 1 rfl) ?_
  refine z_form X hM gs_J0_checkIndex_df160_SIOOBE_FORMATTER dJ0_checkIndex_df160_2 ?_
  obtain ⟨o1, ho, hf⟩ := m_calE hf
  refine z_callSi X hM (c_J3_checkIndex_8e157 ho) gJ0_checkIndex_df160_J3_checkIndex_8e157 rfl ⟨rfl, rfl⟩ hd_J3_checkIndex_8e157 ⟨Nat.le_of_ble_eq_true rfl, Nat.le_of_ble_eq_true rfl⟩ rfl hl.1 rfl (Nat.le_of_ble_eq_true rfl) dJ0_checkIndex_df160_5 (fun H locs hM => ?_)
  clear ho
  refine lv_pop hx hb dJ0_checkIndex_df160_8 rfl ?_
  cases hf
  exact hret H locs _ ls hM dJ0_checkIndex_df160_9
noncomputable def f_J0_checkIndex_df160 (x0 : Int32) (x1 : Int32) (S : ZS) : Option (Int32 × ZS) := f_J0_checkIndex_df160_0 x0 x1 S
theorem c_J0_checkIndex_df160 {l : Launch} {D : va_G} {y : Nat → ClassId} {x0 : Int32} {x1 : Int32} {S : ZS} {o : Int32 × ZS} (hf : f_J0_checkIndex_df160 x0 x1 S = some o) : zMv l yJ0_checkIndex_df160 wsJ0_checkIndex_df160 ({ frames := 1, cells := 0, slots := 0, locals := 22 } : Room) [.int x0, .int x1] D y S o :=
  z_entryV (own := RJ0) (cc := cJ0_checkIndex_df160) (maxL := 2) (by decide) rfl rfl (Nat.le_of_ble_eq_true rfl) (fun p e s m args below meth c A0 Q H locs ls X hret hM hl => w_J0_checkIndex_df160_0 X hret hf hM (lv_sub hl [0, 1] rfl))
theorem hd_J1_charAt_3b067 : yJ1_charAt_3b067.cls ≠ "java/lang/invoke/MethodHandle" ∧ yJ1_charAt_3b067.cls ≠ "java/lang/invoke/VarHandle" ∧ (parseMethodDescriptor yJ1_charAt_3b067.desc).map (fun d => d.parameters.length) = some 2 := by decide +kernel
noncomputable def f_J1_charAt_3b067_0 (x0 : Nat) (x1 : Int32) (S : ZS) : Option (Int32 × ZS) :=
  m_chk (x0 < zSn) (
  m_bnd (Int32.ofNat (zSl.getD x0 0)) (fun v1 =>
  m_cal (f_J0_checkIndex_df160 x1 v1 S) (fun o2 =>
  m_chk (x0 < zSn) (
  m_chk (¬ (x1 < 0 ∨ zSl.getD x0 0 ≤ (x1).toNatClampNeg)) (
  m_bnd ((zSb.getD x0 []).getD (x1).toNatClampNeg 0) (fun v3 =>
  m_bnd (v3 &&& (255 : Int32)) (fun v4 =>
  m_bnd ((v4.toUInt32 % 65536).toInt32) (fun v5 =>
  m_chk (vp_nar .char v5 = v5) (some (v5, o2.2))))))))))

set_option maxRecDepth 100000 in
set_option maxHeartbeats 4000000 in
theorem w_J1_charAt_3b067_0 {p : Program} {l : Launch} {e : Env} {s : State} {m : MethodId} {args : Array Value} {below : List Frame} {meth : Method} {c : Code} {Q : State → Prop} {D : va_G} {y : Nat → ClassId} {A0 : Nat → Prop} {o : Int32 × ZS} (X : CallFix p m c cJ1_charAt_3b067 2 s args wsJ1_charAt_3b067 RJ1) (hret : zRi p l e ({ frames := 2, cells := 0, slots := 0, locals := 43 } : Room) s m args below meth c Q cJ1_charAt_3b067 D y A0 .char o) {x0 : Nat} {x1 : Int32} {S : ZS} {H : Heap} {locs : List Loc} {ls : Array Slot} (hf : f_J1_charAt_3b067_0 x0 x1 S = some o) (hM : zH D y A0 s H locs S) (hl : lv_has ls 2 [(0, .ref (y (200 + x0))), (1, .int x1)]) : W p l e ({ frames := 2, cells := 0, slots := 0, locals := 43 } : Room) s m args below meth c H locs 0 0 Q (F0 m 0 ls []) := by
  obtain ⟨hx, hb, hml, hown, hts⟩ := id X
  unfold f_J1_charAt_3b067_0 at hf
  refine lv_iload_n hx hb dJ1_charAt_3b067_0 rfl (lv_at hl 1 rfl) ?_
  refine lv_aload_n hx hb dJ1_charAt_3b067_1 rfl (lv_at hl 0 rfl) ?_
  obtain ⟨cd, hf⟩ := m_chkE hf
  refine z_slen X hM cd dJ1_charAt_3b067_2 ?_
  clear cd
  obtain ⟨v1, ev, hf⟩ := m_bndE hf
  refine m_top ev ?_
  clear ev
  obtain ⟨o2, ho, hf⟩ := m_calE hf
  refine z_callSv X hM (c_J0_checkIndex_df160 ho) gJ1_charAt_3b067_J0_checkIndex_df160 rfl ⟨rfl, rfl⟩ hd_J0_checkIndex_df160 ⟨Nat.le_of_ble_eq_true rfl, Nat.le_of_ble_eq_true rfl⟩ rfl hl.1 rfl (Nat.le_of_ble_eq_true rfl) dJ1_charAt_3b067_3 (fun H locs hM => ?_)
  clear ho
  refine lv_aload_n hx hb dJ1_charAt_3b067_6 rfl (lv_at hl 0 rfl) ?_
  refine lv_iload_n hx hb dJ1_charAt_3b067_7 rfl (lv_at hl 1 rfl) ?_
  obtain ⟨ca, hf⟩ := m_chkE hf
  obtain ⟨cd, hf⟩ := m_chkE hf
  refine z_sbyt X hM ca cd dJ1_charAt_3b067_8 ?_
  clear ca cd
  obtain ⟨v3, ev, hf⟩ := m_bndE hf
  refine m_top ev ?_
  clear ev
  refine lv_sipush (v := (255 : Int32)) hx hb dJ1_charAt_3b067_9 (by decide) ?_
  refine lv_iand hx hb dJ1_charAt_3b067_12 ?_
  obtain ⟨v4, ev, hf⟩ := m_bndE hf
  refine m_top ev ?_
  clear ev
  refine lv_i2c (v := (v4.toUInt32 % 65536).toInt32) hx hb dJ1_charAt_3b067_13 rfl ?_
  obtain ⟨v5, ev, hf⟩ := m_bndE hf
  refine m_top ev ?_
  clear ev
  obtain ⟨cd, hf⟩ := m_chkE hf
  cases hf
  exact hret H locs _ ls hM (m_nc cd) dJ1_charAt_3b067_14
noncomputable def f_J1_charAt_3b067 (x0 : Nat) (x1 : Int32) (S : ZS) : Option (Int32 × ZS) := f_J1_charAt_3b067_0 x0 x1 S
theorem c_J1_charAt_3b067 {l : Launch} {D : va_G} {y : Nat → ClassId} {x0 : Nat} {x1 : Int32} {S : ZS} {o : Int32 × ZS} (hf : f_J1_charAt_3b067 x0 x1 S = some o) : zMi l yJ1_charAt_3b067 wsJ1_charAt_3b067 ({ frames := 2, cells := 0, slots := 0, locals := 43 } : Room) [.ref (y (200 + x0)), .int x1] D y S o :=
  z_entryI (own := RJ1) (cc := cJ1_charAt_3b067) (maxL := 2) (by decide) rfl rfl (Nat.le_of_ble_eq_true rfl) (fun p e s m args below meth c A0 Q H locs ls X hret hM hl => w_J1_charAt_3b067_0 X hret hf hM (lv_sub hl [0, 1] rfl))
theorem hd_J0_charAt_5068e : yJ0_charAt_5068e.cls = RJ0 ∧ yJ0_charAt_5068e.cls ≠ "java/lang/invoke/MethodHandle" ∧ yJ0_charAt_5068e.cls ≠ "java/lang/invoke/VarHandle" ∧ (parseMethodDescriptor yJ0_charAt_5068e.desc).map (fun d => d.parameters.length) = some 1 := by decide +kernel
theorem sl_J0_charAt_5068e_value : Cond.fieldLink RJ0 9 "java/lang/String" "value" "[B" ∈ wsJ0_charAt_5068e := by decide +kernel
noncomputable def f_J0_charAt_5068e_0 (x0 : Nat) (x1 : Int32) (S : ZS) : Option (Int32 × ZS) :=
  m_chk (x0 < zSn) (
  m_cal (f_J0_isLatin1_aae02 x0 S) (fun o1 =>
  m_if (o1.1 = 0) (
  none
  ) (
  m_chk (x0 < zSn) (
  m_cal (f_J1_charAt_3b067 x0 x1 o1.2) (fun o2 =>
  m_chk (vp_nar .char o2.1 = o2.1) (some (o2.1, o2.2))))
  )))

set_option maxRecDepth 100000 in
set_option maxHeartbeats 4000000 in
theorem w_J0_charAt_5068e_0 {p : Program} {l : Launch} {e : Env} {s : State} {m : MethodId} {args : Array Value} {below : List Frame} {meth : Method} {c : Code} {Q : State → Prop} {D : va_G} {y : Nat → ClassId} {A0 : Nat → Prop} {o : Int32 × ZS} (X : CallFix p m c cJ0_charAt_5068e 2 s args wsJ0_charAt_5068e RJ0) (hret : zRi p l e ({ frames := 3, cells := 0, slots := 0, locals := 64 } : Room) s m args below meth c Q cJ0_charAt_5068e D y A0 .char o) {x0 : Nat} {x1 : Int32} {S : ZS} {H : Heap} {locs : List Loc} {ls : Array Slot} (hf : f_J0_charAt_5068e_0 x0 x1 S = some o) (hM : zH D y A0 s H locs S) (hl : lv_has ls 2 [(0, .ref (y (100 + x0))), (1, .int x1)]) : W p l e ({ frames := 3, cells := 0, slots := 0, locals := 64 } : Room) s m args below meth c H locs 0 0 Q (F0 m 0 ls []) := by
  obtain ⟨hx, hb, hml, hown, hts⟩ := id X
  unfold f_J0_charAt_5068e_0 at hf
  refine lv_aload_n hx hb dJ0_charAt_5068e_0 rfl (lv_at hl 0 rfl) ?_
  obtain ⟨ca, hf⟩ := m_chkE hf
  obtain ⟨o1, ho, hf⟩ := m_calE hf
  refine z_callTi X hM ca (c_J0_isLatin1_aae02 ho) gJ0_charAt_5068e_J0_isLatin1_aae02 rfl ⟨rfl, rfl⟩ hd_J0_isLatin1_aae02 ⟨Nat.le_of_ble_eq_true rfl, Nat.le_of_ble_eq_true rfl⟩ rfl hl.1 rfl (Nat.le_of_ble_eq_true rfl) dJ0_charAt_5068e_1 (fun H locs hM => ?_)
  clear ho
  refine lv_if_eq (tgt := 16) hx hb dJ0_charAt_5068e_4 (by decide) (fun cc1 => ?_) (fun cc1 => ?_)
  · replace hf := m_ifT hf cc1
    cases hf
  · replace hf := m_ifF hf cc1
    refine lv_aload_n hx hb dJ0_charAt_5068e_7 rfl (lv_at hl 0 rfl) ?_
    obtain ⟨cd, hf⟩ := m_chkE hf
    refine z_sval X hM cd sl_J0_charAt_5068e_value dJ0_charAt_5068e_8 ?_
    clear cd
    refine lv_iload_n hx hb dJ0_charAt_5068e_11 rfl (lv_at hl 1 rfl) ?_
    obtain ⟨o2, ho, hf⟩ := m_calE hf
    refine z_callSi X hM (c_J1_charAt_3b067 ho) gJ0_charAt_5068e_J1_charAt_3b067 rfl ⟨rfl, rfl⟩ hd_J1_charAt_3b067 ⟨Nat.le_of_ble_eq_true rfl, Nat.le_of_ble_eq_true rfl⟩ rfl hl.1 rfl (Nat.le_of_ble_eq_true rfl) dJ0_charAt_5068e_12 (fun H locs hM => ?_)
    clear ho
    obtain ⟨cd, hf⟩ := m_chkE hf
    cases hf
    exact hret H locs _ ls hM (m_nc cd) dJ0_charAt_5068e_15
noncomputable def f_J0_charAt_5068e (x0 : Nat) (x1 : Int32) (S : ZS) : Option (Int32 × ZS) := f_J0_charAt_5068e_0 x0 x1 S
theorem c_J0_charAt_5068e {l : Launch} {D : va_G} {y : Nat → ClassId} {x0 : Nat} {x1 : Int32} {S : ZS} {o : Int32 × ZS} (hf : f_J0_charAt_5068e x0 x1 S = some o) : zMi l yJ0_charAt_5068e wsJ0_charAt_5068e ({ frames := 3, cells := 0, slots := 0, locals := 64 } : Room) [.ref (y (100 + x0)), .int x1] D y S o :=
  z_entryI (own := RJ0) (cc := cJ0_charAt_5068e) (maxL := 2) (by decide) rfl rfl (Nat.le_of_ble_eq_true rfl) (fun p e s m args below meth c A0 Q H locs ls X hret hM hl => w_J0_charAt_5068e_0 X hret hf hM (lv_sub hl [0, 1] rfl))
theorem hd_X6_holds : yX6_holds.cls = RX6 ∧ yX6_holds.cls ≠ "java/lang/invoke/MethodHandle" ∧ yX6_holds.cls ≠ "java/lang/invoke/VarHandle" ∧ (parseMethodDescriptor yX6_holds.desc).map (fun d => d.parameters.length) = some 2 := by decide +kernel
theorem fl_X6_holds_6_0 : Cond.fieldLink RX6 13 "MoveTexts$Row" "chars" "[C" ∈ wsX6_holds := by decide +kernel
theorem fl_X6_holds_6_1 : Cond.fieldLink RX6 16 "MoveTexts$Row" "length" "I" ∈ wsX6_holds := by decide +kernel
theorem hw_X6_holds_6 : ∀ w ∈ wsX60, w ∈ wsX6_holds := by decide +kernel
noncomputable def f_X6_holds_17 (S : ZS) : Option (Int32 × ZS) :=
  m_chk (vp_nar .boolean (0 : Int32) = (0 : Int32)) (some ((0 : Int32), S))

set_option maxRecDepth 100000 in
set_option maxHeartbeats 4000000 in
theorem w_X6_holds_17 {p : Program} {l : Launch} {e : Env} {s : State} {m : MethodId} {args : Array Value} {below : List Frame} {meth : Method} {c : Code} {Q : State → Prop} {D : va_G} {y : Nat → ClassId} {A0 : Nat → Prop} {o : Int32 × ZS} (X : CallFix p m c cX6_holds 4 s args wsX6_holds RX6) (hret : zRi p l e ({ frames := 4, cells := 0, slots := 0, locals := 85 } : Room) s m args below meth c Q cX6_holds D y A0 .boolean o) {S : ZS} {H : Heap} {locs : List Loc} {ls : Array Slot} (hf : f_X6_holds_17  S = some o) (hM : zH D y A0 s H locs S) (hl : lv_has ls 4 []) : W p l e ({ frames := 4, cells := 0, slots := 0, locals := 85 } : Room) s m args below meth c H locs 0 0 Q (F0 m 17 ls []) := by
  obtain ⟨hx, hb, hml, hown, hts⟩ := id X
  unfold f_X6_holds_17 at hf
  refine lv_iconst (v := (0 : Int32)) hx hb dX6_holds_17 (by decide) ?_
  obtain ⟨cd, hf⟩ := m_chkE hf
  cases hf
  exact hret H locs _ ls hM (m_nb cd) dX6_holds_18
noncomputable def f_X6_holds_21s (self21 : Nat → Nat → Int32 → Int32 → ZS → Option (Int32 × ZS)) (x0 : Nat) (x1 : Nat) (x2 : Int32) (x3 : Int32) (S : ZS) : Option (Int32 × ZS) :=
  m_chk (x1 < zSn) (
  m_cal (f_J0_length_8abf5 x1 S) (fun o1 =>
  m_if (o1.1 ≤ x3) (
  m_chk (vp_nar .boolean (1 : Int32) = (1 : Int32)) (some ((1 : Int32), o1.2))
  ) (
  m_chk (zK o1.2 x0 = 6) (
  m_cal (zP o1.2 0 x0) (fun b2 =>
  m_bnd (x2 + x3) (fun v3 =>
  m_chk (zK o1.2 b2 = 13) (
  m_chk (¬ (v3 < 0 ∨ zN o1.2 b2 ≤ (v3).toNatClampNeg)) (
  m_bnd (zA o1.2 b2 (v3).toNatClampNeg) (fun v4 =>
  m_chk (x1 < zSn) (
  m_cal (f_J0_charAt_5068e x1 x3 o1.2) (fun o5 =>
  m_if (v4 = o5.1) (
  m_bnd (x3 + (1 : Int32)) (fun v6 =>
  self21 x0 x1 x2 v6 o5.2)
  ) (
  m_chk (vp_nar .boolean (0 : Int32) = (0 : Int32)) (some ((0 : Int32), o5.2))
  )))))))))
  )))

set_option maxRecDepth 100000 in
set_option maxHeartbeats 4000000 in
theorem ws_X6_holds_21 {p : Program} {l : Launch} {e : Env} {s : State} {m : MethodId} {args : Array Value} {below : List Frame} {meth : Method} {c : Code} {Q : State → Prop} {D : va_G} {y : Nat → ClassId} {A0 : Nat → Prop} {o : Int32 × ZS} (X : CallFix p m c cX6_holds 4 s args wsX6_holds RX6) (hret : zRi p l e ({ frames := 4, cells := 0, slots := 0, locals := 85 } : Room) s m args below meth c Q cX6_holds D y A0 .boolean o) {self21 : Nat → Nat → Int32 → Int32 → ZS → Option (Int32 × ZS)} (hself21 : ∀ (x0 : Nat) (x1 : Nat) (x2 : Int32) (x3 : Int32) (S : ZS) (H : Heap) (locs : List Loc) (ls : Array Slot), self21 x0 x1 x2 x3 S = some o → zH D y A0 s H locs S → lv_has ls 4 [(0, .ref (zh y x0)), (1, .ref (y (100 + x1))), (2, .int x2), (3, .int x3)] → W p l e ({ frames := 4, cells := 0, slots := 0, locals := 85 } : Room) s m args below meth c H locs 0 0 Q (F0 m 21 ls [])) {x0 : Nat} {x1 : Nat} {x2 : Int32} {x3 : Int32} {S : ZS} {H : Heap} {locs : List Loc} {ls : Array Slot} (hf : f_X6_holds_21s self21 x0 x1 x2 x3 S = some o) (hM : zH D y A0 s H locs S) (hl : lv_has ls 4 [(0, .ref (zh y x0)), (1, .ref (y (100 + x1))), (2, .int x2), (3, .int x3)]) : W p l e ({ frames := 4, cells := 0, slots := 0, locals := 85 } : Room) s m args below meth c H locs 0 0 Q (F0 m 21 ls []) := by
  obtain ⟨hx, hb, hml, hown, hts⟩ := id X
  unfold f_X6_holds_21s at hf
  refine lv_iload_n hx hb dX6_holds_21 rfl (lv_at hl 3 rfl) ?_
  refine lv_aload_n hx hb dX6_holds_22 rfl (lv_at hl 1 rfl) ?_
  obtain ⟨ca, hf⟩ := m_chkE hf
  obtain ⟨o1, ho, hf⟩ := m_calE hf
  refine z_callTi X hM ca (c_J0_length_8abf5 ho) gX6_holds_J0_length_8abf5 rfl ⟨rfl, rfl⟩ hd_J0_length_8abf5 ⟨Nat.le_of_ble_eq_true rfl, Nat.le_of_ble_eq_true rfl⟩ rfl hl.1 rfl (Nat.le_of_ble_eq_true rfl) dX6_holds_23 (fun H locs hM => ?_)
  clear ho
  refine lv_icmp_ge (tgt := 53) hx hb dX6_holds_26 (by decide) (fun cc1 => ?_) (fun cc1 => ?_)
  · replace hf := m_ifT hf cc1
    refine lv_iconst (v := (1 : Int32)) hx hb dX6_holds_53 (by decide) ?_
    obtain ⟨cd, hf⟩ := m_chkE hf
    cases hf
    exact hret H locs _ ls hM (m_nb cd) dX6_holds_54
  · replace hf := m_ifF hf cc1
    refine lv_aload_n hx hb dX6_holds_29 rfl (lv_at hl 0 rfl) ?_
    obtain ⟨ca, hf⟩ := m_chkE hf
    replace ca := z_in hM (by decide) ca
    refine z_get (k := 6) (j := 0) (C := RX6) (T := TX6) (N := 2) (fl := zf_6) (v := va_rf ((zP o1.2 0 x0).map (zh y))) X hw_X6_holds_6 hM rfl zc_6 ca (by decide) fl_X6_holds_6_0 rfl dX6_holds_30 ?_
    clear ca
    obtain ⟨b2, hb9, hf⟩ := m_calE hf
    refine z_topr hb9 ?_
    clear hb9
    refine lv_iload_n hx hb dX6_holds_33 rfl (lv_at hl 2 rfl) ?_
    refine lv_iload_n hx hb dX6_holds_34 rfl (lv_at hl 3 rfl) ?_
    refine lv_iadd hx hb dX6_holds_35 ?_
    obtain ⟨v3, ev, hf⟩ := m_bndE hf
    refine m_top ev ?_
    clear ev
    obtain ⟨ca, hf⟩ := m_chkE hf
    replace ca := z_in hM (by decide) ca
    obtain ⟨cd, hf⟩ := m_chkE hf
    refine z_cald X hM ca cd dX6_holds_36 ?_
    clear ca cd
    obtain ⟨v4, ev, hf⟩ := m_bndE hf
    refine m_top ev ?_
    clear ev
    refine lv_aload_n hx hb dX6_holds_37 rfl (lv_at hl 1 rfl) ?_
    refine lv_iload_n hx hb dX6_holds_38 rfl (lv_at hl 3 rfl) ?_
    obtain ⟨ca, hf⟩ := m_chkE hf
    obtain ⟨o5, ho, hf⟩ := m_calE hf
    refine z_callTi X hM ca (c_J0_charAt_5068e ho) gX6_holds_J0_charAt_5068e rfl ⟨rfl, rfl⟩ hd_J0_charAt_5068e ⟨Nat.le_of_ble_eq_true rfl, Nat.le_of_ble_eq_true rfl⟩ rfl hl.1 rfl (Nat.le_of_ble_eq_true rfl) dX6_holds_39 (fun H locs hM => ?_)
    clear ho
    refine lv_icmp_eq (tgt := 47) hx hb dX6_holds_42 (by decide) (fun cc1 => ?_) (fun cc1 => ?_)
    · replace hf := m_ifT hf cc1
      obtain ⟨v6, ev, hf⟩ := m_bndE hf
      refine lv_iinc (v := v6) (lv' := [(3, .int v6), (0, .ref (zh y x0)), (1, .ref (y (100 + x1))), (2, .int x2)]) hx hb dX6_holds_47 hl (k := 3) rfl (by rw [ev]; rfl) (by decide) rfl (fun ls hl => ?_)
      clear ev
      refine lv_goto (tgt := 21) hx hb dX6_holds_50 (by decide) ?_
      exact hself21 x0 x1 x2 v6 _ _ _ _ hf hM (lv_sub hl [1, 2, 3, 0] rfl)
    · replace hf := m_ifF hf cc1
      refine lv_iconst (v := (0 : Int32)) hx hb dX6_holds_45 (by decide) ?_
      obtain ⟨cd, hf⟩ := m_chkE hf
      cases hf
      exact hret H locs _ ls hM (m_nb cd) dX6_holds_46
noncomputable def f_X6_holds_21 : Nat → Nat → Nat → Int32 → Int32 → ZS → Option (Int32 × ZS)
  | 0 => fun _ _ _ _ _ => none
  | n + 1 => f_X6_holds_21s (f_X6_holds_21 n)
theorem w_X6_holds_21 {p : Program} {l : Launch} {e : Env} {s : State} {m : MethodId} {args : Array Value} {below : List Frame} {meth : Method} {c : Code} {Q : State → Prop} {D : va_G} {y : Nat → ClassId} {A0 : Nat → Prop} {o : Int32 × ZS} (X : CallFix p m c cX6_holds 4 s args wsX6_holds RX6) (hret : zRi p l e ({ frames := 4, cells := 0, slots := 0, locals := 85 } : Room) s m args below meth c Q cX6_holds D y A0 .boolean o) (n : Nat) : ∀ (x0 : Nat) (x1 : Nat) (x2 : Int32) (x3 : Int32) (S : ZS) (H : Heap) (locs : List Loc) (ls : Array Slot), f_X6_holds_21 n x0 x1 x2 x3 S = some o → zH D y A0 s H locs S → lv_has ls 4 [(0, .ref (zh y x0)), (1, .ref (y (100 + x1))), (2, .int x2), (3, .int x3)] → W p l e ({ frames := 4, cells := 0, slots := 0, locals := 85 } : Room) s m args below meth c H locs 0 0 Q (F0 m 21 ls []) := by
  induction n with
  | zero => intro x0 x1 x2 x3 S H locs ls hf; cases hf
  | succ n ih => intro x0 x1 x2 x3 S H locs ls hf hM hl; exact ws_X6_holds_21 X hret (self21 := f_X6_holds_21 n) ih hf hM hl
noncomputable def f_X6_holds_0 (x0 : Nat) (x1 : Nat) (x2 : Int32) (S : ZS) : Option (Int32 × ZS) :=
  m_if (x2 < 0) (
  f_X6_holds_17  S
  ) (
  m_chk (x1 < zSn) (
  m_cal (f_J0_length_8abf5 x1 S) (fun o1 =>
  m_bnd (x2 + o1.1) (fun v2 =>
  m_chk (zK o1.2 x0 = 6) (
  m_if (v2 ≤ (zI o1.2 1 x0)) (
  f_X6_holds_21 mFuel x0 x1 x2 (0 : Int32) o1.2
  ) (
  f_X6_holds_17  o1.2
  )))))
  )

set_option maxRecDepth 100000 in
set_option maxHeartbeats 4000000 in
theorem w_X6_holds_0 {p : Program} {l : Launch} {e : Env} {s : State} {m : MethodId} {args : Array Value} {below : List Frame} {meth : Method} {c : Code} {Q : State → Prop} {D : va_G} {y : Nat → ClassId} {A0 : Nat → Prop} {o : Int32 × ZS} (X : CallFix p m c cX6_holds 4 s args wsX6_holds RX6) (hret : zRi p l e ({ frames := 4, cells := 0, slots := 0, locals := 85 } : Room) s m args below meth c Q cX6_holds D y A0 .boolean o) {x0 : Nat} {x1 : Nat} {x2 : Int32} {S : ZS} {H : Heap} {locs : List Loc} {ls : Array Slot} (hf : f_X6_holds_0 x0 x1 x2 S = some o) (hM : zH D y A0 s H locs S) (hl : lv_has ls 4 [(0, .ref (zh y x0)), (1, .ref (y (100 + x1))), (2, .int x2)]) : W p l e ({ frames := 4, cells := 0, slots := 0, locals := 85 } : Room) s m args below meth c H locs 0 0 Q (F0 m 0 ls []) := by
  obtain ⟨hx, hb, hml, hown, hts⟩ := id X
  unfold f_X6_holds_0 at hf
  refine lv_iload_n hx hb dX6_holds_0 rfl (lv_at hl 2 rfl) ?_
  refine lv_if_lt (tgt := 17) hx hb dX6_holds_1 (by decide) (fun cc1 => ?_) (fun cc1 => ?_)
  · replace hf := m_ifT hf cc1
    exact w_X6_holds_17 X hret hf hM (lv_sub hl [] rfl)
  · replace hf := m_ifF hf cc1
    refine lv_iload_n hx hb dX6_holds_4 rfl (lv_at hl 2 rfl) ?_
    refine lv_aload_n hx hb dX6_holds_5 rfl (lv_at hl 1 rfl) ?_
    obtain ⟨ca, hf⟩ := m_chkE hf
    obtain ⟨o1, ho, hf⟩ := m_calE hf
    refine z_callTi X hM ca (c_J0_length_8abf5 ho) gX6_holds_J0_length_8abf5 rfl ⟨rfl, rfl⟩ hd_J0_length_8abf5 ⟨Nat.le_of_ble_eq_true rfl, Nat.le_of_ble_eq_true rfl⟩ rfl hl.1 rfl (Nat.le_of_ble_eq_true rfl) dX6_holds_6 (fun H locs hM => ?_)
    clear ho
    refine lv_iadd hx hb dX6_holds_9 ?_
    obtain ⟨v2, ev, hf⟩ := m_bndE hf
    refine m_top ev ?_
    clear ev
    refine lv_aload_n hx hb dX6_holds_10 rfl (lv_at hl 0 rfl) ?_
    obtain ⟨ca, hf⟩ := m_chkE hf
    replace ca := z_in hM (by decide) ca
    refine z_get (k := 6) (j := 1) (C := RX6) (T := TX6) (N := 2) (fl := zf_6) (v := .int (zI o1.2 1 x0)) X hw_X6_holds_6 hM rfl zc_6 ca (by decide) fl_X6_holds_6_1 rfl dX6_holds_11 ?_
    clear ca
    refine lv_icmp_le (tgt := 19) hx hb dX6_holds_14 (by decide) (fun cc1 => ?_) (fun cc1 => ?_)
    · replace hf := m_ifT hf cc1
      refine lv_iconst (v := (0 : Int32)) hx hb dX6_holds_19 (by decide) ?_
      refine lv_istore_n (lv' := [(3, .int (0 : Int32)), (0, .ref (zh y x0)), (1, .ref (y (100 + x1))), (2, .int x2)]) hx hb dX6_holds_20 rfl hl (by decide) rfl (fun ls hl => ?_)
      exact w_X6_holds_21 X hret _ x0 x1 x2 (0 : Int32) _ _ _ _ hf hM (lv_sub hl [1, 2, 3, 0] rfl)
    · replace hf := m_ifF hf cc1
      exact w_X6_holds_17 X hret hf hM (lv_sub hl [] rfl)
noncomputable def f_X6_holds (x0 : Nat) (x1 : Nat) (x2 : Int32) (S : ZS) : Option (Int32 × ZS) := f_X6_holds_0 x0 x1 x2 S
theorem c_X6_holds {l : Launch} {D : va_G} {y : Nat → ClassId} {x0 : Nat} {x1 : Nat} {x2 : Int32} {S : ZS} {o : Int32 × ZS} (hf : f_X6_holds x0 x1 x2 S = some o) : zMi l yX6_holds wsX6_holds ({ frames := 4, cells := 0, slots := 0, locals := 85 } : Room) [.ref (zh y x0), .ref (y (100 + x1)), .int x2] D y S o :=
  z_entryI (own := RX6) (cc := cX6_holds) (maxL := 4) (by decide) rfl rfl (Nat.le_of_ble_eq_true rfl) (fun p e s m args below meth c A0 Q H locs ls X hret hM hl => w_X6_holds_0 X hret hf hM (lv_sub hl [0, 1, 2] rfl))
theorem hd_X6_is : yX6_is.cls = RX6 ∧ yX6_is.cls ≠ "java/lang/invoke/MethodHandle" ∧ yX6_is.cls ≠ "java/lang/invoke/VarHandle" ∧ (parseMethodDescriptor yX6_is.desc).map (fun d => d.parameters.length) = some 1 := by decide +kernel
theorem fl_X6_is_6_1 : Cond.fieldLink RX6 16 "MoveTexts$Row" "length" "I" ∈ wsX6_is := by decide +kernel
theorem hw_X6_is_6 : ∀ w ∈ wsX60, w ∈ wsX6_is := by decide +kernel
noncomputable def f_X6_is_25 (t0 : Int32) (S : ZS) : Option (Int32 × ZS) :=
  m_chk (vp_nar .boolean t0 = t0) (some (t0, S))

set_option maxRecDepth 100000 in
set_option maxHeartbeats 4000000 in
theorem w_X6_is_25 {p : Program} {l : Launch} {e : Env} {s : State} {m : MethodId} {args : Array Value} {below : List Frame} {meth : Method} {c : Code} {Q : State → Prop} {D : va_G} {y : Nat → ClassId} {A0 : Nat → Prop} {o : Int32 × ZS} (X : CallFix p m c cX6_is 2 s args wsX6_is RX6) (hret : zRi p l e ({ frames := 5, cells := 0, slots := 0, locals := 108 } : Room) s m args below meth c Q cX6_is D y A0 .boolean o) {t0 : Int32} {S : ZS} {H : Heap} {locs : List Loc} {ls : Array Slot} (hf : f_X6_is_25 t0 S = some o) (hM : zH D y A0 s H locs S) (hl : lv_has ls 2 []) : W p l e ({ frames := 5, cells := 0, slots := 0, locals := 108 } : Room) s m args below meth c H locs 0 0 Q (F0 m 25 ls [.int t0]) := by
  obtain ⟨hx, hb, hml, hown, hts⟩ := id X
  unfold f_X6_is_25 at hf
  obtain ⟨cd, hf⟩ := m_chkE hf
  cases hf
  exact hret H locs _ ls hM (m_nb cd) dX6_is_25
noncomputable def f_X6_is_24 (S : ZS) : Option (Int32 × ZS) :=
  f_X6_is_25 (0 : Int32) S

set_option maxRecDepth 100000 in
set_option maxHeartbeats 4000000 in
theorem w_X6_is_24 {p : Program} {l : Launch} {e : Env} {s : State} {m : MethodId} {args : Array Value} {below : List Frame} {meth : Method} {c : Code} {Q : State → Prop} {D : va_G} {y : Nat → ClassId} {A0 : Nat → Prop} {o : Int32 × ZS} (X : CallFix p m c cX6_is 2 s args wsX6_is RX6) (hret : zRi p l e ({ frames := 5, cells := 0, slots := 0, locals := 108 } : Room) s m args below meth c Q cX6_is D y A0 .boolean o) {S : ZS} {H : Heap} {locs : List Loc} {ls : Array Slot} (hf : f_X6_is_24  S = some o) (hM : zH D y A0 s H locs S) (hl : lv_has ls 2 []) : W p l e ({ frames := 5, cells := 0, slots := 0, locals := 108 } : Room) s m args below meth c H locs 0 0 Q (F0 m 24 ls []) := by
  obtain ⟨hx, hb, hml, hown, hts⟩ := id X
  unfold f_X6_is_24 at hf
  refine lv_iconst (v := (0 : Int32)) hx hb dX6_is_24 (by decide) ?_
  exact w_X6_is_25 (t0 := (0 : Int32)) X hret hf hM (lv_sub hl [] rfl)
noncomputable def f_X6_is_0 (x0 : Nat) (x1 : Nat) (S : ZS) : Option (Int32 × ZS) :=
  m_chk (zK S x0 = 6) (
  m_chk (x1 < zSn) (
  m_cal (f_J0_length_8abf5 x1 S) (fun o1 =>
  m_if ((zI S 1 x0) = o1.1) (
  m_chk (zK o1.2 x0 = 6) (
  m_cal (f_X6_holds x0 x1 (0 : Int32) o1.2) (fun o2 =>
  m_if (o2.1 = 0) (
  f_X6_is_24  o2.2
  ) (
  f_X6_is_25 (1 : Int32) o2.2
  )))
  ) (
  f_X6_is_24  o1.2
  ))))

set_option maxRecDepth 100000 in
set_option maxHeartbeats 4000000 in
theorem w_X6_is_0 {p : Program} {l : Launch} {e : Env} {s : State} {m : MethodId} {args : Array Value} {below : List Frame} {meth : Method} {c : Code} {Q : State → Prop} {D : va_G} {y : Nat → ClassId} {A0 : Nat → Prop} {o : Int32 × ZS} (X : CallFix p m c cX6_is 2 s args wsX6_is RX6) (hret : zRi p l e ({ frames := 5, cells := 0, slots := 0, locals := 108 } : Room) s m args below meth c Q cX6_is D y A0 .boolean o) {x0 : Nat} {x1 : Nat} {S : ZS} {H : Heap} {locs : List Loc} {ls : Array Slot} (hf : f_X6_is_0 x0 x1 S = some o) (hM : zH D y A0 s H locs S) (hl : lv_has ls 2 [(0, .ref (zh y x0)), (1, .ref (y (100 + x1)))]) : W p l e ({ frames := 5, cells := 0, slots := 0, locals := 108 } : Room) s m args below meth c H locs 0 0 Q (F0 m 0 ls []) := by
  obtain ⟨hx, hb, hml, hown, hts⟩ := id X
  unfold f_X6_is_0 at hf
  refine lv_aload_n hx hb dX6_is_0 rfl (lv_at hl 0 rfl) ?_
  obtain ⟨ca, hf⟩ := m_chkE hf
  replace ca := z_in hM (by decide) ca
  refine z_get (k := 6) (j := 1) (C := RX6) (T := TX6) (N := 2) (fl := zf_6) (v := .int (zI S 1 x0)) X hw_X6_is_6 hM rfl zc_6 ca (by decide) fl_X6_is_6_1 rfl dX6_is_1 ?_
  clear ca
  refine lv_aload_n hx hb dX6_is_4 rfl (lv_at hl 1 rfl) ?_
  obtain ⟨ca, hf⟩ := m_chkE hf
  obtain ⟨o1, ho, hf⟩ := m_calE hf
  refine z_callTi X hM ca (c_J0_length_8abf5 ho) gX6_is_J0_length_8abf5 rfl ⟨rfl, rfl⟩ hd_J0_length_8abf5 ⟨Nat.le_of_ble_eq_true rfl, Nat.le_of_ble_eq_true rfl⟩ rfl hl.1 rfl (Nat.le_of_ble_eq_true rfl) dX6_is_5 (fun H locs hM => ?_)
  clear ho
  refine lv_icmp_ne (tgt := 24) hx hb dX6_is_8 (by decide) (fun cc1 => ?_) (fun cc1 => ?_)
  · replace hf := m_ifF hf cc1
    exact w_X6_is_24 X hret hf hM (lv_sub hl [] rfl)
  · replace hf := m_ifT hf cc1
    refine lv_aload_n hx hb dX6_is_11 rfl (lv_at hl 0 rfl) ?_
    refine lv_aload_n hx hb dX6_is_12 rfl (lv_at hl 1 rfl) ?_
    refine lv_iconst (v := (0 : Int32)) hx hb dX6_is_13 (by decide) ?_
    obtain ⟨ca, hf⟩ := m_chkE hf
    replace ca := z_in hM (by decide) ca
    obtain ⟨o2, ho, hf⟩ := m_calE hf
    refine z_callVi (k := 6) (C := RX6) (T := TX6) (N := 2) (fl := zf_6) X hM rfl zc_6 ca (c_X6_holds ho) gX6_is_X6_holds rfl ⟨rfl, rfl⟩ hd_X6_holds ⟨Nat.le_of_ble_eq_true rfl, Nat.le_of_ble_eq_true rfl⟩ rfl hl.1 rfl (Nat.le_of_ble_eq_true rfl) dX6_is_14 (fun H locs hM => ?_)
    clear ho
    refine lv_if_eq (tgt := 24) hx hb dX6_is_17 (by decide) (fun cc1 => ?_) (fun cc1 => ?_)
    · replace hf := m_ifT hf cc1
      exact w_X6_is_24 X hret hf hM (lv_sub hl [] rfl)
    · replace hf := m_ifF hf cc1
      refine lv_iconst (v := (1 : Int32)) hx hb dX6_is_20 (by decide) ?_
      refine lv_goto (tgt := 25) hx hb dX6_is_21 (by decide) ?_
      exact w_X6_is_25 (t0 := (1 : Int32)) X hret hf hM (lv_sub hl [] rfl)
noncomputable def f_X6_is (x0 : Nat) (x1 : Nat) (S : ZS) : Option (Int32 × ZS) := f_X6_is_0 x0 x1 S
theorem c_X6_is {l : Launch} {D : va_G} {y : Nat → ClassId} {x0 : Nat} {x1 : Nat} {S : ZS} {o : Int32 × ZS} (hf : f_X6_is x0 x1 S = some o) : zMi l yX6_is wsX6_is ({ frames := 5, cells := 0, slots := 0, locals := 108 } : Room) [.ref (zh y x0), .ref (y (100 + x1))] D y S o :=
  z_entryI (own := RX6) (cc := cX6_is) (maxL := 2) (by decide) rfl rfl (Nat.le_of_ble_eq_true rfl) (fun p e s m args below meth c A0 Q H locs ls X hret hM hl => w_X6_is_0 X hret hf hM (lv_sub hl [0, 1] rfl))
end
section
theorem hd_X11_resultSign : yX11_resultSign.cls ≠ "java/lang/invoke/MethodHandle" ∧ yX11_resultSign.cls ≠ "java/lang/invoke/VarHandle" ∧ (parseMethodDescriptor yX11_resultSign.desc).map (fun d => d.parameters.length) = some 1 := by decide +kernel
theorem sr_X11_resultSign_295 : (RX11, 295, "1-0", 3) ∈ zSR := by decide +kernel
theorem sr_X11_resultSign_297 : (RX11, 297, "0-1", 4) ∈ zSR := by decide +kernel
theorem sr_X11_resultSign_299 : (RX11, 299, "1/2-1/2", 5) ∈ zSR := by decide +kernel
theorem sr_X11_resultSign_301 : (RX11, 301, "*", 6) ∈ zSR := by decide +kernel
noncomputable def f_X11_resultSign_0 (x0 : Int32) (S : ZS) : Option (Nat × ZS) :=
  m_if (x0 = (1 : Int32)) (
  some (3, S)
  ) (
  m_if (x0 = (2 : Int32)) (
  some (4, S)
  ) (
  m_if (x0 = (3 : Int32)) (
  some (5, S)
  ) (
  some (6, S)
  )))

set_option maxRecDepth 100000 in
set_option maxHeartbeats 4000000 in
theorem w_X11_resultSign_0 {p : Program} {l : Launch} {e : Env} {s : State} {m : MethodId} {args : Array Value} {below : List Frame} {meth : Method} {c : Code} {Q : State → Prop} {D : va_G} {y : Nat → ClassId} {A0 : Nat → Prop} {o : Nat × ZS} (X : CallFix p m c cX11_resultSign 1 s args wsX11_resultSign RX11) (hret : zRr p l e ({ frames := 0, cells := 0, slots := 0, locals := 0 } : Room) s m args below meth c Q cX11_resultSign D y A0 (y (100 + o.1), o.2)) {x0 : Int32} {S : ZS} {H : Heap} {locs : List Loc} {ls : Array Slot} (hf : f_X11_resultSign_0 x0 S = some o) (hM : zH D y A0 s H locs S) (hl : lv_has ls 1 [(0, .int x0)]) : W p l e ({ frames := 0, cells := 0, slots := 0, locals := 0 } : Room) s m args below meth c H locs 0 0 Q (F0 m 0 ls []) := by
  obtain ⟨hx, hb, hml, hown, hts⟩ := id X
  unfold f_X11_resultSign_0 at hf
  refine lv_iload_n hx hb dX11_resultSign_0 rfl (lv_at hl 0 rfl) ?_
  by_cases ck0 : x0 = (1 : Int32)
  · replace hf := m_ifT hf ck0
    refine lv_tableIn (off := 27) (tgt := 28) hx hb dX11_resultSign_1 (by rw [ck0]; decide) (by rw [ck0]; decide) (by rw [ck0]; decide) (by decide) ?_
    refine z_ldcwS X hM sr_X11_resultSign_295 dX11_resultSign_28 ?_
    cases hf
    exact hret H locs _ ls hM dX11_resultSign_31
  · replace hf := m_ifF hf ck0
    by_cases ck1 : x0 = (2 : Int32)
    · replace hf := m_ifT hf ck1
      refine lv_tableIn (off := 31) (tgt := 32) hx hb dX11_resultSign_1 (by rw [ck1]; decide) (by rw [ck1]; decide) (by rw [ck1]; decide) (by decide) ?_
      refine z_ldcwS X hM sr_X11_resultSign_297 dX11_resultSign_32 ?_
      cases hf
      exact hret H locs _ ls hM dX11_resultSign_35
    · replace hf := m_ifF hf ck1
      by_cases ck2 : x0 = (3 : Int32)
      · replace hf := m_ifT hf ck2
        refine lv_tableIn (off := 35) (tgt := 36) hx hb dX11_resultSign_1 (by rw [ck2]; decide) (by rw [ck2]; decide) (by rw [ck2]; decide) (by decide) ?_
        refine z_ldcwS X hM sr_X11_resultSign_299 dX11_resultSign_36 ?_
        cases hf
        exact hret H locs _ ls hM dX11_resultSign_39
      · replace hf := m_ifF hf ck2
        refine m_tabD (tgt := 40) [(1 : Int32), (2 : Int32), (3 : Int32)] hx hb dX11_resultSign_1 (by decide) (by decide) (List.forall_mem_cons.mpr ⟨ck0, List.forall_mem_cons.mpr ⟨ck1, List.forall_mem_cons.mpr ⟨ck2, fun _ h9 => absurd h9 List.not_mem_nil⟩⟩⟩) (by decide) ?_
        refine z_ldcwS X hM sr_X11_resultSign_301 dX11_resultSign_40 ?_
        cases hf
        exact hret H locs _ ls hM dX11_resultSign_43
noncomputable def f_X11_resultSign (x0 : Int32) (S : ZS) : Option (Nat × ZS) := f_X11_resultSign_0 x0 S
theorem c_X11_resultSign {l : Launch} {D : va_G} {y : Nat → ClassId} {x0 : Int32} {S : ZS} {o : Nat × ZS} (hf : f_X11_resultSign x0 S = some o) : zMr l yX11_resultSign wsX11_resultSign ({ frames := 0, cells := 0, slots := 0, locals := 0 } : Room) [.int x0] D y S (y (100 + o.1), o.2) :=
  z_entryR (rt := .object "java/lang/String") (own := RX11) (cc := cX11_resultSign) (maxL := 1) (by decide) rfl rfl (Nat.le_of_ble_eq_true rfl) ⟨_, rfl⟩ (fun p e s m args below meth c A0 Q H locs ls X hret hM hl => w_X11_resultSign_0 X hret hf hM (lv_sub hl [0] rfl))
theorem hd_X1_agreesWith : yX1_agreesWith.cls = RX1 ∧ yX1_agreesWith.cls ≠ "java/lang/invoke/MethodHandle" ∧ yX1_agreesWith.cls ≠ "java/lang/invoke/VarHandle" ∧ (parseMethodDescriptor yX1_agreesWith.desc).map (fun d => d.parameters.length) = some 1 := by decide +kernel
theorem fl_X1_agreesWith_10_0 : Cond.fieldLink RX1 89 "MoveTexts$Tag" "name" "LMoveTexts$Row;" ∈ wsX1_agreesWith := by decide +kernel
theorem fl_X1_agreesWith_10_1 : Cond.fieldLink RX1 102 "MoveTexts$Tag" "value" "LMoveTexts$Row;" ∈ wsX1_agreesWith := by decide +kernel
theorem fl_X1_agreesWith_1_5 : Cond.fieldLink RX1 39 "MoveTexts$Game" "tagCount" "I" ∈ wsX1_agreesWith := by decide +kernel
theorem hw_X1_agreesWith_1 : ∀ w ∈ wsX10, w ∈ wsX1_agreesWith := by decide +kernel
theorem hw_X1_agreesWith_10 : ∀ w ∈ wsX100, w ∈ wsX1_agreesWith := by decide +kernel
theorem nn_X1_agreesWith_111 : ((RX1, 111, yX11_resultSign, "MoveTexts") ∈ zNW ∧ Cond.initialized yX11_resultSign.cls ∈ wsX1_agreesWith) ∧ Cond.static yX11_resultSign ∈ wsX1_agreesWith := by decide +kernel
theorem sr_X1_agreesWith_105 : (RX1, 105, "Result", 10) ∈ zSR := by decide +kernel
noncomputable def g_X1_agreesWith_46 (Pw : Int32 → ZS → Prop) (self2 : Nat → Int32 → Int32 → ZS → Nat → Nat → Prop) (x0 : Nat) (x1 : Int32) (x2 : Int32) (S : ZS) (C T : Nat) : Prop :=
  m_bndP (x2 + (1 : Int32)) (fun v1 =>
  self2 x0 x1 v1 S (C) (T))

set_option maxRecDepth 100000 in
set_option maxHeartbeats 4000000 in
theorem w_X1_agreesWith_46 {p : Program} {l : Launch} {e : Env} {s : State} {m : MethodId} {args : Array Value} {below : List Frame} {meth : Method} {c : Code} {Q : State → Prop} {D : va_G} {y : Nat → ClassId} {A0 : Nat → Prop} {kc kt : Nat} {Pw : Int32 → ZS → Prop} (X : CallFix p m c cX1_agreesWith 3 s args wsX1_agreesWith RX1) (hret : zQi p l e ({ frames := 6, cells := kc, slots := kt, locals := 129 } : Room) s m args below meth c Q cX1_agreesWith D y A0 .boolean Pw) {self2 : Nat → Int32 → Int32 → ZS → Nat → Nat → Prop} (hself2 : ∀ (x0 : Nat) (x1 : Int32) (x2 : Int32) (S : ZS) (C T : Nat) (H : Heap) (locs : List Loc) (ls : Array Slot), self2 x0 x1 x2 S C T → C ≤ kc ∧ T ≤ kt → zH D y A0 s H locs S → lv_has ls 3 [(0, .ref (zh y x0)), (1, .int x1), (2, .int x2)] → W p l e ({ frames := 6, cells := kc, slots := kt, locals := 129 } : Room) s m args below meth c H locs (kc - C) (kt - T) Q (F0 m 2 ls [])) {x0 : Nat} {x1 : Int32} {x2 : Int32} {S : ZS} {C T : Nat} {H : Heap} {locs : List Loc} {ls : Array Slot} (hf : g_X1_agreesWith_46 Pw self2 x0 x1 x2 S C T) (hCT : C ≤ kc ∧ T ≤ kt) (hM : zH D y A0 s H locs S) (hl : lv_has ls 3 [(0, .ref (zh y x0)), (1, .int x1), (2, .int x2)]) : W p l e ({ frames := 6, cells := kc, slots := kt, locals := 129 } : Room) s m args below meth c H locs (kc - C) (kt - T) Q (F0 m 46 ls []) := by
  obtain ⟨hx, hb, hml, hown, hts⟩ := id X
  unfold g_X1_agreesWith_46 at hf
  obtain ⟨v1, ev, hf⟩ := m_bndPE hf
  refine lv_iinc (v := v1) (lv' := [(2, .int v1), (0, .ref (zh y x0)), (1, .int x1)]) hx hb dX1_agreesWith_46 hl (k := 2) rfl (by rw [ev]; rfl) (by decide) rfl (fun ls hl => ?_)
  clear ev
  refine lv_goto (tgt := 2) hx hb dX1_agreesWith_49 (by decide) ?_
  exact hself2 x0 x1 v1 _ _ _ _ _ _ hf hCT hM (lv_sub hl [1, 2, 0] rfl)
noncomputable def g_X1_agreesWith_2s (Pw : Int32 → ZS → Prop) (self2 : Nat → Int32 → Int32 → ZS → Nat → Nat → Prop) (x0 : Nat) (x1 : Int32) (x2 : Int32) (S : ZS) (C T : Nat) : Prop :=
  m_chkQ (zK S x0 = 1) (
  m_ifQ ((zI S 5 x0) ≤ x2) (
  m_chkQ (vp_nar .boolean (1 : Int32) = (1 : Int32)) (Pw (1 : Int32) S)
  ) (
  m_chkQ (zK S x0 = 1) (
  m_galN (C) (T) (fun mc ms Pw => g_X1_tagAt x0 x2 S mc ms Pw) (fun r2 S3 C4 T5 =>
  m_chkQ (zK S3 r2 = 10) (
  m_calP (zP S3 0 r2) (fun b6 =>
  m_chkQ (zK S3 b6 = 6) (
  m_calP (f_X6_is b6 10 S3) (fun o7 =>
  m_ifQ (o7.1 = 0) (
  g_X1_agreesWith_46 Pw self2 x0 x1 x2 o7.2 (C4) (T5)
  ) (
  m_chkQ (zK o7.2 x0 = 1) (
  m_galN (C4) (T5) (fun mc ms Pw => g_X1_tagAt x0 x2 o7.2 mc ms Pw) (fun r9 S10 C11 T12 =>
  m_chkQ (zK S10 r9 = 10) (
  m_calP (zP S10 1 r9) (fun b13 =>
  m_calP (f_X11_resultSign x1 S10) (fun o14 =>
  m_chkQ (zK o14.2 b13 = 6) (
  m_calP (f_X6_is b13 o14.1 o14.2) (fun o15 =>
  m_ifQ (o15.1 = 0) (
  m_chkQ (vp_nar .boolean (0 : Int32) = (0 : Int32)) (Pw (0 : Int32) o15.2)
  ) (
  g_X1_agreesWith_46 Pw self2 x0 x1 x2 o15.2 (C11) (T12)
  ))))))))
  )))))))
  ))

set_option maxRecDepth 100000 in
set_option maxHeartbeats 4000000 in
theorem ws_X1_agreesWith_2 {p : Program} {l : Launch} {e : Env} {s : State} {m : MethodId} {args : Array Value} {below : List Frame} {meth : Method} {c : Code} {Q : State → Prop} {D : va_G} {y : Nat → ClassId} {A0 : Nat → Prop} {kc kt : Nat} {Pw : Int32 → ZS → Prop} (X : CallFix p m c cX1_agreesWith 3 s args wsX1_agreesWith RX1) (hret : zQi p l e ({ frames := 6, cells := kc, slots := kt, locals := 129 } : Room) s m args below meth c Q cX1_agreesWith D y A0 .boolean Pw) {self2 : Nat → Int32 → Int32 → ZS → Nat → Nat → Prop} (hself2 : ∀ (x0 : Nat) (x1 : Int32) (x2 : Int32) (S : ZS) (C T : Nat) (H : Heap) (locs : List Loc) (ls : Array Slot), self2 x0 x1 x2 S C T → C ≤ kc ∧ T ≤ kt → zH D y A0 s H locs S → lv_has ls 3 [(0, .ref (zh y x0)), (1, .int x1), (2, .int x2)] → W p l e ({ frames := 6, cells := kc, slots := kt, locals := 129 } : Room) s m args below meth c H locs (kc - C) (kt - T) Q (F0 m 2 ls [])) {x0 : Nat} {x1 : Int32} {x2 : Int32} {S : ZS} {C T : Nat} {H : Heap} {locs : List Loc} {ls : Array Slot} (hf : g_X1_agreesWith_2s Pw self2 x0 x1 x2 S C T) (hCT : C ≤ kc ∧ T ≤ kt) (hM : zH D y A0 s H locs S) (hl : lv_has ls 3 [(0, .ref (zh y x0)), (1, .int x1), (2, .int x2)]) : W p l e ({ frames := 6, cells := kc, slots := kt, locals := 129 } : Room) s m args below meth c H locs (kc - C) (kt - T) Q (F0 m 2 ls []) := by
  obtain ⟨hx, hb, hml, hown, hts⟩ := id X
  unfold g_X1_agreesWith_2s at hf
  refine lv_iload_n hx hb dX1_agreesWith_2 rfl (lv_at hl 2 rfl) ?_
  refine lv_aload_n hx hb dX1_agreesWith_3 rfl (lv_at hl 0 rfl) ?_
  obtain ⟨ca, hf⟩ := m_chkPE hf
  replace ca := z_in hM (by decide) ca
  refine z_get (k := 1) (j := 5) (C := RX1) (T := TX1) (N := 8) (fl := zf_1) (v := .int (zI S 5 x0)) X hw_X1_agreesWith_1 hM rfl zc_1 ca (by decide) fl_X1_agreesWith_1_5 rfl dX1_agreesWith_4 ?_
  clear ca
  refine lv_icmp_ge (tgt := 52) hx hb dX1_agreesWith_7 (by decide) (fun cc1 => ?_) (fun cc1 => ?_)
  · replace hf := m_ifPT hf cc1
    refine lv_iconst (v := (1 : Int32)) hx hb dX1_agreesWith_52 (by decide) ?_
    obtain ⟨cd, hf⟩ := m_chkPE hf
    exact hret _ _ _ _ H locs _ ls hf hM (m_nb cd) dX1_agreesWith_53
  · replace hf := m_ifPF hf cc1
    refine lv_aload_n hx hb dX1_agreesWith_10 rfl (lv_at hl 0 rfl) ?_
    refine lv_iload_n hx hb dX1_agreesWith_11 rfl (lv_at hl 2 rfl) ?_
    obtain ⟨ca, hf⟩ := m_chkPE hf
    replace ca := z_in hM (by decide) ca
    obtain ⟨mc, ms, hcm, ho⟩ := m_galNE hf
    refine z_wcallVr (k := 1) (C := RX1) (T := TX1) (N := 8) (fl := zf_1) X hM rfl zc_1 ca (c_X1_tagAt ho) gX1_agreesWith_X1_tagAt rfl ⟨rfl, rfl⟩ ⟨by show kc - (C) + mc ≤ kc; omega, by show kt - (T) + ms ≤ kt; omega⟩ hd_X1_tagAt ⟨Nat.le_of_ble_eq_true rfl, Nat.le_of_ble_eq_true rfl⟩ rfl hl.1 rfl (Nat.le_of_ble_eq_true rfl) dX1_agreesWith_12 (fun r2 S3 H locs hf hM => ?_)
    refine z_eqCS (c2 := kc - (C - mc)) (t2 := kt - (T - ms)) (by omega) (by omega) ?_
    replace hCT : C - mc ≤ kc ∧ T - ms ≤ kt := by omega
    generalize C - mc = C4 at hf hCT ⊢
    generalize T - ms = T5 at hf hCT ⊢
    clear ho hcm
    obtain ⟨ca, hf⟩ := m_chkPE hf
    replace ca := z_in hM (by decide) ca
    refine z_get (k := 10) (j := 0) (C := RX10) (T := TX10) (N := 2) (fl := zf_10) (v := va_rf ((zP S3 0 r2).map (zh y))) X hw_X1_agreesWith_10 hM rfl zc_10 ca (by decide) fl_X1_agreesWith_10_0 rfl dX1_agreesWith_15 ?_
    clear ca
    obtain ⟨b6, hb9, hf⟩ := m_calPE hf
    refine z_topr hb9 ?_
    clear hb9
    refine z_ldcS X hM sr_X1_agreesWith_105 dX1_agreesWith_18 ?_
    obtain ⟨ca, hf⟩ := m_chkPE hf
    replace ca := z_in hM (by decide) ca
    obtain ⟨o7, ho, hf⟩ := m_calPE hf
    refine z_gcallVi (k := 6) (C := RX6) (T := TX6) (N := 2) (fl := zf_6) X hM rfl zc_6 ca (c_X6_is ho) gX1_agreesWith_X6_is rfl ⟨rfl, rfl⟩ hd_X6_is ⟨Nat.le_of_ble_eq_true rfl, Nat.le_of_ble_eq_true rfl⟩ rfl hl.1 rfl ⟨Nat.sub_le _ _, Nat.sub_le _ _⟩ (Nat.le_of_ble_eq_true rfl) dX1_agreesWith_20 (fun H locs hM => ?_)
    clear ho
    refine lv_if_eq (tgt := 46) hx hb dX1_agreesWith_23 (by decide) (fun cc1 => ?_) (fun cc1 => ?_)
    · replace hf := m_ifPT hf cc1
      exact w_X1_agreesWith_46 (x0 := x0) (x1 := x1) (x2 := x2) X hret hself2 hf hCT hM (lv_sub hl [0, 1, 2] rfl)
    · replace hf := m_ifPF hf cc1
      refine lv_aload_n hx hb dX1_agreesWith_26 rfl (lv_at hl 0 rfl) ?_
      refine lv_iload_n hx hb dX1_agreesWith_27 rfl (lv_at hl 2 rfl) ?_
      obtain ⟨ca, hf⟩ := m_chkPE hf
      replace ca := z_in hM (by decide) ca
      obtain ⟨mc, ms, hcm, ho⟩ := m_galNE hf
      refine z_wcallVr (k := 1) (C := RX1) (T := TX1) (N := 8) (fl := zf_1) X hM rfl zc_1 ca (c_X1_tagAt ho) gX1_agreesWith_X1_tagAt rfl ⟨rfl, rfl⟩ ⟨by show kc - (C4) + mc ≤ kc; omega, by show kt - (T5) + ms ≤ kt; omega⟩ hd_X1_tagAt ⟨Nat.le_of_ble_eq_true rfl, Nat.le_of_ble_eq_true rfl⟩ rfl hl.1 rfl (Nat.le_of_ble_eq_true rfl) dX1_agreesWith_28 (fun r9 S10 H locs hf hM => ?_)
      refine z_eqCS (c2 := kc - (C4 - mc)) (t2 := kt - (T5 - ms)) (by omega) (by omega) ?_
      replace hCT : C4 - mc ≤ kc ∧ T5 - ms ≤ kt := by omega
      generalize C4 - mc = C11 at hf hCT ⊢
      generalize T5 - ms = T12 at hf hCT ⊢
      clear ho hcm
      obtain ⟨ca, hf⟩ := m_chkPE hf
      replace ca := z_in hM (by decide) ca
      refine z_get (k := 10) (j := 1) (C := RX10) (T := TX10) (N := 2) (fl := zf_10) (v := va_rf ((zP S10 1 r9).map (zh y))) X hw_X1_agreesWith_10 hM rfl zc_10 ca (by decide) fl_X1_agreesWith_10_1 rfl dX1_agreesWith_31 ?_
      clear ca
      obtain ⟨b13, hb9, hf⟩ := m_calPE hf
      refine z_topr hb9 ?_
      clear hb9
      refine lv_iload_n hx hb dX1_agreesWith_34 rfl (lv_at hl 1 rfl) ?_
      obtain ⟨o14, ho, hf⟩ := m_calPE hf
      refine z_gcallSNr X hM (c_X11_resultSign ho) gX1_agreesWith_X11_resultSign_n111 nn_X1_agreesWith_111.1.1 nn_X1_agreesWith_111.1.2 nn_X1_agreesWith_111.2 rfl ⟨rfl, rfl⟩ hd_X11_resultSign ⟨Nat.le_of_ble_eq_true rfl, Nat.le_of_ble_eq_true rfl⟩ rfl hl.1 rfl ⟨Nat.sub_le _ _, Nat.sub_le _ _⟩ (Nat.le_of_ble_eq_true rfl) dX1_agreesWith_35 (fun H locs hM => ?_)
      clear ho
      obtain ⟨ca, hf⟩ := m_chkPE hf
      replace ca := z_in hM (by decide) ca
      obtain ⟨o15, ho, hf⟩ := m_calPE hf
      refine z_gcallVi (k := 6) (C := RX6) (T := TX6) (N := 2) (fl := zf_6) X hM rfl zc_6 ca (c_X6_is ho) gX1_agreesWith_X6_is rfl ⟨rfl, rfl⟩ hd_X6_is ⟨Nat.le_of_ble_eq_true rfl, Nat.le_of_ble_eq_true rfl⟩ rfl hl.1 rfl ⟨Nat.sub_le _ _, Nat.sub_le _ _⟩ (Nat.le_of_ble_eq_true rfl) dX1_agreesWith_38 (fun H locs hM => ?_)
      clear ho
      refine lv_if_ne (tgt := 46) hx hb dX1_agreesWith_41 (by decide) (fun cc1 => ?_) (fun cc1 => ?_)
      · replace hf := m_ifPF hf cc1
        exact w_X1_agreesWith_46 (x0 := x0) (x1 := x1) (x2 := x2) X hret hself2 hf hCT hM (lv_sub hl [0, 1, 2] rfl)
      · replace hf := m_ifPT hf cc1
        refine lv_iconst (v := (0 : Int32)) hx hb dX1_agreesWith_44 (by decide) ?_
        obtain ⟨cd, hf⟩ := m_chkPE hf
        exact hret _ _ _ _ H locs _ ls hf hM (m_nb cd) dX1_agreesWith_45
noncomputable def g_X1_agreesWith_2 (Pw : Int32 → ZS → Prop) : Nat → Nat → Int32 → Int32 → ZS → Nat → Nat → Prop
  | 0 => fun _ _ _ _ _ _ => False
  | n + 1 => g_X1_agreesWith_2s Pw (g_X1_agreesWith_2 Pw n)
theorem w_X1_agreesWith_2 {p : Program} {l : Launch} {e : Env} {s : State} {m : MethodId} {args : Array Value} {below : List Frame} {meth : Method} {c : Code} {Q : State → Prop} {D : va_G} {y : Nat → ClassId} {A0 : Nat → Prop} {kc kt : Nat} {Pw : Int32 → ZS → Prop} (X : CallFix p m c cX1_agreesWith 3 s args wsX1_agreesWith RX1) (hret : zQi p l e ({ frames := 6, cells := kc, slots := kt, locals := 129 } : Room) s m args below meth c Q cX1_agreesWith D y A0 .boolean Pw) (n : Nat) : ∀ (x0 : Nat) (x1 : Int32) (x2 : Int32) (S : ZS) (C T : Nat) (H : Heap) (locs : List Loc) (ls : Array Slot), g_X1_agreesWith_2 Pw n x0 x1 x2 S C T → C ≤ kc ∧ T ≤ kt → zH D y A0 s H locs S → lv_has ls 3 [(0, .ref (zh y x0)), (1, .int x1), (2, .int x2)] → W p l e ({ frames := 6, cells := kc, slots := kt, locals := 129 } : Room) s m args below meth c H locs (kc - C) (kt - T) Q (F0 m 2 ls []) := by
  induction n with
  | zero => intro x0 x1 x2 S C T H locs ls hf; exact absurd hf id
  | succ n ih => intro x0 x1 x2 S C T H locs ls hf hCT hM hl; exact ws_X1_agreesWith_2 X hret (self2 := g_X1_agreesWith_2 Pw n) ih hf hCT hM hl
noncomputable def g_X1_agreesWith_0 (Pw : Int32 → ZS → Prop) (x0 : Nat) (x1 : Int32) (S : ZS) (C T : Nat) : Prop :=
  g_X1_agreesWith_2 Pw mFuel x0 x1 (0 : Int32) S (C) (T)

set_option maxRecDepth 100000 in
set_option maxHeartbeats 4000000 in
theorem w_X1_agreesWith_0 {p : Program} {l : Launch} {e : Env} {s : State} {m : MethodId} {args : Array Value} {below : List Frame} {meth : Method} {c : Code} {Q : State → Prop} {D : va_G} {y : Nat → ClassId} {A0 : Nat → Prop} {kc kt : Nat} {Pw : Int32 → ZS → Prop} (X : CallFix p m c cX1_agreesWith 3 s args wsX1_agreesWith RX1) (hret : zQi p l e ({ frames := 6, cells := kc, slots := kt, locals := 129 } : Room) s m args below meth c Q cX1_agreesWith D y A0 .boolean Pw) {x0 : Nat} {x1 : Int32} {S : ZS} {C T : Nat} {H : Heap} {locs : List Loc} {ls : Array Slot} (hf : g_X1_agreesWith_0 Pw x0 x1 S C T) (hCT : C ≤ kc ∧ T ≤ kt) (hM : zH D y A0 s H locs S) (hl : lv_has ls 3 [(0, .ref (zh y x0)), (1, .int x1)]) : W p l e ({ frames := 6, cells := kc, slots := kt, locals := 129 } : Room) s m args below meth c H locs (kc - C) (kt - T) Q (F0 m 0 ls []) := by
  obtain ⟨hx, hb, hml, hown, hts⟩ := id X
  unfold g_X1_agreesWith_0 at hf
  refine lv_iconst (v := (0 : Int32)) hx hb dX1_agreesWith_0 (by decide) ?_
  refine lv_istore_n (lv' := [(2, .int (0 : Int32)), (0, .ref (zh y x0)), (1, .int x1)]) hx hb dX1_agreesWith_1 rfl hl (by decide) rfl (fun ls hl => ?_)
  exact w_X1_agreesWith_2 X hret _ x0 x1 (0 : Int32) _ _ _ _ _ _ hf hCT hM (lv_sub hl [1, 2, 0] rfl)
noncomputable def g_X1_agreesWith (x0 : Nat) (x1 : Int32) (S : ZS) (mc ms : Nat) (Pw : Int32 → ZS → Prop) : Prop := g_X1_agreesWith_0 Pw x0 x1 S mc ms
theorem c_X1_agreesWith {l : Launch} {D : va_G} {y : Nat → ClassId} {x0 : Nat} {x1 : Int32} {S : ZS} {kc kt : Nat} {Pw : Int32 → ZS → Prop} (hf : g_X1_agreesWith x0 x1 S kc kt Pw) : zWi l yX1_agreesWith wsX1_agreesWith ({ frames := 6, cells := kc, slots := kt, locals := 129 } : Room) [.ref (zh y x0), .int x1] D y S kc kt Pw :=
  z_wentI (own := RX1) (cc := cX1_agreesWith) (maxL := 3) (by decide) rfl rfl (Nat.le_of_ble_eq_true rfl) ⟨rfl, rfl⟩ (fun p e s m args below meth c A0 Q H locs ls X hret hM hl => w_X1_agreesWith_0 X hret hf ⟨Nat.le_refl _, Nat.le_refl _⟩ hM (lv_sub hl [0, 1] rfl))
theorem hd_X7_init : yX7_init.cls = RX7 ∧ yX7_init.cls ≠ "java/lang/invoke/MethodHandle" ∧ yX7_init.cls ≠ "java/lang/invoke/VarHandle" ∧ (parseMethodDescriptor yX7_init.desc).map (fun d => d.parameters.length) = some 0 := by decide +kernel
theorem fl_X7_init_7_0 : Cond.fieldLink RX7 12 "MoveTexts$Rules" "trial" "LMoveTexts$Board;" ∈ wsX7_init := by decide +kernel
theorem fl_X7_init_7_1 : Cond.fieldLink RX7 18 "MoveTexts$Rules" "after" "LMoveTexts$Board;" ∈ wsX7_init := by decide +kernel
theorem hw_X7_init_0 : ∀ w ∈ wsX00, w ∈ wsX7_init := by decide +kernel
theorem hw_X7_init_7 : ∀ w ∈ wsX70, w ∈ wsX7_init := by decide +kernel
theorem ii_X7_init_11 : (RX7, 11, yX0_init, "MoveTexts") ∈ zNW ∧ Cond.initialized yX0_init.cls ∈ wsX7_init ∧ Cond.instanceMethod yX0_init ∈ wsX7_init := by decide +kernel
theorem nw_X7_init_9 : Cond.classLink RX7 9 RX0 ∈ wsX7_init ∧ Cond.instantiable RX0 7 ∈ wsX7_init ∧ Cond.initialized RX0 ∈ wsX7_init := by decide +kernel
theorem ob_X7_init : (Cond.methodLink RX7 3 objectInit ∈ wsX7_init ∧ Cond.instanceMethod objectInit ∈ wsX7_init) ∧ Cond.code objectInit ⟨#[0xb1]⟩ 1 none ∈ wsX7_init := by decide +kernel
noncomputable def g_X7_init_0 (Pw : Int32 → ZS → Prop) (x0 : Nat) (S : ZS) (C T : Nat) : Prop :=
  m_newP (C) (T) 7 (zt S) (fun q1 C3 T4 =>
  m_bndP (zsNewO S q1 0 7) (fun S2 =>
  m_gal (C3) (T4) (fun mc ms Pw => g_X0_init q1 S2 mc ms Pw) (fun r6 S7 C8 T9 =>
  m_chkQ (zK S7 x0 = 7) (
  m_bndP (zsP S7 0 x0 (some q1)) (fun S10 =>
  m_newP (C8) (T9) 7 (zt S10) (fun q11 C13 T14 =>
  m_bndP (zsNewO S10 q11 0 7) (fun S12 =>
  m_gal (C13) (T14) (fun mc ms Pw => g_X0_init q11 S12 mc ms Pw) (fun r16 S17 C18 T19 =>
  m_chkQ (zK S17 x0 = 7) (
  m_bndP (zsP S17 1 x0 (some q11)) (fun S20 =>
  Pw 0 S20))))))))))

set_option maxRecDepth 100000 in
set_option maxHeartbeats 4000000 in
theorem w_X7_init_0 {p : Program} {l : Launch} {e : Env} {s : State} {m : MethodId} {args : Array Value} {below : List Frame} {meth : Method} {c : Code} {Q : State → Prop} {D : va_G} {y : Nat → ClassId} {A0 : Nat → Prop} {kc kt : Nat} {Pw : Int32 → ZS → Prop} (X : CallFix p m c cX7_init 1 s args wsX7_init RX7) (hin : meth.name = "<init>") (hret : zQv p l e ({ frames := 2, cells := kc, slots := kt, locals := 44 } : Room) s m args below meth c Q cX7_init D y A0 Pw) {x0 : Nat} {S : ZS} {C T : Nat} {H : Heap} {locs : List Loc} {ls : Array Slot} (hf : g_X7_init_0 Pw x0 S C T) (hCT : C ≤ kc ∧ T ≤ kt) (hM : zH D y A0 s H locs S) (hl : lv_has ls 1 [(0, .ref (zh y x0))]) : W p l e ({ frames := 2, cells := kc, slots := kt, locals := 44 } : Room) s m args below meth c H locs (kc - C) (kt - T) Q (F0 m 0 ls []) := by
  obtain ⟨hx, hb, hml, hown, hts⟩ := id X
  unfold g_X7_init_0 at hf
  refine lv_aload_n hx hb dX7_init_0 rfl (lv_at hl 0 rfl) ?_
  refine z_obj X (by rw [hml]; exact hl.1.symm) ob_X7_init.1 ob_X7_init.2 (Nat.le_of_ble_eq_true rfl) (Nat.le_of_ble_eq_true rfl) dX7_init_1 ?_
  refine lv_aload_n hx hb dX7_init_4 rfl (lv_at hl 0 rfl) ?_
  obtain ⟨hcm, ho⟩ := hf
  refine z_newO (k := 0) (C := RX0) (T := TX0) (N := 7) (fl := zf_0) X hw_X7_init_0 tyX0_ok hM rfl zc_0 nw_X7_init_9 zd_0 ⟨by show kc - (C) + 1 ≤ kc; omega, by show kt - (T) + 7 ≤ kt; omega⟩ dX7_init_5 (fun q1 H hq hM => ?_)
  replace hf := ho q1 hq
  refine z_eqCS (c2 := kc - (C - 1)) (t2 := kt - (T - 7)) (by omega) (by omega) ?_
  replace hCT : C - 1 ≤ kc ∧ T - 7 ≤ kt := by omega
  generalize C - 1 = C3 at hf hCT ⊢
  generalize T - 7 = T4 at hf hCT ⊢
  obtain ⟨S2, ev, hf⟩ := m_bndPE hf
  replace hM := z_hS hM ev
  clear ev ho hcm hq
  refine lv_dup hx hb dX7_init_8 rfl ?_
  obtain ⟨mc, ms, hcm, ho⟩ := m_galE hf
  refine z_wcallINv X hM (c_X0_init ho) gX7_init_X0_init_n11 ii_X7_init_11.1 ii_X7_init_11.2.1 ii_X7_init_11.2.2 rfl rfl ⟨rfl, rfl⟩ ⟨by show kc - (C3) + mc ≤ kc; omega, by show kt - (T4) + ms ≤ kt; omega⟩ hd_X0_init.2 ⟨Nat.le_of_ble_eq_true rfl, Nat.le_of_ble_eq_true rfl⟩ rfl hl.1 rfl (Nat.le_of_ble_eq_true rfl) dX7_init_9 (fun S7 H locs hf hM => ?_)
  refine z_eqCS (c2 := kc - (C3 - mc)) (t2 := kt - (T4 - ms)) (by omega) (by omega) ?_
  replace hCT : C3 - mc ≤ kc ∧ T4 - ms ≤ kt := by omega
  generalize C3 - mc = C8 at hf hCT ⊢
  generalize T4 - ms = T9 at hf hCT ⊢
  clear ho hcm
  obtain ⟨ca, hf⟩ := m_chkPE hf
  replace ca := z_in hM (by decide) ca
  refine z_putPF (k := 7) (j := 0) (C := RX7) (T := TX7) (N := 2) (fl := zf_7) (ty := tyX7 0) X hw_X7_init_7 tyX7_ok nmX7 hM rfl zc_7 ca (by decide) fl_X7_init_7_0 rfl hin rfl (tyX7_ok 0 (by decide)) rfl rfl zp_7_0 (Nat.le_of_ble_eq_true rfl) dX7_init_12 (fun H locs hM => ?_)
  clear ca
  obtain ⟨S10, ev, hf⟩ := m_bndPE hf
  replace hM := z_hS hM ev
  clear ev
  refine lv_aload_n hx hb dX7_init_15 rfl (lv_at hl 0 rfl) ?_
  obtain ⟨hcm, ho⟩ := hf
  refine z_newO (k := 0) (C := RX0) (T := TX0) (N := 7) (fl := zf_0) X hw_X7_init_0 tyX0_ok hM rfl zc_0 nw_X7_init_9 zd_0 ⟨by show kc - (C8) + 1 ≤ kc; omega, by show kt - (T9) + 7 ≤ kt; omega⟩ dX7_init_16 (fun q11 H hq hM => ?_)
  replace hf := ho q11 hq
  refine z_eqCS (c2 := kc - (C8 - 1)) (t2 := kt - (T9 - 7)) (by omega) (by omega) ?_
  replace hCT : C8 - 1 ≤ kc ∧ T9 - 7 ≤ kt := by omega
  generalize C8 - 1 = C13 at hf hCT ⊢
  generalize T9 - 7 = T14 at hf hCT ⊢
  obtain ⟨S12, ev, hf⟩ := m_bndPE hf
  replace hM := z_hS hM ev
  clear ev ho hcm hq
  refine lv_dup hx hb dX7_init_19 rfl ?_
  obtain ⟨mc, ms, hcm, ho⟩ := m_galE hf
  refine z_wcallINv X hM (c_X0_init ho) gX7_init_X0_init_n11 ii_X7_init_11.1 ii_X7_init_11.2.1 ii_X7_init_11.2.2 rfl rfl ⟨rfl, rfl⟩ ⟨by show kc - (C13) + mc ≤ kc; omega, by show kt - (T14) + ms ≤ kt; omega⟩ hd_X0_init.2 ⟨Nat.le_of_ble_eq_true rfl, Nat.le_of_ble_eq_true rfl⟩ rfl hl.1 rfl (Nat.le_of_ble_eq_true rfl) dX7_init_20 (fun S17 H locs hf hM => ?_)
  refine z_eqCS (c2 := kc - (C13 - mc)) (t2 := kt - (T14 - ms)) (by omega) (by omega) ?_
  replace hCT : C13 - mc ≤ kc ∧ T14 - ms ≤ kt := by omega
  generalize C13 - mc = C18 at hf hCT ⊢
  generalize T14 - ms = T19 at hf hCT ⊢
  clear ho hcm
  obtain ⟨ca, hf⟩ := m_chkPE hf
  replace ca := z_in hM (by decide) ca
  refine z_putPF (k := 7) (j := 1) (C := RX7) (T := TX7) (N := 2) (fl := zf_7) (ty := tyX7 1) X hw_X7_init_7 tyX7_ok nmX7 hM rfl zc_7 ca (by decide) fl_X7_init_7_1 rfl hin rfl (tyX7_ok 1 (by decide)) rfl rfl zp_7_1 (Nat.le_of_ble_eq_true rfl) dX7_init_23 (fun H locs hM => ?_)
  clear ca
  obtain ⟨S20, ev, hf⟩ := m_bndPE hf
  replace hM := z_hS hM ev
  clear ev
  exact hret _ _ _ H locs _ ls hf hM dX7_init_26
noncomputable def g_X7_init (x0 : Nat) (S : ZS) (mc ms : Nat) (Pw : Int32 → ZS → Prop) : Prop := g_X7_init_0 Pw x0 S mc ms
theorem c_X7_init {l : Launch} {D : va_G} {y : Nat → ClassId} {x0 : Nat} {S : ZS} {kc kt : Nat} {Pw : Int32 → ZS → Prop} (hf : g_X7_init x0 S kc kt Pw) : zWv l yX7_init wsX7_init ({ frames := 2, cells := kc, slots := kt, locals := 44 } : Room) [.ref (zh y x0)] D y S kc kt Pw :=
  z_wentC (own := RX7) (cc := cX7_init) (maxL := 1) (by decide) rfl rfl (Nat.le_of_ble_eq_true rfl) ⟨rfl, rfl⟩ rfl (fun p e s m args below meth c A0 Q H locs ls X hin hret hM hl => w_X7_init_0 X hin hret hf ⟨Nat.le_refl _, Nat.le_refl _⟩ hM (lv_sub hl [0] rfl))
theorem hd_X8_init : yX8_init.cls = RX8 ∧ yX8_init.cls ≠ "java/lang/invoke/MethodHandle" ∧ yX8_init.cls ≠ "java/lang/invoke/VarHandle" ∧ (parseMethodDescriptor yX8_init.desc).map (fun d => d.parameters.length) = some 0 := by decide +kernel
theorem ar_X8_init_int : Cond.arrayClass .int ∈ wsX8_init := by decide +kernel
theorem fl_X8_init_8_0 : Cond.fieldLink RX8 12 "MoveTexts$SignReader" "rules" "LMoveTexts$Rules;" ∈ wsX8_init := by decide +kernel
theorem fl_X8_init_8_1 : Cond.fieldLink RX8 21 "MoveTexts$SignReader" "row" "LMoveTexts$Row;" ∈ wsX8_init := by decide +kernel
theorem fl_X8_init_8_10 : Cond.fieldLink RX8 25 "MoveTexts$SignReader" "fitting" "[I" ∈ wsX8_init := by decide +kernel
theorem hw_X8_init_6 : ∀ w ∈ wsX60, w ∈ wsX8_init := by decide +kernel
theorem hw_X8_init_7 : ∀ w ∈ wsX70, w ∈ wsX8_init := by decide +kernel
theorem hw_X8_init_8 : ∀ w ∈ wsX80, w ∈ wsX8_init := by decide +kernel
theorem ii_X8_init_11 : (RX8, 11, yX7_init, "MoveTexts") ∈ zNW ∧ Cond.initialized yX7_init.cls ∈ wsX8_init ∧ Cond.instanceMethod yX7_init ∈ wsX8_init := by decide +kernel
theorem ii_X8_init_20 : (RX8, 20, yX6_init, "MoveTexts") ∈ zNW ∧ Cond.initialized yX6_init.cls ∈ wsX8_init ∧ Cond.instanceMethod yX6_init ∈ wsX8_init := by decide +kernel
theorem nw_X8_init_18 : Cond.classLink RX8 18 RX6 ∈ wsX8_init ∧ Cond.instantiable RX6 2 ∈ wsX8_init ∧ Cond.initialized RX6 ∈ wsX8_init := by decide +kernel
theorem nw_X8_init_9 : Cond.classLink RX8 9 RX7 ∈ wsX8_init ∧ Cond.instantiable RX7 2 ∈ wsX8_init ∧ Cond.initialized RX7 ∈ wsX8_init := by decide +kernel
theorem ob_X8_init : (Cond.methodLink RX8 3 objectInit ∈ wsX8_init ∧ Cond.instanceMethod objectInit ∈ wsX8_init) ∧ Cond.code objectInit ⟨#[0xb1]⟩ 1 none ∈ wsX8_init := by decide +kernel
noncomputable def g_X8_init_0 (Pw : Int32 → ZS → Prop) (x0 : Nat) (S : ZS) (C T : Nat) : Prop :=
  m_newP (C) (T) 2 (zt S) (fun q1 C3 T4 =>
  m_bndP (zsNewO S q1 7 2) (fun S2 =>
  m_gal (C3) (T4) (fun mc ms Pw => g_X7_init q1 S2 mc ms Pw) (fun r6 S7 C8 T9 =>
  m_chkQ (zK S7 x0 = 8) (
  m_bndP (zsP S7 0 x0 (some q1)) (fun S10 =>
  m_newP (C8) (T9) 2 (zt S10) (fun q11 C13 T14 =>
  m_bndP (zsNewO S10 q11 6 2) (fun S12 =>
  m_calP (f_X6_init q11 S12) (fun o15 =>
  m_chkQ (zK o15.2 x0 = 8) (
  m_bndP (zsP o15.2 1 x0 (some q11)) (fun S16 =>
  m_chkQ (¬ (64 : Int32) < 0 ∧ ((64 : Int32)).toNatClampNeg * componentBytes .int ≤ 536870912) (
  m_newP (C13) (T14) ((64 : Int32)).toNatClampNeg (zt S16) (fun q17 C19 T20 =>
  m_bndP (zsNewA S16 q17 14 ((64 : Int32)).toNatClampNeg) (fun S18 =>
  m_chkQ (zK S18 x0 = 8) (
  m_bndP (zsP S18 10 x0 (some q17)) (fun S21 =>
  Pw 0 S21)))))))))))))))

set_option maxRecDepth 100000 in
set_option maxHeartbeats 4000000 in
theorem w_X8_init_0 {p : Program} {l : Launch} {e : Env} {s : State} {m : MethodId} {args : Array Value} {below : List Frame} {meth : Method} {c : Code} {Q : State → Prop} {D : va_G} {y : Nat → ClassId} {A0 : Nat → Prop} {kc kt : Nat} {Pw : Int32 → ZS → Prop} (X : CallFix p m c cX8_init 1 s args wsX8_init RX8) (hin : meth.name = "<init>") (hret : zQv p l e ({ frames := 3, cells := kc, slots := kt, locals := 64 } : Room) s m args below meth c Q cX8_init D y A0 Pw) {x0 : Nat} {S : ZS} {C T : Nat} {H : Heap} {locs : List Loc} {ls : Array Slot} (hf : g_X8_init_0 Pw x0 S C T) (hCT : C ≤ kc ∧ T ≤ kt) (hM : zH D y A0 s H locs S) (hl : lv_has ls 1 [(0, .ref (zh y x0))]) : W p l e ({ frames := 3, cells := kc, slots := kt, locals := 64 } : Room) s m args below meth c H locs (kc - C) (kt - T) Q (F0 m 0 ls []) := by
  obtain ⟨hx, hb, hml, hown, hts⟩ := id X
  unfold g_X8_init_0 at hf
  refine lv_aload_n hx hb dX8_init_0 rfl (lv_at hl 0 rfl) ?_
  refine z_obj X (by rw [hml]; exact hl.1.symm) ob_X8_init.1 ob_X8_init.2 (Nat.le_of_ble_eq_true rfl) (Nat.le_of_ble_eq_true rfl) dX8_init_1 ?_
  refine lv_aload_n hx hb dX8_init_4 rfl (lv_at hl 0 rfl) ?_
  obtain ⟨hcm, ho⟩ := hf
  refine z_newO (k := 7) (C := RX7) (T := TX7) (N := 2) (fl := zf_7) X hw_X8_init_7 tyX7_ok hM rfl zc_7 nw_X8_init_9 zd_7 ⟨by show kc - (C) + 1 ≤ kc; omega, by show kt - (T) + 2 ≤ kt; omega⟩ dX8_init_5 (fun q1 H hq hM => ?_)
  replace hf := ho q1 hq
  refine z_eqCS (c2 := kc - (C - 1)) (t2 := kt - (T - 2)) (by omega) (by omega) ?_
  replace hCT : C - 1 ≤ kc ∧ T - 2 ≤ kt := by omega
  generalize C - 1 = C3 at hf hCT ⊢
  generalize T - 2 = T4 at hf hCT ⊢
  obtain ⟨S2, ev, hf⟩ := m_bndPE hf
  replace hM := z_hS hM ev
  clear ev ho hcm hq
  refine lv_dup hx hb dX8_init_8 rfl ?_
  obtain ⟨mc, ms, hcm, ho⟩ := m_galE hf
  refine z_wcallINv X hM (c_X7_init ho) gX8_init_X7_init_n11 ii_X8_init_11.1 ii_X8_init_11.2.1 ii_X8_init_11.2.2 rfl rfl ⟨rfl, rfl⟩ ⟨by show kc - (C3) + mc ≤ kc; omega, by show kt - (T4) + ms ≤ kt; omega⟩ hd_X7_init.2 ⟨Nat.le_of_ble_eq_true rfl, Nat.le_of_ble_eq_true rfl⟩ rfl hl.1 rfl (Nat.le_of_ble_eq_true rfl) dX8_init_9 (fun S7 H locs hf hM => ?_)
  refine z_eqCS (c2 := kc - (C3 - mc)) (t2 := kt - (T4 - ms)) (by omega) (by omega) ?_
  replace hCT : C3 - mc ≤ kc ∧ T4 - ms ≤ kt := by omega
  generalize C3 - mc = C8 at hf hCT ⊢
  generalize T4 - ms = T9 at hf hCT ⊢
  clear ho hcm
  obtain ⟨ca, hf⟩ := m_chkPE hf
  replace ca := z_in hM (by decide) ca
  refine z_putPF (k := 8) (j := 0) (C := RX8) (T := TX8) (N := 12) (fl := zf_8) (ty := tyX8 0) X hw_X8_init_8 tyX8_ok nmX8 hM rfl zc_8 ca (by decide) fl_X8_init_8_0 rfl hin rfl (tyX8_ok 0 (by decide)) rfl rfl zp_8_0 (Nat.le_of_ble_eq_true rfl) dX8_init_12 (fun H locs hM => ?_)
  clear ca
  obtain ⟨S10, ev, hf⟩ := m_bndPE hf
  replace hM := z_hS hM ev
  clear ev
  refine lv_aload_n hx hb dX8_init_15 rfl (lv_at hl 0 rfl) ?_
  obtain ⟨hcm, ho⟩ := hf
  refine z_newO (k := 6) (C := RX6) (T := TX6) (N := 2) (fl := zf_6) X hw_X8_init_6 tyX6_ok hM rfl zc_6 nw_X8_init_18 zd_6 ⟨by show kc - (C8) + 1 ≤ kc; omega, by show kt - (T9) + 2 ≤ kt; omega⟩ dX8_init_16 (fun q11 H hq hM => ?_)
  replace hf := ho q11 hq
  refine z_eqCS (c2 := kc - (C8 - 1)) (t2 := kt - (T9 - 2)) (by omega) (by omega) ?_
  replace hCT : C8 - 1 ≤ kc ∧ T9 - 2 ≤ kt := by omega
  generalize C8 - 1 = C13 at hf hCT ⊢
  generalize T9 - 2 = T14 at hf hCT ⊢
  obtain ⟨S12, ev, hf⟩ := m_bndPE hf
  replace hM := z_hS hM ev
  clear ev ho hcm hq
  refine lv_dup hx hb dX8_init_19 rfl ?_
  obtain ⟨o15, ho, hf⟩ := m_calPE hf
  refine z_gcallINv X hM (c_X6_init ho) gX8_init_X6_init_n20 ii_X8_init_20.1 ii_X8_init_20.2.1 ii_X8_init_20.2.2 rfl rfl ⟨rfl, rfl⟩ hd_X6_init.2 ⟨Nat.le_of_ble_eq_true rfl, Nat.le_of_ble_eq_true rfl⟩ rfl hl.1 rfl ⟨Nat.sub_le _ _, Nat.sub_le _ _⟩ (Nat.le_of_ble_eq_true rfl) dX8_init_20 (fun H locs hM => ?_)
  clear ho
  obtain ⟨ca, hf⟩ := m_chkPE hf
  replace ca := z_in hM (by decide) ca
  refine z_putPF (k := 8) (j := 1) (C := RX8) (T := TX8) (N := 12) (fl := zf_8) (ty := tyX8 1) X hw_X8_init_8 tyX8_ok nmX8 hM rfl zc_8 ca (by decide) fl_X8_init_8_1 rfl hin rfl (tyX8_ok 1 (by decide)) rfl rfl zp_8_1 (Nat.le_of_ble_eq_true rfl) dX8_init_23 (fun H locs hM => ?_)
  clear ca
  obtain ⟨S16, ev, hf⟩ := m_bndPE hf
  replace hM := z_hS hM ev
  clear ev
  refine lv_aload_n hx hb dX8_init_26 rfl (lv_at hl 0 rfl) ?_
  refine lv_bipush (v := (64 : Int32)) hx hb dX8_init_27 (by decide) ?_
  obtain ⟨cd, hf⟩ := m_chkPE hf
  obtain ⟨hcm, ho⟩ := hf
  refine z_newI X hM ar_X8_init_int cd.1 cd.2 ⟨by show kc - (C13) + 1 ≤ kc; omega, by show kt - (T14) + _ ≤ kt; omega⟩ dX8_init_29 (fun q17 H hq hM => ?_)
  replace hf := ho q17 hq
  refine z_eqCS (c2 := kc - (C13 - 1)) (t2 := kt - (T14 - ((64 : Int32)).toNatClampNeg)) (by omega) (by omega) ?_
  replace hCT : C13 - 1 ≤ kc ∧ T14 - ((64 : Int32)).toNatClampNeg ≤ kt := by omega
  generalize C13 - 1 = C19 at hf hCT ⊢
  generalize T14 - ((64 : Int32)).toNatClampNeg = T20 at hf hCT ⊢
  obtain ⟨S18, ev, hf⟩ := m_bndPE hf
  replace hM := z_hS hM ev
  clear ev ho hcm cd hq
  obtain ⟨ca, hf⟩ := m_chkPE hf
  replace ca := z_in hM (by decide) ca
  refine z_putPF (k := 8) (j := 10) (C := RX8) (T := TX8) (N := 12) (fl := zf_8) (ty := tyX8 10) X hw_X8_init_8 tyX8_ok nmX8 hM rfl zc_8 ca (by decide) fl_X8_init_8_10 rfl hin rfl (tyX8_ok 10 (by decide)) rfl rfl zp_8_10 (Nat.le_of_ble_eq_true rfl) dX8_init_31 (fun H locs hM => ?_)
  clear ca
  obtain ⟨S21, ev, hf⟩ := m_bndPE hf
  replace hM := z_hS hM ev
  clear ev
  exact hret _ _ _ H locs _ ls hf hM dX8_init_34
noncomputable def g_X8_init (x0 : Nat) (S : ZS) (mc ms : Nat) (Pw : Int32 → ZS → Prop) : Prop := g_X8_init_0 Pw x0 S mc ms
theorem c_X8_init {l : Launch} {D : va_G} {y : Nat → ClassId} {x0 : Nat} {S : ZS} {kc kt : Nat} {Pw : Int32 → ZS → Prop} (hf : g_X8_init x0 S kc kt Pw) : zWv l yX8_init wsX8_init ({ frames := 3, cells := kc, slots := kt, locals := 64 } : Room) [.ref (zh y x0)] D y S kc kt Pw :=
  z_wentC (own := RX8) (cc := cX8_init) (maxL := 1) (by decide) rfl rfl (Nat.le_of_ble_eq_true rfl) ⟨rfl, rfl⟩ rfl (fun p e s m args below meth c A0 Q H locs ls X hin hret hM hl => w_X8_init_0 X hin hret hf ⟨Nat.le_refl _, Nat.le_refl _⟩ hM (lv_sub hl [0] rfl))
theorem hd_X5_init : yX5_init.cls = RX5 ∧ yX5_init.cls ≠ "java/lang/invoke/MethodHandle" ∧ yX5_init.cls ≠ "java/lang/invoke/VarHandle" ∧ (parseMethodDescriptor yX5_init.desc).map (fun d => d.parameters.length) = some 0 := by decide +kernel
theorem fl_X5_init_5_0 : Cond.fieldLink RX5 12 "MoveTexts$PositionReader" "text" "LMoveTexts$Row;" ∈ wsX5_init := by decide +kernel
theorem fl_X5_init_5_1 : Cond.fieldLink RX5 18 "MoveTexts$PositionReader" "at" "I" ∈ wsX5_init := by decide +kernel
theorem hw_X5_init_5 : ∀ w ∈ wsX50, w ∈ wsX5_init := by decide +kernel
theorem hw_X5_init_6 : ∀ w ∈ wsX60, w ∈ wsX5_init := by decide +kernel
theorem ii_X5_init_11 : (RX5, 11, yX6_init, "MoveTexts") ∈ zNW ∧ Cond.initialized yX6_init.cls ∈ wsX5_init ∧ Cond.instanceMethod yX6_init ∈ wsX5_init := by decide +kernel
theorem nw_X5_init_9 : Cond.classLink RX5 9 RX6 ∈ wsX5_init ∧ Cond.instantiable RX6 2 ∈ wsX5_init ∧ Cond.initialized RX6 ∈ wsX5_init := by decide +kernel
theorem ob_X5_init : (Cond.methodLink RX5 3 objectInit ∈ wsX5_init ∧ Cond.instanceMethod objectInit ∈ wsX5_init) ∧ Cond.code objectInit ⟨#[0xb1]⟩ 1 none ∈ wsX5_init := by decide +kernel
noncomputable def g_X5_init_0 (Pw : Int32 → ZS → Prop) (x0 : Nat) (S : ZS) (C T : Nat) : Prop :=
  m_newP (C) (T) 2 (zt S) (fun q1 C3 T4 =>
  m_bndP (zsNewO S q1 6 2) (fun S2 =>
  m_calP (f_X6_init q1 S2) (fun o5 =>
  m_chkQ (zK o5.2 x0 = 5) (
  m_bndP (zsP o5.2 0 x0 (some q1)) (fun S6 =>
  m_chkQ (zK S6 x0 = 5) (
  m_bndP (zsI S6 1 x0 (0 : Int32)) (fun S7 =>
  Pw 0 S7)))))))

set_option maxRecDepth 100000 in
set_option maxHeartbeats 4000000 in
theorem w_X5_init_0 {p : Program} {l : Launch} {e : Env} {s : State} {m : MethodId} {args : Array Value} {below : List Frame} {meth : Method} {c : Code} {Q : State → Prop} {D : va_G} {y : Nat → ClassId} {A0 : Nat → Prop} {kc kt : Nat} {Pw : Int32 → ZS → Prop} (X : CallFix p m c cX5_init 1 s args wsX5_init RX5) (hin : meth.name = "<init>") (hret : zQv p l e ({ frames := 2, cells := kc, slots := kt, locals := 44 } : Room) s m args below meth c Q cX5_init D y A0 Pw) {x0 : Nat} {S : ZS} {C T : Nat} {H : Heap} {locs : List Loc} {ls : Array Slot} (hf : g_X5_init_0 Pw x0 S C T) (hCT : C ≤ kc ∧ T ≤ kt) (hM : zH D y A0 s H locs S) (hl : lv_has ls 1 [(0, .ref (zh y x0))]) : W p l e ({ frames := 2, cells := kc, slots := kt, locals := 44 } : Room) s m args below meth c H locs (kc - C) (kt - T) Q (F0 m 0 ls []) := by
  obtain ⟨hx, hb, hml, hown, hts⟩ := id X
  unfold g_X5_init_0 at hf
  refine lv_aload_n hx hb dX5_init_0 rfl (lv_at hl 0 rfl) ?_
  refine z_obj X (by rw [hml]; exact hl.1.symm) ob_X5_init.1 ob_X5_init.2 (Nat.le_of_ble_eq_true rfl) (Nat.le_of_ble_eq_true rfl) dX5_init_1 ?_
  refine lv_aload_n hx hb dX5_init_4 rfl (lv_at hl 0 rfl) ?_
  obtain ⟨hcm, ho⟩ := hf
  refine z_newO (k := 6) (C := RX6) (T := TX6) (N := 2) (fl := zf_6) X hw_X5_init_6 tyX6_ok hM rfl zc_6 nw_X5_init_9 zd_6 ⟨by show kc - (C) + 1 ≤ kc; omega, by show kt - (T) + 2 ≤ kt; omega⟩ dX5_init_5 (fun q1 H hq hM => ?_)
  replace hf := ho q1 hq
  refine z_eqCS (c2 := kc - (C - 1)) (t2 := kt - (T - 2)) (by omega) (by omega) ?_
  replace hCT : C - 1 ≤ kc ∧ T - 2 ≤ kt := by omega
  generalize C - 1 = C3 at hf hCT ⊢
  generalize T - 2 = T4 at hf hCT ⊢
  obtain ⟨S2, ev, hf⟩ := m_bndPE hf
  replace hM := z_hS hM ev
  clear ev ho hcm hq
  refine lv_dup hx hb dX5_init_8 rfl ?_
  obtain ⟨o5, ho, hf⟩ := m_calPE hf
  refine z_gcallINv X hM (c_X6_init ho) gX5_init_X6_init_n11 ii_X5_init_11.1 ii_X5_init_11.2.1 ii_X5_init_11.2.2 rfl rfl ⟨rfl, rfl⟩ hd_X6_init.2 ⟨Nat.le_of_ble_eq_true rfl, Nat.le_of_ble_eq_true rfl⟩ rfl hl.1 rfl ⟨Nat.sub_le _ _, Nat.sub_le _ _⟩ (Nat.le_of_ble_eq_true rfl) dX5_init_9 (fun H locs hM => ?_)
  clear ho
  obtain ⟨ca, hf⟩ := m_chkPE hf
  replace ca := z_in hM (by decide) ca
  refine z_putP (k := 5) (j := 0) (C := RX5) (T := TX5) (N := 2) (fl := zf_5) (ty := tyX5 0) X hw_X5_init_5 tyX5_ok nmX5 hM rfl zc_5 ca (by decide) fl_X5_init_5_0 rfl (tyX5_ok 0 (by decide)) rfl rfl zp_5_0 (Nat.le_of_ble_eq_true rfl) dX5_init_12 (fun H locs hM => ?_)
  clear ca
  obtain ⟨S6, ev, hf⟩ := m_bndPE hf
  replace hM := z_hS hM ev
  clear ev
  refine lv_aload_n hx hb dX5_init_15 rfl (lv_at hl 0 rfl) ?_
  refine lv_iconst (v := (0 : Int32)) hx hb dX5_init_16 (by decide) ?_
  obtain ⟨ca, hf⟩ := m_chkPE hf
  replace ca := z_in hM (by decide) ca
  refine z_putI (k := 5) (j := 1) (C := RX5) (T := TX5) (N := 2) (fl := zf_5) (ty := .int) X hw_X5_init_5 tyX5_ok nmX5 hM rfl zc_5 ca (by decide) fl_X5_init_5_1 rfl (tyX5_ok 1 (by decide)) rfl rfl zi_5_1 (Nat.le_of_ble_eq_true rfl) dX5_init_17 (fun H locs hM => ?_)
  clear ca
  obtain ⟨S7, ev, hf⟩ := m_bndPE hf
  replace hM := z_hS hM ev
  clear ev
  exact hret _ _ _ H locs _ ls hf hM dX5_init_20
noncomputable def g_X5_init (x0 : Nat) (S : ZS) (mc ms : Nat) (Pw : Int32 → ZS → Prop) : Prop := g_X5_init_0 Pw x0 S mc ms
theorem c_X5_init {l : Launch} {D : va_G} {y : Nat → ClassId} {x0 : Nat} {S : ZS} {kc kt : Nat} {Pw : Int32 → ZS → Prop} (hf : g_X5_init x0 S kc kt Pw) : zWv l yX5_init wsX5_init ({ frames := 2, cells := kc, slots := kt, locals := 44 } : Room) [.ref (zh y x0)] D y S kc kt Pw :=
  z_wentC (own := RX5) (cc := cX5_init) (maxL := 1) (by decide) rfl rfl (Nat.le_of_ble_eq_true rfl) ⟨rfl, rfl⟩ rfl (fun p e s m args below meth c A0 Q H locs ls X hin hret hM hl => w_X5_init_0 X hin hret hf ⟨Nat.le_refl _, Nat.le_refl _⟩ hM (lv_sub hl [0] rfl))
theorem hd_X2_init : yX2_init.cls = RX2 ∧ yX2_init.cls ≠ "java/lang/invoke/MethodHandle" ∧ yX2_init.cls ≠ "java/lang/invoke/VarHandle" ∧ (parseMethodDescriptor yX2_init.desc).map (fun d => d.parameters.length) = some 0 := by decide +kernel
theorem ar_X2_init_int : Cond.arrayClass .int ∈ wsX2_init := by decide +kernel
theorem fl_X2_init_2_0 : Cond.fieldLink RX2 12 "MoveTexts$GameReader" "signReader" "LMoveTexts$SignReader;" ∈ wsX2_init := by decide +kernel
theorem fl_X2_init_2_1 : Cond.fieldLink RX2 21 "MoveTexts$GameReader" "positionReader" "LMoveTexts$PositionReader;" ∈ wsX2_init := by decide +kernel
theorem fl_X2_init_2_10 : Cond.fieldLink RX2 61 "MoveTexts$GameReader" "before" "[LMoveTexts$Board;" ∈ wsX2_init := by decide +kernel
theorem fl_X2_init_2_11 : Cond.fieldLink RX2 65 "MoveTexts$GameReader" "behind" "[LMoveTexts$Board;" ∈ wsX2_init := by decide +kernel
theorem fl_X2_init_2_2 : Cond.fieldLink RX2 28 "MoveTexts$GameReader" "text" "LMoveTexts$Row;" ∈ wsX2_init := by decide +kernel
theorem fl_X2_init_2_3 : Cond.fieldLink RX2 35 "MoveTexts$GameReader" "game" "LMoveTexts$Game;" ∈ wsX2_init := by decide +kernel
theorem fl_X2_init_2_4 : Cond.fieldLink RX2 39 "MoveTexts$GameReader" "at" "I" ∈ wsX2_init := by decide +kernel
theorem fl_X2_init_2_5 : Cond.fieldLink RX2 43 "MoveTexts$GameReader" "fault" "I" ∈ wsX2_init := by decide +kernel
theorem fl_X2_init_2_6 : Cond.fieldLink RX2 46 "MoveTexts$GameReader" "name" "LMoveTexts$Row;" ∈ wsX2_init := by decide +kernel
theorem fl_X2_init_2_7 : Cond.fieldLink RX2 49 "MoveTexts$GameReader" "value" "LMoveTexts$Row;" ∈ wsX2_init := by decide +kernel
theorem fl_X2_init_2_8 : Cond.fieldLink RX2 52 "MoveTexts$GameReader" "root" "[I" ∈ wsX2_init := by decide +kernel
theorem fl_X2_init_2_9 : Cond.fieldLink RX2 56 "MoveTexts$GameReader" "last" "[I" ∈ wsX2_init := by decide +kernel
theorem hw_X2_init_0 : ∀ w ∈ wsX00, w ∈ wsX2_init := by decide +kernel
theorem hw_X2_init_1 : ∀ w ∈ wsX10, w ∈ wsX2_init := by decide +kernel
theorem hw_X2_init_2 : ∀ w ∈ wsX20, w ∈ wsX2_init := by decide +kernel
theorem hw_X2_init_5 : ∀ w ∈ wsX50, w ∈ wsX2_init := by decide +kernel
theorem hw_X2_init_6 : ∀ w ∈ wsX60, w ∈ wsX2_init := by decide +kernel
theorem hw_X2_init_8 : ∀ w ∈ wsX80, w ∈ wsX2_init := by decide +kernel
theorem ii_X2_init_11 : (RX2, 11, yX8_init, "MoveTexts") ∈ zNW ∧ Cond.initialized yX8_init.cls ∈ wsX2_init ∧ Cond.instanceMethod yX8_init ∈ wsX2_init := by decide +kernel
theorem ii_X2_init_20 : (RX2, 20, yX5_init, "MoveTexts") ∈ zNW ∧ Cond.initialized yX5_init.cls ∈ wsX2_init ∧ Cond.instanceMethod yX5_init ∈ wsX2_init := by decide +kernel
theorem ii_X2_init_27 : (RX2, 27, yX6_init, "MoveTexts") ∈ zNW ∧ Cond.initialized yX6_init.cls ∈ wsX2_init ∧ Cond.instanceMethod yX6_init ∈ wsX2_init := by decide +kernel
theorem ii_X2_init_34 : Cond.methodLink RX2 34 yX1_init ∈ wsX2_init ∧ Cond.initialized yX1_init.cls ∈ wsX2_init ∧ Cond.instanceMethod yX1_init ∈ wsX2_init := by decide +kernel
theorem ii_X2_init_68 : (RX2, 68, yX0_init, "MoveTexts") ∈ zNW ∧ Cond.initialized yX0_init.cls ∈ wsX2_init ∧ Cond.instanceMethod yX0_init ∈ wsX2_init := by decide +kernel
theorem na_X2_init_59 : RX0 ∈ zAO ∧ Cond.classLink RX2 59 RX0 ∈ wsX2_init := by decide +kernel
theorem nw_X2_init_18 : Cond.classLink RX2 18 RX5 ∈ wsX2_init ∧ Cond.instantiable RX5 2 ∈ wsX2_init ∧ Cond.initialized RX5 ∈ wsX2_init := by decide +kernel
theorem nw_X2_init_25 : Cond.classLink RX2 25 RX6 ∈ wsX2_init ∧ Cond.instantiable RX6 2 ∈ wsX2_init ∧ Cond.initialized RX6 ∈ wsX2_init := by decide +kernel
theorem nw_X2_init_32 : Cond.classLink RX2 32 RX1 ∈ wsX2_init ∧ Cond.instantiable RX1 8 ∈ wsX2_init ∧ Cond.initialized RX1 ∈ wsX2_init := by decide +kernel
theorem nw_X2_init_59 : Cond.classLink RX2 59 RX0 ∈ wsX2_init ∧ Cond.instantiable RX0 7 ∈ wsX2_init ∧ Cond.initialized RX0 ∈ wsX2_init := by decide +kernel
theorem nw_X2_init_9 : Cond.classLink RX2 9 RX8 ∈ wsX2_init ∧ Cond.instantiable RX8 12 ∈ wsX2_init ∧ Cond.initialized RX8 ∈ wsX2_init := by decide +kernel
theorem ob_X2_init : (Cond.methodLink RX2 3 objectInit ∈ wsX2_init ∧ Cond.instanceMethod objectInit ∈ wsX2_init) ∧ Cond.code objectInit ⟨#[0xb1]⟩ 1 none ∈ wsX2_init := by decide +kernel
noncomputable def g_X2_init_116s (Pw : Int32 → ZS → Prop) (self116 : Nat → Int32 → ZS → Nat → Nat → Prop) (x0 : Nat) (x1 : Int32) (S : ZS) (C T : Nat) : Prop :=
  m_ifQ ((6 : Int32) < x1) (
  Pw 0 S
  ) (
  m_chkQ (zK S x0 = 2) (
  m_calP (zP S 10 x0) (fun b1 =>
  m_newP (C) (T) 7 (zt S) (fun q2 C4 T5 =>
  m_bndP (zsNewO S q2 0 7) (fun S3 =>
  m_gal (C4) (T5) (fun mc ms Pw => g_X0_init q2 S3 mc ms Pw) (fun r7 S8 C9 T10 =>
  m_chkQ (zK S8 b1 = 15) (
  m_chkQ (zK S8 q2 = 0) (
  m_chkQ (¬ (x1 < 0 ∨ zN S8 b1 ≤ (x1).toNatClampNeg)) (
  m_bndP (zsB S8 b1 (x1).toNatClampNeg (some q2)) (fun S11 =>
  m_chkQ (zK S11 x0 = 2) (
  m_calP (zP S11 11 x0) (fun b12 =>
  m_newP (C9) (T10) 7 (zt S11) (fun q13 C15 T16 =>
  m_bndP (zsNewO S11 q13 0 7) (fun S14 =>
  m_gal (C15) (T16) (fun mc ms Pw => g_X0_init q13 S14 mc ms Pw) (fun r18 S19 C20 T21 =>
  m_chkQ (zK S19 b12 = 15) (
  m_chkQ (zK S19 q13 = 0) (
  m_chkQ (¬ (x1 < 0 ∨ zN S19 b12 ≤ (x1).toNatClampNeg)) (
  m_bndP (zsB S19 b12 (x1).toNatClampNeg (some q13)) (fun S22 =>
  m_bndP (x1 + (1 : Int32)) (fun v23 =>
  self116 x0 v23 S22 (C20) (T21))))))))))))))))))))
  )

set_option maxRecDepth 100000 in
set_option maxHeartbeats 4000000 in
theorem ws_X2_init_116 {p : Program} {l : Launch} {e : Env} {s : State} {m : MethodId} {args : Array Value} {below : List Frame} {meth : Method} {c : Code} {Q : State → Prop} {D : va_G} {y : Nat → ClassId} {A0 : Nat → Prop} {kc kt : Nat} {Pw : Int32 → ZS → Prop} (X : CallFix p m c cX2_init 2 s args wsX2_init RX2) (hin : meth.name = "<init>") (hret : zQv p l e ({ frames := 4, cells := kc, slots := kt, locals := 84 } : Room) s m args below meth c Q cX2_init D y A0 Pw) {self116 : Nat → Int32 → ZS → Nat → Nat → Prop} (hself116 : ∀ (x0 : Nat) (x1 : Int32) (S : ZS) (C T : Nat) (H : Heap) (locs : List Loc) (ls : Array Slot), self116 x0 x1 S C T → C ≤ kc ∧ T ≤ kt → zH D y A0 s H locs S → lv_has ls 2 [(0, .ref (zh y x0)), (1, .int x1)] → W p l e ({ frames := 4, cells := kc, slots := kt, locals := 84 } : Room) s m args below meth c H locs (kc - C) (kt - T) Q (F0 m 116 ls [])) {x0 : Nat} {x1 : Int32} {S : ZS} {C T : Nat} {H : Heap} {locs : List Loc} {ls : Array Slot} (hf : g_X2_init_116s Pw self116 x0 x1 S C T) (hCT : C ≤ kc ∧ T ≤ kt) (hM : zH D y A0 s H locs S) (hl : lv_has ls 2 [(0, .ref (zh y x0)), (1, .int x1)]) : W p l e ({ frames := 4, cells := kc, slots := kt, locals := 84 } : Room) s m args below meth c H locs (kc - C) (kt - T) Q (F0 m 116 ls []) := by
  obtain ⟨hx, hb, hml, hown, hts⟩ := id X
  unfold g_X2_init_116s at hf
  refine lv_iload_n hx hb dX2_init_116 rfl (lv_at hl 1 rfl) ?_
  refine lv_bipush (v := (6 : Int32)) hx hb dX2_init_117 (by decide) ?_
  refine lv_icmp_gt (tgt := 154) hx hb dX2_init_119 (by decide) (fun cc1 => ?_) (fun cc1 => ?_)
  · replace hf := m_ifPT hf cc1
    exact hret _ _ _ H locs _ ls hf hM dX2_init_154
  · replace hf := m_ifPF hf cc1
    refine lv_aload_n hx hb dX2_init_122 rfl (lv_at hl 0 rfl) ?_
    obtain ⟨ca, hf⟩ := m_chkPE hf
    replace ca := z_in hM (by decide) ca
    refine z_get (k := 2) (j := 10) (C := RX2) (T := TX2) (N := 12) (fl := zf_2) (v := va_rf ((zP S 10 x0).map (zh y))) X hw_X2_init_2 hM rfl zc_2 ca (by decide) fl_X2_init_2_10 rfl dX2_init_123 ?_
    clear ca
    obtain ⟨b1, hb9, hf⟩ := m_calPE hf
    refine z_topr hb9 ?_
    clear hb9
    refine lv_iload_n hx hb dX2_init_126 rfl (lv_at hl 1 rfl) ?_
    obtain ⟨hcm, ho⟩ := hf
    refine z_newO (k := 0) (C := RX0) (T := TX0) (N := 7) (fl := zf_0) X hw_X2_init_0 tyX0_ok hM rfl zc_0 nw_X2_init_59 zd_0 ⟨by show kc - (C) + 1 ≤ kc; omega, by show kt - (T) + 7 ≤ kt; omega⟩ dX2_init_127 (fun q2 H hq hM => ?_)
    replace hf := ho q2 hq
    refine z_eqCS (c2 := kc - (C - 1)) (t2 := kt - (T - 7)) (by omega) (by omega) ?_
    replace hCT : C - 1 ≤ kc ∧ T - 7 ≤ kt := by omega
    generalize C - 1 = C4 at hf hCT ⊢
    generalize T - 7 = T5 at hf hCT ⊢
    obtain ⟨S3, ev, hf⟩ := m_bndPE hf
    replace hM := z_hS hM ev
    clear ev ho hcm hq
    refine lv_dup hx hb dX2_init_130 rfl ?_
    obtain ⟨mc, ms, hcm, ho⟩ := m_galE hf
    refine z_wcallINv X hM (c_X0_init ho) gX2_init_X0_init_n68 ii_X2_init_68.1 ii_X2_init_68.2.1 ii_X2_init_68.2.2 rfl rfl ⟨rfl, rfl⟩ ⟨by show kc - (C4) + mc ≤ kc; omega, by show kt - (T5) + ms ≤ kt; omega⟩ hd_X0_init.2 ⟨Nat.le_of_ble_eq_true rfl, Nat.le_of_ble_eq_true rfl⟩ rfl hl.1 rfl (Nat.le_of_ble_eq_true rfl) dX2_init_131 (fun S8 H locs hf hM => ?_)
    refine z_eqCS (c2 := kc - (C4 - mc)) (t2 := kt - (T5 - ms)) (by omega) (by omega) ?_
    replace hCT : C4 - mc ≤ kc ∧ T5 - ms ≤ kt := by omega
    generalize C4 - mc = C9 at hf hCT ⊢
    generalize T5 - ms = T10 at hf hCT ⊢
    clear ho hcm
    obtain ⟨ca, hf⟩ := m_chkPE hf
    replace ca := z_in hM (by decide) ca
    obtain ⟨cb, hf⟩ := m_chkPE hf
    replace cb := z_in hM (by decide) cb
    obtain ⟨cd, hf⟩ := m_chkPE hf
    refine z_aast (k := 15) (t0 := 2) (kv := 0) (C := RX0) (T := TX0) (N := 7) (fl := zf_0) X hM (fun _ _ _ _ _ => rfl) rfl rfl zc_0 ca cb cd dX2_init_134 (fun H locs hM => ?_)
    clear ca cb cd
    obtain ⟨S11, ev, hf⟩ := m_bndPE hf
    replace hM := z_hS hM ev
    clear ev
    refine lv_aload_n hx hb dX2_init_135 rfl (lv_at hl 0 rfl) ?_
    obtain ⟨ca, hf⟩ := m_chkPE hf
    replace ca := z_in hM (by decide) ca
    refine z_get (k := 2) (j := 11) (C := RX2) (T := TX2) (N := 12) (fl := zf_2) (v := va_rf ((zP S11 11 x0).map (zh y))) X hw_X2_init_2 hM rfl zc_2 ca (by decide) fl_X2_init_2_11 rfl dX2_init_136 ?_
    clear ca
    obtain ⟨b12, hb9, hf⟩ := m_calPE hf
    refine z_topr hb9 ?_
    clear hb9
    refine lv_iload_n hx hb dX2_init_139 rfl (lv_at hl 1 rfl) ?_
    obtain ⟨hcm, ho⟩ := hf
    refine z_newO (k := 0) (C := RX0) (T := TX0) (N := 7) (fl := zf_0) X hw_X2_init_0 tyX0_ok hM rfl zc_0 nw_X2_init_59 zd_0 ⟨by show kc - (C9) + 1 ≤ kc; omega, by show kt - (T10) + 7 ≤ kt; omega⟩ dX2_init_140 (fun q13 H hq hM => ?_)
    replace hf := ho q13 hq
    refine z_eqCS (c2 := kc - (C9 - 1)) (t2 := kt - (T10 - 7)) (by omega) (by omega) ?_
    replace hCT : C9 - 1 ≤ kc ∧ T10 - 7 ≤ kt := by omega
    generalize C9 - 1 = C15 at hf hCT ⊢
    generalize T10 - 7 = T16 at hf hCT ⊢
    obtain ⟨S14, ev, hf⟩ := m_bndPE hf
    replace hM := z_hS hM ev
    clear ev ho hcm hq
    refine lv_dup hx hb dX2_init_143 rfl ?_
    obtain ⟨mc, ms, hcm, ho⟩ := m_galE hf
    refine z_wcallINv X hM (c_X0_init ho) gX2_init_X0_init_n68 ii_X2_init_68.1 ii_X2_init_68.2.1 ii_X2_init_68.2.2 rfl rfl ⟨rfl, rfl⟩ ⟨by show kc - (C15) + mc ≤ kc; omega, by show kt - (T16) + ms ≤ kt; omega⟩ hd_X0_init.2 ⟨Nat.le_of_ble_eq_true rfl, Nat.le_of_ble_eq_true rfl⟩ rfl hl.1 rfl (Nat.le_of_ble_eq_true rfl) dX2_init_144 (fun S19 H locs hf hM => ?_)
    refine z_eqCS (c2 := kc - (C15 - mc)) (t2 := kt - (T16 - ms)) (by omega) (by omega) ?_
    replace hCT : C15 - mc ≤ kc ∧ T16 - ms ≤ kt := by omega
    generalize C15 - mc = C20 at hf hCT ⊢
    generalize T16 - ms = T21 at hf hCT ⊢
    clear ho hcm
    obtain ⟨ca, hf⟩ := m_chkPE hf
    replace ca := z_in hM (by decide) ca
    obtain ⟨cb, hf⟩ := m_chkPE hf
    replace cb := z_in hM (by decide) cb
    obtain ⟨cd, hf⟩ := m_chkPE hf
    refine z_aast (k := 15) (t0 := 2) (kv := 0) (C := RX0) (T := TX0) (N := 7) (fl := zf_0) X hM (fun _ _ _ _ _ => rfl) rfl rfl zc_0 ca cb cd dX2_init_147 (fun H locs hM => ?_)
    clear ca cb cd
    obtain ⟨S22, ev, hf⟩ := m_bndPE hf
    replace hM := z_hS hM ev
    clear ev
    obtain ⟨v23, ev, hf⟩ := m_bndPE hf
    refine lv_iinc (v := v23) (lv' := [(1, .int v23), (0, .ref (zh y x0))]) hx hb dX2_init_148 hl (k := 1) rfl (by rw [ev]; rfl) (by decide) rfl (fun ls hl => ?_)
    clear ev
    refine lv_goto (tgt := 116) hx hb dX2_init_151 (by decide) ?_
    exact hself116 x0 v23 _ _ _ _ _ _ hf hCT hM (lv_sub hl [1, 0] rfl)
noncomputable def g_X2_init_116 (Pw : Int32 → ZS → Prop) : Nat → Nat → Int32 → ZS → Nat → Nat → Prop
  | 0 => fun _ _ _ _ _ => False
  | n + 1 => g_X2_init_116s Pw (g_X2_init_116 Pw n)
theorem w_X2_init_116 {p : Program} {l : Launch} {e : Env} {s : State} {m : MethodId} {args : Array Value} {below : List Frame} {meth : Method} {c : Code} {Q : State → Prop} {D : va_G} {y : Nat → ClassId} {A0 : Nat → Prop} {kc kt : Nat} {Pw : Int32 → ZS → Prop} (X : CallFix p m c cX2_init 2 s args wsX2_init RX2) (hin : meth.name = "<init>") (hret : zQv p l e ({ frames := 4, cells := kc, slots := kt, locals := 84 } : Room) s m args below meth c Q cX2_init D y A0 Pw) (n : Nat) : ∀ (x0 : Nat) (x1 : Int32) (S : ZS) (C T : Nat) (H : Heap) (locs : List Loc) (ls : Array Slot), g_X2_init_116 Pw n x0 x1 S C T → C ≤ kc ∧ T ≤ kt → zH D y A0 s H locs S → lv_has ls 2 [(0, .ref (zh y x0)), (1, .int x1)] → W p l e ({ frames := 4, cells := kc, slots := kt, locals := 84 } : Room) s m args below meth c H locs (kc - C) (kt - T) Q (F0 m 116 ls []) := by
  induction n with
  | zero => intro x0 x1 S C T H locs ls hf; exact absurd hf id
  | succ n ih => intro x0 x1 S C T H locs ls hf hCT hM hl; exact ws_X2_init_116 X hin hret (self116 := g_X2_init_116 Pw n) ih hf hCT hM hl
noncomputable def g_X2_init_0 (Pw : Int32 → ZS → Prop) (x0 : Nat) (S : ZS) (C T : Nat) : Prop :=
  m_newP (C) (T) 12 (zt S) (fun q1 C3 T4 =>
  m_bndP (zsNewO S q1 8 12) (fun S2 =>
  m_gal (C3) (T4) (fun mc ms Pw => g_X8_init q1 S2 mc ms Pw) (fun r6 S7 C8 T9 =>
  m_chkQ (zK S7 x0 = 2) (
  m_bndP (zsP S7 0 x0 (some q1)) (fun S10 =>
  m_newP (C8) (T9) 2 (zt S10) (fun q11 C13 T14 =>
  m_bndP (zsNewO S10 q11 5 2) (fun S12 =>
  m_gal (C13) (T14) (fun mc ms Pw => g_X5_init q11 S12 mc ms Pw) (fun r16 S17 C18 T19 =>
  m_chkQ (zK S17 x0 = 2) (
  m_bndP (zsP S17 1 x0 (some q11)) (fun S20 =>
  m_newP (C18) (T19) 2 (zt S20) (fun q21 C23 T24 =>
  m_bndP (zsNewO S20 q21 6 2) (fun S22 =>
  m_calP (f_X6_init q21 S22) (fun o25 =>
  m_chkQ (zK o25.2 x0 = 2) (
  m_bndP (zsP o25.2 2 x0 (some q21)) (fun S26 =>
  m_newP (C23) (T24) 8 (zt S26) (fun q27 C29 T30 =>
  m_bndP (zsNewO S26 q27 1 8) (fun S28 =>
  m_gal (C29) (T30) (fun mc ms Pw => g_X1_init q27 S28 mc ms Pw) (fun r32 S33 C34 T35 =>
  m_chkQ (zK S33 x0 = 2) (
  m_bndP (zsP S33 3 x0 (some q27)) (fun S36 =>
  m_chkQ (zK S36 x0 = 2) (
  m_bndP (zsI S36 4 x0 (0 : Int32)) (fun S37 =>
  m_chkQ (zK S37 x0 = 2) (
  m_bndP (zsI S37 5 x0 (0 : Int32)) (fun S38 =>
  m_newP (C34) (T35) 2 (zt S38) (fun q39 C41 T42 =>
  m_bndP (zsNewO S38 q39 6 2) (fun S40 =>
  m_calP (f_X6_init q39 S40) (fun o43 =>
  m_chkQ (zK o43.2 x0 = 2) (
  m_bndP (zsP o43.2 6 x0 (some q39)) (fun S44 =>
  m_newP (C41) (T42) 2 (zt S44) (fun q45 C47 T48 =>
  m_bndP (zsNewO S44 q45 6 2) (fun S46 =>
  m_calP (f_X6_init q45 S46) (fun o49 =>
  m_chkQ (zK o49.2 x0 = 2) (
  m_bndP (zsP o49.2 7 x0 (some q45)) (fun S50 =>
  m_chkQ (¬ (7 : Int32) < 0 ∧ ((7 : Int32)).toNatClampNeg * componentBytes .int ≤ 536870912) (
  m_newP (C47) (T48) ((7 : Int32)).toNatClampNeg (zt S50) (fun q51 C53 T54 =>
  m_bndP (zsNewA S50 q51 14 ((7 : Int32)).toNatClampNeg) (fun S52 =>
  m_chkQ (zK S52 x0 = 2) (
  m_bndP (zsP S52 8 x0 (some q51)) (fun S55 =>
  m_chkQ (¬ (7 : Int32) < 0 ∧ ((7 : Int32)).toNatClampNeg * componentBytes .int ≤ 536870912) (
  m_newP (C53) (T54) ((7 : Int32)).toNatClampNeg (zt S55) (fun q56 C58 T59 =>
  m_bndP (zsNewA S55 q56 14 ((7 : Int32)).toNatClampNeg) (fun S57 =>
  m_chkQ (zK S57 x0 = 2) (
  m_bndP (zsP S57 9 x0 (some q56)) (fun S60 =>
  m_chkQ (¬ (7 : Int32) < 0 ∧ ((7 : Int32)).toNatClampNeg * 4 ≤ 536870912) (
  m_newP (C58) (T59) ((7 : Int32)).toNatClampNeg (zt S60) (fun q61 C63 T64 =>
  m_bndP (zsNewA S60 q61 15 ((7 : Int32)).toNatClampNeg) (fun S62 =>
  m_chkQ (zK S62 x0 = 2) (
  m_bndP (zsP S62 10 x0 (some q61)) (fun S65 =>
  m_chkQ (¬ (7 : Int32) < 0 ∧ ((7 : Int32)).toNatClampNeg * 4 ≤ 536870912) (
  m_newP (C63) (T64) ((7 : Int32)).toNatClampNeg (zt S65) (fun q66 C68 T69 =>
  m_bndP (zsNewA S65 q66 15 ((7 : Int32)).toNatClampNeg) (fun S67 =>
  m_chkQ (zK S67 x0 = 2) (
  m_bndP (zsP S67 11 x0 (some q66)) (fun S70 =>
  g_X2_init_116 Pw mFuel x0 (0 : Int32) S70 (C68) (T69)))))))))))))))))))))))))))))))))))))))))))))))))))))))

set_option maxRecDepth 100000 in
set_option maxHeartbeats 4000000 in
theorem w_X2_init_0 {p : Program} {l : Launch} {e : Env} {s : State} {m : MethodId} {args : Array Value} {below : List Frame} {meth : Method} {c : Code} {Q : State → Prop} {D : va_G} {y : Nat → ClassId} {A0 : Nat → Prop} {kc kt : Nat} {Pw : Int32 → ZS → Prop} (X : CallFix p m c cX2_init 2 s args wsX2_init RX2) (hin : meth.name = "<init>") (hret : zQv p l e ({ frames := 4, cells := kc, slots := kt, locals := 84 } : Room) s m args below meth c Q cX2_init D y A0 Pw) {x0 : Nat} {S : ZS} {C T : Nat} {H : Heap} {locs : List Loc} {ls : Array Slot} (hf : g_X2_init_0 Pw x0 S C T) (hCT : C ≤ kc ∧ T ≤ kt) (hM : zH D y A0 s H locs S) (hl : lv_has ls 2 [(0, .ref (zh y x0))]) : W p l e ({ frames := 4, cells := kc, slots := kt, locals := 84 } : Room) s m args below meth c H locs (kc - C) (kt - T) Q (F0 m 0 ls []) := by
  obtain ⟨hx, hb, hml, hown, hts⟩ := id X
  unfold g_X2_init_0 at hf
  refine lv_aload_n hx hb dX2_init_0 rfl (lv_at hl 0 rfl) ?_
  refine z_obj X (by rw [hml]; exact hl.1.symm) ob_X2_init.1 ob_X2_init.2 (Nat.le_of_ble_eq_true rfl) (Nat.le_of_ble_eq_true rfl) dX2_init_1 ?_
  refine lv_aload_n hx hb dX2_init_4 rfl (lv_at hl 0 rfl) ?_
  obtain ⟨hcm, ho⟩ := hf
  refine z_newO (k := 8) (C := RX8) (T := TX8) (N := 12) (fl := zf_8) X hw_X2_init_8 tyX8_ok hM rfl zc_8 nw_X2_init_9 zd_8 ⟨by show kc - (C) + 1 ≤ kc; omega, by show kt - (T) + 12 ≤ kt; omega⟩ dX2_init_5 (fun q1 H hq hM => ?_)
  replace hf := ho q1 hq
  refine z_eqCS (c2 := kc - (C - 1)) (t2 := kt - (T - 12)) (by omega) (by omega) ?_
  replace hCT : C - 1 ≤ kc ∧ T - 12 ≤ kt := by omega
  generalize C - 1 = C3 at hf hCT ⊢
  generalize T - 12 = T4 at hf hCT ⊢
  obtain ⟨S2, ev, hf⟩ := m_bndPE hf
  replace hM := z_hS hM ev
  clear ev ho hcm hq
  refine lv_dup hx hb dX2_init_8 rfl ?_
  obtain ⟨mc, ms, hcm, ho⟩ := m_galE hf
  refine z_wcallINv X hM (c_X8_init ho) gX2_init_X8_init_n11 ii_X2_init_11.1 ii_X2_init_11.2.1 ii_X2_init_11.2.2 rfl rfl ⟨rfl, rfl⟩ ⟨by show kc - (C3) + mc ≤ kc; omega, by show kt - (T4) + ms ≤ kt; omega⟩ hd_X8_init.2 ⟨Nat.le_of_ble_eq_true rfl, Nat.le_of_ble_eq_true rfl⟩ rfl hl.1 rfl (Nat.le_of_ble_eq_true rfl) dX2_init_9 (fun S7 H locs hf hM => ?_)
  refine z_eqCS (c2 := kc - (C3 - mc)) (t2 := kt - (T4 - ms)) (by omega) (by omega) ?_
  replace hCT : C3 - mc ≤ kc ∧ T4 - ms ≤ kt := by omega
  generalize C3 - mc = C8 at hf hCT ⊢
  generalize T4 - ms = T9 at hf hCT ⊢
  clear ho hcm
  obtain ⟨ca, hf⟩ := m_chkPE hf
  replace ca := z_in hM (by decide) ca
  refine z_putPF (k := 2) (j := 0) (C := RX2) (T := TX2) (N := 12) (fl := zf_2) (ty := tyX2 0) X hw_X2_init_2 tyX2_ok nmX2 hM rfl zc_2 ca (by decide) fl_X2_init_2_0 rfl hin rfl (tyX2_ok 0 (by decide)) rfl rfl zp_2_0 (Nat.le_of_ble_eq_true rfl) dX2_init_12 (fun H locs hM => ?_)
  clear ca
  obtain ⟨S10, ev, hf⟩ := m_bndPE hf
  replace hM := z_hS hM ev
  clear ev
  refine lv_aload_n hx hb dX2_init_15 rfl (lv_at hl 0 rfl) ?_
  obtain ⟨hcm, ho⟩ := hf
  refine z_newO (k := 5) (C := RX5) (T := TX5) (N := 2) (fl := zf_5) X hw_X2_init_5 tyX5_ok hM rfl zc_5 nw_X2_init_18 zd_5 ⟨by show kc - (C8) + 1 ≤ kc; omega, by show kt - (T9) + 2 ≤ kt; omega⟩ dX2_init_16 (fun q11 H hq hM => ?_)
  replace hf := ho q11 hq
  refine z_eqCS (c2 := kc - (C8 - 1)) (t2 := kt - (T9 - 2)) (by omega) (by omega) ?_
  replace hCT : C8 - 1 ≤ kc ∧ T9 - 2 ≤ kt := by omega
  generalize C8 - 1 = C13 at hf hCT ⊢
  generalize T9 - 2 = T14 at hf hCT ⊢
  obtain ⟨S12, ev, hf⟩ := m_bndPE hf
  replace hM := z_hS hM ev
  clear ev ho hcm hq
  refine lv_dup hx hb dX2_init_19 rfl ?_
  obtain ⟨mc, ms, hcm, ho⟩ := m_galE hf
  refine z_wcallINv X hM (c_X5_init ho) gX2_init_X5_init_n20 ii_X2_init_20.1 ii_X2_init_20.2.1 ii_X2_init_20.2.2 rfl rfl ⟨rfl, rfl⟩ ⟨by show kc - (C13) + mc ≤ kc; omega, by show kt - (T14) + ms ≤ kt; omega⟩ hd_X5_init.2 ⟨Nat.le_of_ble_eq_true rfl, Nat.le_of_ble_eq_true rfl⟩ rfl hl.1 rfl (Nat.le_of_ble_eq_true rfl) dX2_init_20 (fun S17 H locs hf hM => ?_)
  refine z_eqCS (c2 := kc - (C13 - mc)) (t2 := kt - (T14 - ms)) (by omega) (by omega) ?_
  replace hCT : C13 - mc ≤ kc ∧ T14 - ms ≤ kt := by omega
  generalize C13 - mc = C18 at hf hCT ⊢
  generalize T14 - ms = T19 at hf hCT ⊢
  clear ho hcm
  obtain ⟨ca, hf⟩ := m_chkPE hf
  replace ca := z_in hM (by decide) ca
  refine z_putPF (k := 2) (j := 1) (C := RX2) (T := TX2) (N := 12) (fl := zf_2) (ty := tyX2 1) X hw_X2_init_2 tyX2_ok nmX2 hM rfl zc_2 ca (by decide) fl_X2_init_2_1 rfl hin rfl (tyX2_ok 1 (by decide)) rfl rfl zp_2_1 (Nat.le_of_ble_eq_true rfl) dX2_init_23 (fun H locs hM => ?_)
  clear ca
  obtain ⟨S20, ev, hf⟩ := m_bndPE hf
  replace hM := z_hS hM ev
  clear ev
  refine lv_aload_n hx hb dX2_init_26 rfl (lv_at hl 0 rfl) ?_
  obtain ⟨hcm, ho⟩ := hf
  refine z_newO (k := 6) (C := RX6) (T := TX6) (N := 2) (fl := zf_6) X hw_X2_init_6 tyX6_ok hM rfl zc_6 nw_X2_init_25 zd_6 ⟨by show kc - (C18) + 1 ≤ kc; omega, by show kt - (T19) + 2 ≤ kt; omega⟩ dX2_init_27 (fun q21 H hq hM => ?_)
  replace hf := ho q21 hq
  refine z_eqCS (c2 := kc - (C18 - 1)) (t2 := kt - (T19 - 2)) (by omega) (by omega) ?_
  replace hCT : C18 - 1 ≤ kc ∧ T19 - 2 ≤ kt := by omega
  generalize C18 - 1 = C23 at hf hCT ⊢
  generalize T19 - 2 = T24 at hf hCT ⊢
  obtain ⟨S22, ev, hf⟩ := m_bndPE hf
  replace hM := z_hS hM ev
  clear ev ho hcm hq
  refine lv_dup hx hb dX2_init_30 rfl ?_
  obtain ⟨o25, ho, hf⟩ := m_calPE hf
  refine z_gcallINv X hM (c_X6_init ho) gX2_init_X6_init_n27 ii_X2_init_27.1 ii_X2_init_27.2.1 ii_X2_init_27.2.2 rfl rfl ⟨rfl, rfl⟩ hd_X6_init.2 ⟨Nat.le_of_ble_eq_true rfl, Nat.le_of_ble_eq_true rfl⟩ rfl hl.1 rfl ⟨Nat.sub_le _ _, Nat.sub_le _ _⟩ (Nat.le_of_ble_eq_true rfl) dX2_init_31 (fun H locs hM => ?_)
  clear ho
  obtain ⟨ca, hf⟩ := m_chkPE hf
  replace ca := z_in hM (by decide) ca
  refine z_putP (k := 2) (j := 2) (C := RX2) (T := TX2) (N := 12) (fl := zf_2) (ty := tyX2 2) X hw_X2_init_2 tyX2_ok nmX2 hM rfl zc_2 ca (by decide) fl_X2_init_2_2 rfl (tyX2_ok 2 (by decide)) rfl rfl zp_2_2 (Nat.le_of_ble_eq_true rfl) dX2_init_34 (fun H locs hM => ?_)
  clear ca
  obtain ⟨S26, ev, hf⟩ := m_bndPE hf
  replace hM := z_hS hM ev
  clear ev
  refine lv_aload_n hx hb dX2_init_37 rfl (lv_at hl 0 rfl) ?_
  obtain ⟨hcm, ho⟩ := hf
  refine z_newO (k := 1) (C := RX1) (T := TX1) (N := 8) (fl := zf_1) X hw_X2_init_1 tyX1_ok hM rfl zc_1 nw_X2_init_32 zd_1 ⟨by show kc - (C23) + 1 ≤ kc; omega, by show kt - (T24) + 8 ≤ kt; omega⟩ dX2_init_38 (fun q27 H hq hM => ?_)
  replace hf := ho q27 hq
  refine z_eqCS (c2 := kc - (C23 - 1)) (t2 := kt - (T24 - 8)) (by omega) (by omega) ?_
  replace hCT : C23 - 1 ≤ kc ∧ T24 - 8 ≤ kt := by omega
  generalize C23 - 1 = C29 at hf hCT ⊢
  generalize T24 - 8 = T30 at hf hCT ⊢
  obtain ⟨S28, ev, hf⟩ := m_bndPE hf
  replace hM := z_hS hM ev
  clear ev ho hcm hq
  refine lv_dup hx hb dX2_init_41 rfl ?_
  obtain ⟨mc, ms, hcm, ho⟩ := m_galE hf
  refine z_wcallIv X hM (c_X1_init ho) gX2_init_X1_init ii_X2_init_34.1 ii_X2_init_34.2.1 ii_X2_init_34.2.2 rfl rfl ⟨rfl, rfl⟩ ⟨by show kc - (C29) + mc ≤ kc; omega, by show kt - (T30) + ms ≤ kt; omega⟩ hd_X1_init.2 ⟨Nat.le_of_ble_eq_true rfl, Nat.le_of_ble_eq_true rfl⟩ rfl hl.1 rfl (Nat.le_of_ble_eq_true rfl) dX2_init_42 (fun S33 H locs hf hM => ?_)
  refine z_eqCS (c2 := kc - (C29 - mc)) (t2 := kt - (T30 - ms)) (by omega) (by omega) ?_
  replace hCT : C29 - mc ≤ kc ∧ T30 - ms ≤ kt := by omega
  generalize C29 - mc = C34 at hf hCT ⊢
  generalize T30 - ms = T35 at hf hCT ⊢
  clear ho hcm
  obtain ⟨ca, hf⟩ := m_chkPE hf
  replace ca := z_in hM (by decide) ca
  refine z_putP (k := 2) (j := 3) (C := RX2) (T := TX2) (N := 12) (fl := zf_2) (ty := tyX2 3) X hw_X2_init_2 tyX2_ok nmX2 hM rfl zc_2 ca (by decide) fl_X2_init_2_3 rfl (tyX2_ok 3 (by decide)) rfl rfl zp_2_3 (Nat.le_of_ble_eq_true rfl) dX2_init_45 (fun H locs hM => ?_)
  clear ca
  obtain ⟨S36, ev, hf⟩ := m_bndPE hf
  replace hM := z_hS hM ev
  clear ev
  refine lv_aload_n hx hb dX2_init_48 rfl (lv_at hl 0 rfl) ?_
  refine lv_iconst (v := (0 : Int32)) hx hb dX2_init_49 (by decide) ?_
  obtain ⟨ca, hf⟩ := m_chkPE hf
  replace ca := z_in hM (by decide) ca
  refine z_putI (k := 2) (j := 4) (C := RX2) (T := TX2) (N := 12) (fl := zf_2) (ty := .int) X hw_X2_init_2 tyX2_ok nmX2 hM rfl zc_2 ca (by decide) fl_X2_init_2_4 rfl (tyX2_ok 4 (by decide)) rfl rfl zi_2_4 (Nat.le_of_ble_eq_true rfl) dX2_init_50 (fun H locs hM => ?_)
  clear ca
  obtain ⟨S37, ev, hf⟩ := m_bndPE hf
  replace hM := z_hS hM ev
  clear ev
  refine lv_aload_n hx hb dX2_init_53 rfl (lv_at hl 0 rfl) ?_
  refine lv_iconst (v := (0 : Int32)) hx hb dX2_init_54 (by decide) ?_
  obtain ⟨ca, hf⟩ := m_chkPE hf
  replace ca := z_in hM (by decide) ca
  refine z_putI (k := 2) (j := 5) (C := RX2) (T := TX2) (N := 12) (fl := zf_2) (ty := .int) X hw_X2_init_2 tyX2_ok nmX2 hM rfl zc_2 ca (by decide) fl_X2_init_2_5 rfl (tyX2_ok 5 (by decide)) rfl rfl zi_2_5 (Nat.le_of_ble_eq_true rfl) dX2_init_55 (fun H locs hM => ?_)
  clear ca
  obtain ⟨S38, ev, hf⟩ := m_bndPE hf
  replace hM := z_hS hM ev
  clear ev
  refine lv_aload_n hx hb dX2_init_58 rfl (lv_at hl 0 rfl) ?_
  obtain ⟨hcm, ho⟩ := hf
  refine z_newO (k := 6) (C := RX6) (T := TX6) (N := 2) (fl := zf_6) X hw_X2_init_6 tyX6_ok hM rfl zc_6 nw_X2_init_25 zd_6 ⟨by show kc - (C34) + 1 ≤ kc; omega, by show kt - (T35) + 2 ≤ kt; omega⟩ dX2_init_59 (fun q39 H hq hM => ?_)
  replace hf := ho q39 hq
  refine z_eqCS (c2 := kc - (C34 - 1)) (t2 := kt - (T35 - 2)) (by omega) (by omega) ?_
  replace hCT : C34 - 1 ≤ kc ∧ T35 - 2 ≤ kt := by omega
  generalize C34 - 1 = C41 at hf hCT ⊢
  generalize T35 - 2 = T42 at hf hCT ⊢
  obtain ⟨S40, ev, hf⟩ := m_bndPE hf
  replace hM := z_hS hM ev
  clear ev ho hcm hq
  refine lv_dup hx hb dX2_init_62 rfl ?_
  obtain ⟨o43, ho, hf⟩ := m_calPE hf
  refine z_gcallINv X hM (c_X6_init ho) gX2_init_X6_init_n27 ii_X2_init_27.1 ii_X2_init_27.2.1 ii_X2_init_27.2.2 rfl rfl ⟨rfl, rfl⟩ hd_X6_init.2 ⟨Nat.le_of_ble_eq_true rfl, Nat.le_of_ble_eq_true rfl⟩ rfl hl.1 rfl ⟨Nat.sub_le _ _, Nat.sub_le _ _⟩ (Nat.le_of_ble_eq_true rfl) dX2_init_63 (fun H locs hM => ?_)
  clear ho
  obtain ⟨ca, hf⟩ := m_chkPE hf
  replace ca := z_in hM (by decide) ca
  refine z_putPF (k := 2) (j := 6) (C := RX2) (T := TX2) (N := 12) (fl := zf_2) (ty := tyX2 6) X hw_X2_init_2 tyX2_ok nmX2 hM rfl zc_2 ca (by decide) fl_X2_init_2_6 rfl hin rfl (tyX2_ok 6 (by decide)) rfl rfl zp_2_6 (Nat.le_of_ble_eq_true rfl) dX2_init_66 (fun H locs hM => ?_)
  clear ca
  obtain ⟨S44, ev, hf⟩ := m_bndPE hf
  replace hM := z_hS hM ev
  clear ev
  refine lv_aload_n hx hb dX2_init_69 rfl (lv_at hl 0 rfl) ?_
  obtain ⟨hcm, ho⟩ := hf
  refine z_newO (k := 6) (C := RX6) (T := TX6) (N := 2) (fl := zf_6) X hw_X2_init_6 tyX6_ok hM rfl zc_6 nw_X2_init_25 zd_6 ⟨by show kc - (C41) + 1 ≤ kc; omega, by show kt - (T42) + 2 ≤ kt; omega⟩ dX2_init_70 (fun q45 H hq hM => ?_)
  replace hf := ho q45 hq
  refine z_eqCS (c2 := kc - (C41 - 1)) (t2 := kt - (T42 - 2)) (by omega) (by omega) ?_
  replace hCT : C41 - 1 ≤ kc ∧ T42 - 2 ≤ kt := by omega
  generalize C41 - 1 = C47 at hf hCT ⊢
  generalize T42 - 2 = T48 at hf hCT ⊢
  obtain ⟨S46, ev, hf⟩ := m_bndPE hf
  replace hM := z_hS hM ev
  clear ev ho hcm hq
  refine lv_dup hx hb dX2_init_73 rfl ?_
  obtain ⟨o49, ho, hf⟩ := m_calPE hf
  refine z_gcallINv X hM (c_X6_init ho) gX2_init_X6_init_n27 ii_X2_init_27.1 ii_X2_init_27.2.1 ii_X2_init_27.2.2 rfl rfl ⟨rfl, rfl⟩ hd_X6_init.2 ⟨Nat.le_of_ble_eq_true rfl, Nat.le_of_ble_eq_true rfl⟩ rfl hl.1 rfl ⟨Nat.sub_le _ _, Nat.sub_le _ _⟩ (Nat.le_of_ble_eq_true rfl) dX2_init_74 (fun H locs hM => ?_)
  clear ho
  obtain ⟨ca, hf⟩ := m_chkPE hf
  replace ca := z_in hM (by decide) ca
  refine z_putPF (k := 2) (j := 7) (C := RX2) (T := TX2) (N := 12) (fl := zf_2) (ty := tyX2 7) X hw_X2_init_2 tyX2_ok nmX2 hM rfl zc_2 ca (by decide) fl_X2_init_2_7 rfl hin rfl (tyX2_ok 7 (by decide)) rfl rfl zp_2_7 (Nat.le_of_ble_eq_true rfl) dX2_init_77 (fun H locs hM => ?_)
  clear ca
  obtain ⟨S50, ev, hf⟩ := m_bndPE hf
  replace hM := z_hS hM ev
  clear ev
  refine lv_aload_n hx hb dX2_init_80 rfl (lv_at hl 0 rfl) ?_
  refine lv_bipush (v := (7 : Int32)) hx hb dX2_init_81 (by decide) ?_
  obtain ⟨cd, hf⟩ := m_chkPE hf
  obtain ⟨hcm, ho⟩ := hf
  refine z_newI X hM ar_X2_init_int cd.1 cd.2 ⟨by show kc - (C47) + 1 ≤ kc; omega, by show kt - (T48) + _ ≤ kt; omega⟩ dX2_init_83 (fun q51 H hq hM => ?_)
  replace hf := ho q51 hq
  refine z_eqCS (c2 := kc - (C47 - 1)) (t2 := kt - (T48 - ((7 : Int32)).toNatClampNeg)) (by omega) (by omega) ?_
  replace hCT : C47 - 1 ≤ kc ∧ T48 - ((7 : Int32)).toNatClampNeg ≤ kt := by omega
  generalize C47 - 1 = C53 at hf hCT ⊢
  generalize T48 - ((7 : Int32)).toNatClampNeg = T54 at hf hCT ⊢
  obtain ⟨S52, ev, hf⟩ := m_bndPE hf
  replace hM := z_hS hM ev
  clear ev ho hcm cd hq
  obtain ⟨ca, hf⟩ := m_chkPE hf
  replace ca := z_in hM (by decide) ca
  refine z_putPF (k := 2) (j := 8) (C := RX2) (T := TX2) (N := 12) (fl := zf_2) (ty := tyX2 8) X hw_X2_init_2 tyX2_ok nmX2 hM rfl zc_2 ca (by decide) fl_X2_init_2_8 rfl hin rfl (tyX2_ok 8 (by decide)) rfl rfl zp_2_8 (Nat.le_of_ble_eq_true rfl) dX2_init_85 (fun H locs hM => ?_)
  clear ca
  obtain ⟨S55, ev, hf⟩ := m_bndPE hf
  replace hM := z_hS hM ev
  clear ev
  refine lv_aload_n hx hb dX2_init_88 rfl (lv_at hl 0 rfl) ?_
  refine lv_bipush (v := (7 : Int32)) hx hb dX2_init_89 (by decide) ?_
  obtain ⟨cd, hf⟩ := m_chkPE hf
  obtain ⟨hcm, ho⟩ := hf
  refine z_newI X hM ar_X2_init_int cd.1 cd.2 ⟨by show kc - (C53) + 1 ≤ kc; omega, by show kt - (T54) + _ ≤ kt; omega⟩ dX2_init_91 (fun q56 H hq hM => ?_)
  replace hf := ho q56 hq
  refine z_eqCS (c2 := kc - (C53 - 1)) (t2 := kt - (T54 - ((7 : Int32)).toNatClampNeg)) (by omega) (by omega) ?_
  replace hCT : C53 - 1 ≤ kc ∧ T54 - ((7 : Int32)).toNatClampNeg ≤ kt := by omega
  generalize C53 - 1 = C58 at hf hCT ⊢
  generalize T54 - ((7 : Int32)).toNatClampNeg = T59 at hf hCT ⊢
  obtain ⟨S57, ev, hf⟩ := m_bndPE hf
  replace hM := z_hS hM ev
  clear ev ho hcm cd hq
  obtain ⟨ca, hf⟩ := m_chkPE hf
  replace ca := z_in hM (by decide) ca
  refine z_putPF (k := 2) (j := 9) (C := RX2) (T := TX2) (N := 12) (fl := zf_2) (ty := tyX2 9) X hw_X2_init_2 tyX2_ok nmX2 hM rfl zc_2 ca (by decide) fl_X2_init_2_9 rfl hin rfl (tyX2_ok 9 (by decide)) rfl rfl zp_2_9 (Nat.le_of_ble_eq_true rfl) dX2_init_93 (fun H locs hM => ?_)
  clear ca
  obtain ⟨S60, ev, hf⟩ := m_bndPE hf
  replace hM := z_hS hM ev
  clear ev
  refine lv_aload_n hx hb dX2_init_96 rfl (lv_at hl 0 rfl) ?_
  refine lv_bipush (v := (7 : Int32)) hx hb dX2_init_97 (by decide) ?_
  obtain ⟨cd, hf⟩ := m_chkPE hf
  obtain ⟨hcm, ho⟩ := hf
  refine z_newR (k := 15) (t0 := 2) (C := RX0) X hM (fun _ _ _ _ _ => rfl) rfl na_X2_init_59.1 na_X2_init_59.2 cd.1 cd.2 ⟨by show kc - (C58) + 1 ≤ kc; omega, by show kt - (T59) + _ ≤ kt; omega⟩ dX2_init_99 (fun q61 H hq hM => ?_)
  replace hf := ho q61 hq
  refine z_eqCS (c2 := kc - (C58 - 1)) (t2 := kt - (T59 - ((7 : Int32)).toNatClampNeg)) (by omega) (by omega) ?_
  replace hCT : C58 - 1 ≤ kc ∧ T59 - ((7 : Int32)).toNatClampNeg ≤ kt := by omega
  generalize C58 - 1 = C63 at hf hCT ⊢
  generalize T59 - ((7 : Int32)).toNatClampNeg = T64 at hf hCT ⊢
  obtain ⟨S62, ev, hf⟩ := m_bndPE hf
  replace hM := z_hS hM ev
  clear ev ho hcm cd hq
  obtain ⟨ca, hf⟩ := m_chkPE hf
  replace ca := z_in hM (by decide) ca
  refine z_putPF (k := 2) (j := 10) (C := RX2) (T := TX2) (N := 12) (fl := zf_2) (ty := tyX2 10) X hw_X2_init_2 tyX2_ok nmX2 hM rfl zc_2 ca (by decide) fl_X2_init_2_10 rfl hin rfl (tyX2_ok 10 (by decide)) rfl rfl zp_2_10 (Nat.le_of_ble_eq_true rfl) dX2_init_102 (fun H locs hM => ?_)
  clear ca
  obtain ⟨S65, ev, hf⟩ := m_bndPE hf
  replace hM := z_hS hM ev
  clear ev
  refine lv_aload_n hx hb dX2_init_105 rfl (lv_at hl 0 rfl) ?_
  refine lv_bipush (v := (7 : Int32)) hx hb dX2_init_106 (by decide) ?_
  obtain ⟨cd, hf⟩ := m_chkPE hf
  obtain ⟨hcm, ho⟩ := hf
  refine z_newR (k := 15) (t0 := 2) (C := RX0) X hM (fun _ _ _ _ _ => rfl) rfl na_X2_init_59.1 na_X2_init_59.2 cd.1 cd.2 ⟨by show kc - (C63) + 1 ≤ kc; omega, by show kt - (T64) + _ ≤ kt; omega⟩ dX2_init_108 (fun q66 H hq hM => ?_)
  replace hf := ho q66 hq
  refine z_eqCS (c2 := kc - (C63 - 1)) (t2 := kt - (T64 - ((7 : Int32)).toNatClampNeg)) (by omega) (by omega) ?_
  replace hCT : C63 - 1 ≤ kc ∧ T64 - ((7 : Int32)).toNatClampNeg ≤ kt := by omega
  generalize C63 - 1 = C68 at hf hCT ⊢
  generalize T64 - ((7 : Int32)).toNatClampNeg = T69 at hf hCT ⊢
  obtain ⟨S67, ev, hf⟩ := m_bndPE hf
  replace hM := z_hS hM ev
  clear ev ho hcm cd hq
  obtain ⟨ca, hf⟩ := m_chkPE hf
  replace ca := z_in hM (by decide) ca
  refine z_putPF (k := 2) (j := 11) (C := RX2) (T := TX2) (N := 12) (fl := zf_2) (ty := tyX2 11) X hw_X2_init_2 tyX2_ok nmX2 hM rfl zc_2 ca (by decide) fl_X2_init_2_11 rfl hin rfl (tyX2_ok 11 (by decide)) rfl rfl zp_2_11 (Nat.le_of_ble_eq_true rfl) dX2_init_111 (fun H locs hM => ?_)
  clear ca
  obtain ⟨S70, ev, hf⟩ := m_bndPE hf
  replace hM := z_hS hM ev
  clear ev
  refine lv_iconst (v := (0 : Int32)) hx hb dX2_init_114 (by decide) ?_
  refine lv_istore_n (lv' := [(1, .int (0 : Int32)), (0, .ref (zh y x0))]) hx hb dX2_init_115 rfl hl (by decide) rfl (fun ls hl => ?_)
  exact w_X2_init_116 X hin hret _ x0 (0 : Int32) _ _ _ _ _ _ hf hCT hM (lv_sub hl [1, 0] rfl)
noncomputable def g_X2_init (x0 : Nat) (S : ZS) (mc ms : Nat) (Pw : Int32 → ZS → Prop) : Prop := g_X2_init_0 Pw x0 S mc ms
theorem c_X2_init {l : Launch} {D : va_G} {y : Nat → ClassId} {x0 : Nat} {S : ZS} {kc kt : Nat} {Pw : Int32 → ZS → Prop} (hf : g_X2_init x0 S kc kt Pw) : zWv l yX2_init wsX2_init ({ frames := 4, cells := kc, slots := kt, locals := 84 } : Room) [.ref (zh y x0)] D y S kc kt Pw :=
  z_wentC (own := RX2) (cc := cX2_init) (maxL := 2) (by decide) rfl rfl (Nat.le_of_ble_eq_true rfl) ⟨rfl, rfl⟩ rfl (fun p e s m args below meth c A0 Q H locs ls X hin hret hM hl => w_X2_init_0 X hin hret hf ⟨Nat.le_refl _, Nat.le_refl _⟩ hM (lv_sub hl [0] rfl))
theorem hd_X2_begin : yX2_begin.cls = RX2 ∧ yX2_begin.cls ≠ "java/lang/invoke/MethodHandle" ∧ yX2_begin.cls ≠ "java/lang/invoke/VarHandle" ∧ (parseMethodDescriptor yX2_begin.desc).map (fun d => d.parameters.length) = some 1 := by decide +kernel
theorem fl_X2_begin_2_2 : Cond.fieldLink RX2 28 "MoveTexts$GameReader" "text" "LMoveTexts$Row;" ∈ wsX2_begin := by decide +kernel
theorem fl_X2_begin_2_3 : Cond.fieldLink RX2 35 "MoveTexts$GameReader" "game" "LMoveTexts$Game;" ∈ wsX2_begin := by decide +kernel
theorem fl_X2_begin_2_4 : Cond.fieldLink RX2 39 "MoveTexts$GameReader" "at" "I" ∈ wsX2_begin := by decide +kernel
theorem fl_X2_begin_2_5 : Cond.fieldLink RX2 43 "MoveTexts$GameReader" "fault" "I" ∈ wsX2_begin := by decide +kernel
theorem hw_X2_begin_2 : ∀ w ∈ wsX20, w ∈ wsX2_begin := by decide +kernel
noncomputable def f_X2_begin_0 (x0 : Nat) (x1 : Nat) (S : ZS) : Option (Int32 × ZS) :=
  m_chk (zK S x0 = 2) (
  m_bnd (zsP S 2 x0 (some x1)) (fun S1 =>
  m_chk (zK S1 x0 = 2) (
  m_cal (zP S1 3 x0) (fun b2 =>
  m_chk (zK S1 b2 = 1) (
  m_cal (f_X1_wipe b2 S1) (fun o3 =>
  m_chk (zK o3.2 x0 = 2) (
  m_bnd (zsI o3.2 4 x0 (0 : Int32)) (fun S4 =>
  m_chk (zK S4 x0 = 2) (
  m_bnd (zsI S4 5 x0 (0 : Int32)) (fun S5 =>
  some (0, S5)))))))))))

set_option maxRecDepth 100000 in
set_option maxHeartbeats 4000000 in
theorem w_X2_begin_0 {p : Program} {l : Launch} {e : Env} {s : State} {m : MethodId} {args : Array Value} {below : List Frame} {meth : Method} {c : Code} {Q : State → Prop} {D : va_G} {y : Nat → ClassId} {A0 : Nat → Prop} {o : Int32 × ZS} (X : CallFix p m c cX2_begin 2 s args wsX2_begin RX2) (hret : zRv p l e ({ frames := 3, cells := 0, slots := 0, locals := 63 } : Room) s m args below meth c Q cX2_begin D y A0 o) {x0 : Nat} {x1 : Nat} {S : ZS} {H : Heap} {locs : List Loc} {ls : Array Slot} (hf : f_X2_begin_0 x0 x1 S = some o) (hM : zH D y A0 s H locs S) (hl : lv_has ls 2 [(0, .ref (zh y x0)), (1, .ref (zh y x1))]) : W p l e ({ frames := 3, cells := 0, slots := 0, locals := 63 } : Room) s m args below meth c H locs 0 0 Q (F0 m 0 ls []) := by
  obtain ⟨hx, hb, hml, hown, hts⟩ := id X
  unfold f_X2_begin_0 at hf
  refine lv_aload_n hx hb dX2_begin_0 rfl (lv_at hl 0 rfl) ?_
  refine lv_aload_n hx hb dX2_begin_1 rfl (lv_at hl 1 rfl) ?_
  obtain ⟨ca, hf⟩ := m_chkE hf
  replace ca := z_in hM (by decide) ca
  refine z_putP (k := 2) (j := 2) (C := RX2) (T := TX2) (N := 12) (fl := zf_2) (ty := tyX2 2) X hw_X2_begin_2 tyX2_ok nmX2 hM rfl zc_2 ca (by decide) fl_X2_begin_2_2 rfl (tyX2_ok 2 (by decide)) rfl rfl zp_2_2 (Nat.le_of_ble_eq_true rfl) dX2_begin_2 (fun H locs hM => ?_)
  clear ca
  obtain ⟨S1, ev, hf⟩ := m_bndE hf
  replace hM := z_hS hM ev
  clear ev
  refine lv_aload_n hx hb dX2_begin_5 rfl (lv_at hl 0 rfl) ?_
  obtain ⟨ca, hf⟩ := m_chkE hf
  replace ca := z_in hM (by decide) ca
  refine z_get (k := 2) (j := 3) (C := RX2) (T := TX2) (N := 12) (fl := zf_2) (v := va_rf ((zP S1 3 x0).map (zh y))) X hw_X2_begin_2 hM rfl zc_2 ca (by decide) fl_X2_begin_2_3 rfl dX2_begin_6 ?_
  clear ca
  obtain ⟨b2, hb9, hf⟩ := m_calE hf
  refine z_topr hb9 ?_
  clear hb9
  obtain ⟨ca, hf⟩ := m_chkE hf
  replace ca := z_in hM (by decide) ca
  obtain ⟨o3, ho, hf⟩ := m_calE hf
  refine z_callVv (k := 1) (C := RX1) (T := TX1) (N := 8) (fl := zf_1) X hM rfl zc_1 ca (c_X1_wipe ho) gX2_begin_X1_wipe rfl ⟨rfl, rfl⟩ hd_X1_wipe ⟨Nat.le_of_ble_eq_true rfl, Nat.le_of_ble_eq_true rfl⟩ rfl hl.1 rfl (Nat.le_of_ble_eq_true rfl) dX2_begin_9 (fun H locs hM => ?_)
  clear ho
  refine lv_aload_n hx hb dX2_begin_12 rfl (lv_at hl 0 rfl) ?_
  refine lv_iconst (v := (0 : Int32)) hx hb dX2_begin_13 (by decide) ?_
  obtain ⟨ca, hf⟩ := m_chkE hf
  replace ca := z_in hM (by decide) ca
  refine z_putI (k := 2) (j := 4) (C := RX2) (T := TX2) (N := 12) (fl := zf_2) (ty := .int) X hw_X2_begin_2 tyX2_ok nmX2 hM rfl zc_2 ca (by decide) fl_X2_begin_2_4 rfl (tyX2_ok 4 (by decide)) rfl rfl zi_2_4 (Nat.le_of_ble_eq_true rfl) dX2_begin_14 (fun H locs hM => ?_)
  clear ca
  obtain ⟨S4, ev, hf⟩ := m_bndE hf
  replace hM := z_hS hM ev
  clear ev
  refine lv_aload_n hx hb dX2_begin_17 rfl (lv_at hl 0 rfl) ?_
  refine lv_iconst (v := (0 : Int32)) hx hb dX2_begin_18 (by decide) ?_
  obtain ⟨ca, hf⟩ := m_chkE hf
  replace ca := z_in hM (by decide) ca
  refine z_putI (k := 2) (j := 5) (C := RX2) (T := TX2) (N := 12) (fl := zf_2) (ty := .int) X hw_X2_begin_2 tyX2_ok nmX2 hM rfl zc_2 ca (by decide) fl_X2_begin_2_5 rfl (tyX2_ok 5 (by decide)) rfl rfl zi_2_5 (Nat.le_of_ble_eq_true rfl) dX2_begin_19 (fun H locs hM => ?_)
  clear ca
  obtain ⟨S5, ev, hf⟩ := m_bndE hf
  replace hM := z_hS hM ev
  clear ev
  cases hf
  exact hret H locs _ ls hM dX2_begin_22
noncomputable def f_X2_begin (x0 : Nat) (x1 : Nat) (S : ZS) : Option (Int32 × ZS) := f_X2_begin_0 x0 x1 S
theorem c_X2_begin {l : Launch} {D : va_G} {y : Nat → ClassId} {x0 : Nat} {x1 : Nat} {S : ZS} {o : Int32 × ZS} (hf : f_X2_begin x0 x1 S = some o) : zMv l yX2_begin wsX2_begin ({ frames := 3, cells := 0, slots := 0, locals := 63 } : Room) [.ref (zh y x0), .ref (zh y x1)] D y S o :=
  z_entryV (own := RX2) (cc := cX2_begin) (maxL := 2) (by decide) rfl rfl (Nat.le_of_ble_eq_true rfl) (fun p e s m args below meth c A0 Q H locs ls X hret hM hl => w_X2_begin_0 X hret hf hM (lv_sub hl [0, 1] rfl))
theorem hd_X2_fault : yX2_fault.cls = RX2 ∧ yX2_fault.cls ≠ "java/lang/invoke/MethodHandle" ∧ yX2_fault.cls ≠ "java/lang/invoke/VarHandle" ∧ (parseMethodDescriptor yX2_fault.desc).map (fun d => d.parameters.length) = some 0 := by decide +kernel
theorem fl_X2_fault_2_5 : Cond.fieldLink RX2 43 "MoveTexts$GameReader" "fault" "I" ∈ wsX2_fault := by decide +kernel
theorem hw_X2_fault_2 : ∀ w ∈ wsX20, w ∈ wsX2_fault := by decide +kernel
noncomputable def f_X2_fault_0 (x0 : Nat) (S : ZS) : Option (Int32 × ZS) :=
  m_chk (zK S x0 = 2) (
  some ((zI S 5 x0), S))

set_option maxRecDepth 100000 in
set_option maxHeartbeats 4000000 in
theorem w_X2_fault_0 {p : Program} {l : Launch} {e : Env} {s : State} {m : MethodId} {args : Array Value} {below : List Frame} {meth : Method} {c : Code} {Q : State → Prop} {D : va_G} {y : Nat → ClassId} {A0 : Nat → Prop} {o : Int32 × ZS} (X : CallFix p m c cX2_fault 1 s args wsX2_fault RX2) (hret : zRi p l e ({ frames := 0, cells := 0, slots := 0, locals := 0 } : Room) s m args below meth c Q cX2_fault D y A0 .int o) {x0 : Nat} {S : ZS} {H : Heap} {locs : List Loc} {ls : Array Slot} (hf : f_X2_fault_0 x0 S = some o) (hM : zH D y A0 s H locs S) (hl : lv_has ls 1 [(0, .ref (zh y x0))]) : W p l e ({ frames := 0, cells := 0, slots := 0, locals := 0 } : Room) s m args below meth c H locs 0 0 Q (F0 m 0 ls []) := by
  obtain ⟨hx, hb, hml, hown, hts⟩ := id X
  unfold f_X2_fault_0 at hf
  refine lv_aload_n hx hb dX2_fault_0 rfl (lv_at hl 0 rfl) ?_
  obtain ⟨ca, hf⟩ := m_chkE hf
  replace ca := z_in hM (by decide) ca
  refine z_get (k := 2) (j := 5) (C := RX2) (T := TX2) (N := 12) (fl := zf_2) (v := .int (zI S 5 x0)) X hw_X2_fault_2 hM rfl zc_2 ca (by decide) fl_X2_fault_2_5 rfl dX2_fault_1 ?_
  clear ca
  cases hf
  exact hret H locs _ ls hM rfl dX2_fault_4
noncomputable def f_X2_fault (x0 : Nat) (S : ZS) : Option (Int32 × ZS) := f_X2_fault_0 x0 S
theorem c_X2_fault {l : Launch} {D : va_G} {y : Nat → ClassId} {x0 : Nat} {S : ZS} {o : Int32 × ZS} (hf : f_X2_fault x0 S = some o) : zMi l yX2_fault wsX2_fault ({ frames := 0, cells := 0, slots := 0, locals := 0 } : Room) [.ref (zh y x0)] D y S o :=
  z_entryI (own := RX2) (cc := cX2_fault) (maxL := 1) (by decide) rfl rfl (Nat.le_of_ble_eq_true rfl) (fun p e s m args below meth c A0 Q H locs ls X hret hM hl => w_X2_fault_0 X hret hf hM (lv_sub hl [0] rfl))
theorem hd_X2_exchange : yX2_exchange.cls = RX2 ∧ yX2_exchange.cls ≠ "java/lang/invoke/MethodHandle" ∧ yX2_exchange.cls ≠ "java/lang/invoke/VarHandle" ∧ (parseMethodDescriptor yX2_exchange.desc).map (fun d => d.parameters.length) = some 1 := by decide +kernel
theorem fl_X2_exchange_2_3 : Cond.fieldLink RX2 35 "MoveTexts$GameReader" "game" "LMoveTexts$Game;" ∈ wsX2_exchange := by decide +kernel
theorem hw_X2_exchange_2 : ∀ w ∈ wsX20, w ∈ wsX2_exchange := by decide +kernel
noncomputable def f_X2_exchange_0 (x0 : Nat) (x1 : Nat) (S : ZS) : Option (Nat × ZS) :=
  m_chk (zK S x0 = 2) (
  m_cal (zP S 3 x0) (fun b1 =>
  m_chk (zK S x0 = 2) (
  m_bnd (zsP S 3 x0 (some x1)) (fun S2 =>
  some (b1, S2)))))

set_option maxRecDepth 100000 in
set_option maxHeartbeats 4000000 in
theorem w_X2_exchange_0 {p : Program} {l : Launch} {e : Env} {s : State} {m : MethodId} {args : Array Value} {below : List Frame} {meth : Method} {c : Code} {Q : State → Prop} {D : va_G} {y : Nat → ClassId} {A0 : Nat → Prop} {o : Nat × ZS} (X : CallFix p m c cX2_exchange 3 s args wsX2_exchange RX2) (hret : zRr p l e ({ frames := 0, cells := 0, slots := 0, locals := 0 } : Room) s m args below meth c Q cX2_exchange D y A0 (zh y o.1, o.2)) {x0 : Nat} {x1 : Nat} {S : ZS} {H : Heap} {locs : List Loc} {ls : Array Slot} (hf : f_X2_exchange_0 x0 x1 S = some o) (hM : zH D y A0 s H locs S) (hl : lv_has ls 3 [(0, .ref (zh y x0)), (1, .ref (zh y x1))]) : W p l e ({ frames := 0, cells := 0, slots := 0, locals := 0 } : Room) s m args below meth c H locs 0 0 Q (F0 m 0 ls []) := by
  obtain ⟨hx, hb, hml, hown, hts⟩ := id X
  unfold f_X2_exchange_0 at hf
  refine lv_aload_n hx hb dX2_exchange_0 rfl (lv_at hl 0 rfl) ?_
  obtain ⟨ca, hf⟩ := m_chkE hf
  replace ca := z_in hM (by decide) ca
  refine z_get (k := 2) (j := 3) (C := RX2) (T := TX2) (N := 12) (fl := zf_2) (v := va_rf ((zP S 3 x0).map (zh y))) X hw_X2_exchange_2 hM rfl zc_2 ca (by decide) fl_X2_exchange_2_3 rfl dX2_exchange_1 ?_
  clear ca
  obtain ⟨b1, hb9, hf⟩ := m_calE hf
  refine z_topr hb9 ?_
  clear hb9
  refine lv_astore_n (lv' := [(2, .ref (zh y b1)), (0, .ref (zh y x0)), (1, .ref (zh y x1))]) hx hb dX2_exchange_4 rfl hl (by decide) rfl (fun ls hl => ?_)
  refine lv_aload_n hx hb dX2_exchange_5 rfl (lv_at hl 1 rfl) ?_
  refine lv_aload_n hx hb dX2_exchange_6 rfl (lv_at hl 2 rfl) ?_
  obtain ⟨ca, hf⟩ := m_chkE hf
  replace ca := z_in hM (by decide) ca
  refine z_putP (k := 2) (j := 3) (C := RX2) (T := TX2) (N := 12) (fl := zf_2) (ty := tyX2 3) X hw_X2_exchange_2 tyX2_ok nmX2 hM rfl zc_2 ca (by decide) fl_X2_exchange_2_3 rfl (tyX2_ok 3 (by decide)) rfl rfl zp_2_3 (Nat.le_of_ble_eq_true rfl) dX2_exchange_7 (fun H locs hM => ?_)
  clear ca
  obtain ⟨S2, ev, hf⟩ := m_bndE hf
  replace hM := z_hS hM ev
  clear ev
  refine lv_aload_n hx hb dX2_exchange_10 rfl (lv_at hl 0 rfl) ?_
  cases hf
  exact hret H locs _ ls hM dX2_exchange_11
noncomputable def f_X2_exchange (x0 : Nat) (x1 : Nat) (S : ZS) : Option (Nat × ZS) := f_X2_exchange_0 x0 x1 S
theorem c_X2_exchange {l : Launch} {D : va_G} {y : Nat → ClassId} {x0 : Nat} {x1 : Nat} {S : ZS} {o : Nat × ZS} (hf : f_X2_exchange x0 x1 S = some o) : zMr l yX2_exchange wsX2_exchange ({ frames := 0, cells := 0, slots := 0, locals := 0 } : Room) [.ref (zh y x0), .ref (zh y x1)] D y S (zh y o.1, o.2) :=
  z_entryR (rt := .object "MoveTexts$Game") (own := RX2) (cc := cX2_exchange) (maxL := 3) (by decide) rfl rfl (Nat.le_of_ble_eq_true rfl) ⟨_, rfl⟩ (fun p e s m args below meth c A0 Q H locs ls X hret hM hl => w_X2_exchange_0 X hret hf hM (lv_sub hl [0, 1] rfl))
theorem hd_X2_refuse : yX2_refuse.cls = RX2 ∧ yX2_refuse.cls ≠ "java/lang/invoke/MethodHandle" ∧ yX2_refuse.cls ≠ "java/lang/invoke/VarHandle" ∧ (parseMethodDescriptor yX2_refuse.desc).map (fun d => d.parameters.length) = some 2 := by decide +kernel
theorem fl_X2_refuse_2_5 : Cond.fieldLink RX2 43 "MoveTexts$GameReader" "fault" "I" ∈ wsX2_refuse := by decide +kernel
theorem hw_X2_refuse_2 : ∀ w ∈ wsX20, w ∈ wsX2_refuse := by decide +kernel
noncomputable def f_X2_refuse_0 (x0 : Nat) (x1 : Int32) (x2 : Int32) (S : ZS) : Option (Int32 × ZS) :=
  m_bnd ((10000 : Int32) * x1) (fun v1 =>
  m_bnd (v1 + x2) (fun v2 =>
  m_chk (zK S x0 = 2) (
  m_bnd (zsI S 5 x0 v2) (fun S3 =>
  m_chk (vp_nar .boolean (0 : Int32) = (0 : Int32)) (some ((0 : Int32), S3))))))

set_option maxRecDepth 100000 in
set_option maxHeartbeats 4000000 in
theorem w_X2_refuse_0 {p : Program} {l : Launch} {e : Env} {s : State} {m : MethodId} {args : Array Value} {below : List Frame} {meth : Method} {c : Code} {Q : State → Prop} {D : va_G} {y : Nat → ClassId} {A0 : Nat → Prop} {o : Int32 × ZS} (X : CallFix p m c cX2_refuse 3 s args wsX2_refuse RX2) (hret : zRi p l e ({ frames := 0, cells := 0, slots := 0, locals := 0 } : Room) s m args below meth c Q cX2_refuse D y A0 .boolean o) {x0 : Nat} {x1 : Int32} {x2 : Int32} {S : ZS} {H : Heap} {locs : List Loc} {ls : Array Slot} (hf : f_X2_refuse_0 x0 x1 x2 S = some o) (hM : zH D y A0 s H locs S) (hl : lv_has ls 3 [(0, .ref (zh y x0)), (1, .int x1), (2, .int x2)]) : W p l e ({ frames := 0, cells := 0, slots := 0, locals := 0 } : Room) s m args below meth c H locs 0 0 Q (F0 m 0 ls []) := by
  obtain ⟨hx, hb, hml, hown, hts⟩ := id X
  unfold f_X2_refuse_0 at hf
  refine lv_aload_n hx hb dX2_refuse_0 rfl (lv_at hl 0 rfl) ?_
  refine lv_sipush (v := (10000 : Int32)) hx hb dX2_refuse_1 (by decide) ?_
  refine lv_iload_n hx hb dX2_refuse_4 rfl (lv_at hl 1 rfl) ?_
  refine lv_imul hx hb dX2_refuse_5 ?_
  obtain ⟨v1, ev, hf⟩ := m_bndE hf
  refine m_top ev ?_
  clear ev
  refine lv_iload_n hx hb dX2_refuse_6 rfl (lv_at hl 2 rfl) ?_
  refine lv_iadd hx hb dX2_refuse_7 ?_
  obtain ⟨v2, ev, hf⟩ := m_bndE hf
  refine m_top ev ?_
  clear ev
  obtain ⟨ca, hf⟩ := m_chkE hf
  replace ca := z_in hM (by decide) ca
  refine z_putI (k := 2) (j := 5) (C := RX2) (T := TX2) (N := 12) (fl := zf_2) (ty := .int) X hw_X2_refuse_2 tyX2_ok nmX2 hM rfl zc_2 ca (by decide) fl_X2_refuse_2_5 rfl (tyX2_ok 5 (by decide)) rfl rfl zi_2_5 (Nat.le_of_ble_eq_true rfl) dX2_refuse_8 (fun H locs hM => ?_)
  clear ca
  obtain ⟨S3, ev, hf⟩ := m_bndE hf
  replace hM := z_hS hM ev
  clear ev
  refine lv_iconst (v := (0 : Int32)) hx hb dX2_refuse_11 (by decide) ?_
  obtain ⟨cd, hf⟩ := m_chkE hf
  cases hf
  exact hret H locs _ ls hM (m_nb cd) dX2_refuse_12
noncomputable def f_X2_refuse (x0 : Nat) (x1 : Int32) (x2 : Int32) (S : ZS) : Option (Int32 × ZS) := f_X2_refuse_0 x0 x1 x2 S
theorem c_X2_refuse {l : Launch} {D : va_G} {y : Nat → ClassId} {x0 : Nat} {x1 : Int32} {x2 : Int32} {S : ZS} {o : Int32 × ZS} (hf : f_X2_refuse x0 x1 x2 S = some o) : zMi l yX2_refuse wsX2_refuse ({ frames := 0, cells := 0, slots := 0, locals := 0 } : Room) [.ref (zh y x0), .int x1, .int x2] D y S o :=
  z_entryI (own := RX2) (cc := cX2_refuse) (maxL := 3) (by decide) rfl rfl (Nat.le_of_ble_eq_true rfl) (fun p e s m args below meth c A0 Q H locs ls X hret hM hl => w_X2_refuse_0 X hret hf hM (lv_sub hl [0, 1, 2] rfl))
theorem hd_X6_size : yX6_size.cls = RX6 ∧ yX6_size.cls ≠ "java/lang/invoke/MethodHandle" ∧ yX6_size.cls ≠ "java/lang/invoke/VarHandle" ∧ (parseMethodDescriptor yX6_size.desc).map (fun d => d.parameters.length) = some 0 := by decide +kernel
theorem fl_X6_size_6_1 : Cond.fieldLink RX6 16 "MoveTexts$Row" "length" "I" ∈ wsX6_size := by decide +kernel
theorem hw_X6_size_6 : ∀ w ∈ wsX60, w ∈ wsX6_size := by decide +kernel
noncomputable def f_X6_size_0 (x0 : Nat) (S : ZS) : Option (Int32 × ZS) :=
  m_chk (zK S x0 = 6) (
  some ((zI S 1 x0), S))

set_option maxRecDepth 100000 in
set_option maxHeartbeats 4000000 in
theorem w_X6_size_0 {p : Program} {l : Launch} {e : Env} {s : State} {m : MethodId} {args : Array Value} {below : List Frame} {meth : Method} {c : Code} {Q : State → Prop} {D : va_G} {y : Nat → ClassId} {A0 : Nat → Prop} {o : Int32 × ZS} (X : CallFix p m c cX6_size 1 s args wsX6_size RX6) (hret : zRi p l e ({ frames := 0, cells := 0, slots := 0, locals := 0 } : Room) s m args below meth c Q cX6_size D y A0 .int o) {x0 : Nat} {S : ZS} {H : Heap} {locs : List Loc} {ls : Array Slot} (hf : f_X6_size_0 x0 S = some o) (hM : zH D y A0 s H locs S) (hl : lv_has ls 1 [(0, .ref (zh y x0))]) : W p l e ({ frames := 0, cells := 0, slots := 0, locals := 0 } : Room) s m args below meth c H locs 0 0 Q (F0 m 0 ls []) := by
  obtain ⟨hx, hb, hml, hown, hts⟩ := id X
  unfold f_X6_size_0 at hf
  refine lv_aload_n hx hb dX6_size_0 rfl (lv_at hl 0 rfl) ?_
  obtain ⟨ca, hf⟩ := m_chkE hf
  replace ca := z_in hM (by decide) ca
  refine z_get (k := 6) (j := 1) (C := RX6) (T := TX6) (N := 2) (fl := zf_6) (v := .int (zI S 1 x0)) X hw_X6_size_6 hM rfl zc_6 ca (by decide) fl_X6_size_6_1 rfl dX6_size_1 ?_
  clear ca
  cases hf
  exact hret H locs _ ls hM rfl dX6_size_4
noncomputable def f_X6_size (x0 : Nat) (S : ZS) : Option (Int32 × ZS) := f_X6_size_0 x0 S
theorem c_X6_size {l : Launch} {D : va_G} {y : Nat → ClassId} {x0 : Nat} {S : ZS} {o : Int32 × ZS} (hf : f_X6_size x0 S = some o) : zMi l yX6_size wsX6_size ({ frames := 0, cells := 0, slots := 0, locals := 0 } : Room) [.ref (zh y x0)] D y S o :=
  z_entryI (own := RX6) (cc := cX6_size) (maxL := 1) (by decide) rfl rfl (Nat.le_of_ble_eq_true rfl) (fun p e s m args below meth c A0 Q H locs ls X hret hM hl => w_X6_size_0 X hret hf hM (lv_sub hl [0] rfl))
theorem hd_X2_skipBlanks : yX2_skipBlanks.cls = RX2 ∧ yX2_skipBlanks.cls ≠ "java/lang/invoke/MethodHandle" ∧ yX2_skipBlanks.cls ≠ "java/lang/invoke/VarHandle" ∧ (parseMethodDescriptor yX2_skipBlanks.desc).map (fun d => d.parameters.length) = some 0 := by decide +kernel
theorem fl_X2_skipBlanks_2_2 : Cond.fieldLink RX2 28 "MoveTexts$GameReader" "text" "LMoveTexts$Row;" ∈ wsX2_skipBlanks := by decide +kernel
theorem fl_X2_skipBlanks_2_4 : Cond.fieldLink RX2 39 "MoveTexts$GameReader" "at" "I" ∈ wsX2_skipBlanks := by decide +kernel
theorem hw_X2_skipBlanks_2 : ∀ w ∈ wsX20, w ∈ wsX2_skipBlanks := by decide +kernel
noncomputable def f_X2_skipBlanks_59 (S : ZS) : Option (Int32 × ZS) :=
  some (0, S)

set_option maxRecDepth 100000 in
set_option maxHeartbeats 4000000 in
theorem w_X2_skipBlanks_59 {p : Program} {l : Launch} {e : Env} {s : State} {m : MethodId} {args : Array Value} {below : List Frame} {meth : Method} {c : Code} {Q : State → Prop} {D : va_G} {y : Nat → ClassId} {A0 : Nat → Prop} {o : Int32 × ZS} (X : CallFix p m c cX2_skipBlanks 1 s args wsX2_skipBlanks RX2) (hret : zRv p l e ({ frames := 1, cells := 0, slots := 0, locals := 21 } : Room) s m args below meth c Q cX2_skipBlanks D y A0 o) {S : ZS} {H : Heap} {locs : List Loc} {ls : Array Slot} (hf : f_X2_skipBlanks_59  S = some o) (hM : zH D y A0 s H locs S) (hl : lv_has ls 1 []) : W p l e ({ frames := 1, cells := 0, slots := 0, locals := 21 } : Room) s m args below meth c H locs 0 0 Q (F0 m 59 ls []) := by
  obtain ⟨hx, hb, hml, hown, hts⟩ := id X
  unfold f_X2_skipBlanks_59 at hf
  cases hf
  exact hret H locs _ ls hM dX2_skipBlanks_59
noncomputable def f_X2_skipBlanks_46 (self0 : Nat → ZS → Option (Int32 × ZS)) (x0 : Nat) (S : ZS) : Option (Int32 × ZS) :=
  m_chk (zK S x0 = 2) (
  m_bnd ((zI S 4 x0) + (1 : Int32)) (fun v1 =>
  m_chk (zK S x0 = 2) (
  m_bnd (zsI S 4 x0 v1) (fun S2 =>
  self0 x0 S2))))

set_option maxRecDepth 100000 in
set_option maxHeartbeats 4000000 in
theorem w_X2_skipBlanks_46 {p : Program} {l : Launch} {e : Env} {s : State} {m : MethodId} {args : Array Value} {below : List Frame} {meth : Method} {c : Code} {Q : State → Prop} {D : va_G} {y : Nat → ClassId} {A0 : Nat → Prop} {o : Int32 × ZS} (X : CallFix p m c cX2_skipBlanks 1 s args wsX2_skipBlanks RX2) (hret : zRv p l e ({ frames := 1, cells := 0, slots := 0, locals := 21 } : Room) s m args below meth c Q cX2_skipBlanks D y A0 o) {self0 : Nat → ZS → Option (Int32 × ZS)} (hself0 : ∀ (x0 : Nat) (S : ZS) (H : Heap) (locs : List Loc) (ls : Array Slot), self0 x0 S = some o → zH D y A0 s H locs S → lv_has ls 1 [(0, .ref (zh y x0))] → W p l e ({ frames := 1, cells := 0, slots := 0, locals := 21 } : Room) s m args below meth c H locs 0 0 Q (F0 m 0 ls [])) {x0 : Nat} {S : ZS} {H : Heap} {locs : List Loc} {ls : Array Slot} (hf : f_X2_skipBlanks_46 self0 x0 S = some o) (hM : zH D y A0 s H locs S) (hl : lv_has ls 1 [(0, .ref (zh y x0))]) : W p l e ({ frames := 1, cells := 0, slots := 0, locals := 21 } : Room) s m args below meth c H locs 0 0 Q (F0 m 46 ls []) := by
  obtain ⟨hx, hb, hml, hown, hts⟩ := id X
  unfold f_X2_skipBlanks_46 at hf
  refine lv_aload_n hx hb dX2_skipBlanks_46 rfl (lv_at hl 0 rfl) ?_
  refine lv_dup hx hb dX2_skipBlanks_47 rfl ?_
  obtain ⟨ca, hf⟩ := m_chkE hf
  replace ca := z_in hM (by decide) ca
  refine z_get (k := 2) (j := 4) (C := RX2) (T := TX2) (N := 12) (fl := zf_2) (v := .int (zI S 4 x0)) X hw_X2_skipBlanks_2 hM rfl zc_2 ca (by decide) fl_X2_skipBlanks_2_4 rfl dX2_skipBlanks_48 ?_
  clear ca
  refine lv_iconst (v := (1 : Int32)) hx hb dX2_skipBlanks_51 (by decide) ?_
  refine lv_iadd hx hb dX2_skipBlanks_52 ?_
  obtain ⟨v1, ev, hf⟩ := m_bndE hf
  refine m_top ev ?_
  clear ev
  obtain ⟨ca, hf⟩ := m_chkE hf
  replace ca := z_in hM (by decide) ca
  refine z_putI (k := 2) (j := 4) (C := RX2) (T := TX2) (N := 12) (fl := zf_2) (ty := .int) X hw_X2_skipBlanks_2 tyX2_ok nmX2 hM rfl zc_2 ca (by decide) fl_X2_skipBlanks_2_4 rfl (tyX2_ok 4 (by decide)) rfl rfl zi_2_4 (Nat.le_of_ble_eq_true rfl) dX2_skipBlanks_53 (fun H locs hM => ?_)
  clear ca
  obtain ⟨S2, ev, hf⟩ := m_bndE hf
  replace hM := z_hS hM ev
  clear ev
  refine lv_goto (tgt := 0) hx hb dX2_skipBlanks_56 (by decide) ?_
  exact hself0 x0 _ _ _ _ hf hM (lv_sub hl [0] rfl)
noncomputable def f_X2_skipBlanks_0s (self0 : Nat → ZS → Option (Int32 × ZS)) (x0 : Nat) (S : ZS) : Option (Int32 × ZS) :=
  m_chk (zK S x0 = 2) (
  m_chk (zK S x0 = 2) (
  m_cal (zP S 2 x0) (fun b1 =>
  m_chk (zK S b1 = 6) (
  m_cal (f_X6_size b1 S) (fun o2 =>
  m_if (o2.1 ≤ (zI S 4 x0)) (
  f_X2_skipBlanks_59  o2.2
  ) (
  m_chk (zK o2.2 x0 = 2) (
  m_cal (zP o2.2 2 x0) (fun b3 =>
  m_chk (zK o2.2 x0 = 2) (
  m_chk (zK o2.2 b3 = 6) (
  m_cal (f_X6_at b3 (zI o2.2 4 x0) o2.2) (fun o4 =>
  m_if (o4.1 = (32 : Int32)) (
  f_X2_skipBlanks_46 self0 x0 o4.2
  ) (
  m_chk (zK o4.2 x0 = 2) (
  m_cal (zP o4.2 2 x0) (fun b5 =>
  m_chk (zK o4.2 x0 = 2) (
  m_chk (zK o4.2 b5 = 6) (
  m_cal (f_X6_at b5 (zI o4.2 4 x0) o4.2) (fun o6 =>
  m_if (o6.1 = (10 : Int32)) (
  f_X2_skipBlanks_46 self0 x0 o6.2
  ) (
  f_X2_skipBlanks_59  o6.2
  ))))))
  ))))))
  ))))))

set_option maxRecDepth 100000 in
set_option maxHeartbeats 4000000 in
theorem ws_X2_skipBlanks_0 {p : Program} {l : Launch} {e : Env} {s : State} {m : MethodId} {args : Array Value} {below : List Frame} {meth : Method} {c : Code} {Q : State → Prop} {D : va_G} {y : Nat → ClassId} {A0 : Nat → Prop} {o : Int32 × ZS} (X : CallFix p m c cX2_skipBlanks 1 s args wsX2_skipBlanks RX2) (hret : zRv p l e ({ frames := 1, cells := 0, slots := 0, locals := 21 } : Room) s m args below meth c Q cX2_skipBlanks D y A0 o) {self0 : Nat → ZS → Option (Int32 × ZS)} (hself0 : ∀ (x0 : Nat) (S : ZS) (H : Heap) (locs : List Loc) (ls : Array Slot), self0 x0 S = some o → zH D y A0 s H locs S → lv_has ls 1 [(0, .ref (zh y x0))] → W p l e ({ frames := 1, cells := 0, slots := 0, locals := 21 } : Room) s m args below meth c H locs 0 0 Q (F0 m 0 ls [])) {x0 : Nat} {S : ZS} {H : Heap} {locs : List Loc} {ls : Array Slot} (hf : f_X2_skipBlanks_0s self0 x0 S = some o) (hM : zH D y A0 s H locs S) (hl : lv_has ls 1 [(0, .ref (zh y x0))]) : W p l e ({ frames := 1, cells := 0, slots := 0, locals := 21 } : Room) s m args below meth c H locs 0 0 Q (F0 m 0 ls []) := by
  obtain ⟨hx, hb, hml, hown, hts⟩ := id X
  unfold f_X2_skipBlanks_0s at hf
  refine lv_aload_n hx hb dX2_skipBlanks_0 rfl (lv_at hl 0 rfl) ?_
  obtain ⟨ca, hf⟩ := m_chkE hf
  replace ca := z_in hM (by decide) ca
  refine z_get (k := 2) (j := 4) (C := RX2) (T := TX2) (N := 12) (fl := zf_2) (v := .int (zI S 4 x0)) X hw_X2_skipBlanks_2 hM rfl zc_2 ca (by decide) fl_X2_skipBlanks_2_4 rfl dX2_skipBlanks_1 ?_
  clear ca
  refine lv_aload_n hx hb dX2_skipBlanks_4 rfl (lv_at hl 0 rfl) ?_
  obtain ⟨ca, hf⟩ := m_chkE hf
  replace ca := z_in hM (by decide) ca
  refine z_get (k := 2) (j := 2) (C := RX2) (T := TX2) (N := 12) (fl := zf_2) (v := va_rf ((zP S 2 x0).map (zh y))) X hw_X2_skipBlanks_2 hM rfl zc_2 ca (by decide) fl_X2_skipBlanks_2_2 rfl dX2_skipBlanks_5 ?_
  clear ca
  obtain ⟨b1, hb9, hf⟩ := m_calE hf
  refine z_topr hb9 ?_
  clear hb9
  obtain ⟨ca, hf⟩ := m_chkE hf
  replace ca := z_in hM (by decide) ca
  obtain ⟨o2, ho, hf⟩ := m_calE hf
  refine z_callVi (k := 6) (C := RX6) (T := TX6) (N := 2) (fl := zf_6) X hM rfl zc_6 ca (c_X6_size ho) gX2_skipBlanks_X6_size rfl ⟨rfl, rfl⟩ hd_X6_size ⟨Nat.le_of_ble_eq_true rfl, Nat.le_of_ble_eq_true rfl⟩ rfl hl.1 rfl (Nat.le_of_ble_eq_true rfl) dX2_skipBlanks_8 (fun H locs hM => ?_)
  clear ho
  refine lv_icmp_ge (tgt := 59) hx hb dX2_skipBlanks_11 (by decide) (fun cc1 => ?_) (fun cc1 => ?_)
  · replace hf := m_ifT hf cc1
    exact w_X2_skipBlanks_59 X hret hf hM (lv_sub hl [] rfl)
  · replace hf := m_ifF hf cc1
    refine lv_aload_n hx hb dX2_skipBlanks_14 rfl (lv_at hl 0 rfl) ?_
    obtain ⟨ca, hf⟩ := m_chkE hf
    replace ca := z_in hM (by decide) ca
    refine z_get (k := 2) (j := 2) (C := RX2) (T := TX2) (N := 12) (fl := zf_2) (v := va_rf ((zP o2.2 2 x0).map (zh y))) X hw_X2_skipBlanks_2 hM rfl zc_2 ca (by decide) fl_X2_skipBlanks_2_2 rfl dX2_skipBlanks_15 ?_
    clear ca
    obtain ⟨b3, hb9, hf⟩ := m_calE hf
    refine z_topr hb9 ?_
    clear hb9
    refine lv_aload_n hx hb dX2_skipBlanks_18 rfl (lv_at hl 0 rfl) ?_
    obtain ⟨ca, hf⟩ := m_chkE hf
    replace ca := z_in hM (by decide) ca
    refine z_get (k := 2) (j := 4) (C := RX2) (T := TX2) (N := 12) (fl := zf_2) (v := .int (zI o2.2 4 x0)) X hw_X2_skipBlanks_2 hM rfl zc_2 ca (by decide) fl_X2_skipBlanks_2_4 rfl dX2_skipBlanks_19 ?_
    clear ca
    obtain ⟨ca, hf⟩ := m_chkE hf
    replace ca := z_in hM (by decide) ca
    obtain ⟨o4, ho, hf⟩ := m_calE hf
    refine z_callVi (k := 6) (C := RX6) (T := TX6) (N := 2) (fl := zf_6) X hM rfl zc_6 ca (c_X6_at ho) gX2_skipBlanks_X6_at rfl ⟨rfl, rfl⟩ hd_X6_at ⟨Nat.le_of_ble_eq_true rfl, Nat.le_of_ble_eq_true rfl⟩ rfl hl.1 rfl (Nat.le_of_ble_eq_true rfl) dX2_skipBlanks_22 (fun H locs hM => ?_)
    clear ho
    refine lv_bipush (v := (32 : Int32)) hx hb dX2_skipBlanks_25 (by decide) ?_
    refine lv_icmp_eq (tgt := 46) hx hb dX2_skipBlanks_27 (by decide) (fun cc1 => ?_) (fun cc1 => ?_)
    · replace hf := m_ifT hf cc1
      exact w_X2_skipBlanks_46 (x0 := x0) X hret hself0 hf hM (lv_sub hl [0] rfl)
    · replace hf := m_ifF hf cc1
      refine lv_aload_n hx hb dX2_skipBlanks_30 rfl (lv_at hl 0 rfl) ?_
      obtain ⟨ca, hf⟩ := m_chkE hf
      replace ca := z_in hM (by decide) ca
      refine z_get (k := 2) (j := 2) (C := RX2) (T := TX2) (N := 12) (fl := zf_2) (v := va_rf ((zP o4.2 2 x0).map (zh y))) X hw_X2_skipBlanks_2 hM rfl zc_2 ca (by decide) fl_X2_skipBlanks_2_2 rfl dX2_skipBlanks_31 ?_
      clear ca
      obtain ⟨b5, hb9, hf⟩ := m_calE hf
      refine z_topr hb9 ?_
      clear hb9
      refine lv_aload_n hx hb dX2_skipBlanks_34 rfl (lv_at hl 0 rfl) ?_
      obtain ⟨ca, hf⟩ := m_chkE hf
      replace ca := z_in hM (by decide) ca
      refine z_get (k := 2) (j := 4) (C := RX2) (T := TX2) (N := 12) (fl := zf_2) (v := .int (zI o4.2 4 x0)) X hw_X2_skipBlanks_2 hM rfl zc_2 ca (by decide) fl_X2_skipBlanks_2_4 rfl dX2_skipBlanks_35 ?_
      clear ca
      obtain ⟨ca, hf⟩ := m_chkE hf
      replace ca := z_in hM (by decide) ca
      obtain ⟨o6, ho, hf⟩ := m_calE hf
      refine z_callVi (k := 6) (C := RX6) (T := TX6) (N := 2) (fl := zf_6) X hM rfl zc_6 ca (c_X6_at ho) gX2_skipBlanks_X6_at rfl ⟨rfl, rfl⟩ hd_X6_at ⟨Nat.le_of_ble_eq_true rfl, Nat.le_of_ble_eq_true rfl⟩ rfl hl.1 rfl (Nat.le_of_ble_eq_true rfl) dX2_skipBlanks_38 (fun H locs hM => ?_)
      clear ho
      refine lv_bipush (v := (10 : Int32)) hx hb dX2_skipBlanks_41 (by decide) ?_
      refine lv_icmp_ne (tgt := 59) hx hb dX2_skipBlanks_43 (by decide) (fun cc1 => ?_) (fun cc1 => ?_)
      · replace hf := m_ifF hf cc1
        exact w_X2_skipBlanks_59 X hret hf hM (lv_sub hl [] rfl)
      · replace hf := m_ifT hf cc1
        exact w_X2_skipBlanks_46 (x0 := x0) X hret hself0 hf hM (lv_sub hl [0] rfl)
noncomputable def f_X2_skipBlanks_0 : Nat → Nat → ZS → Option (Int32 × ZS)
  | 0 => fun _ _ => none
  | n + 1 => f_X2_skipBlanks_0s (f_X2_skipBlanks_0 n)
theorem w_X2_skipBlanks_0 {p : Program} {l : Launch} {e : Env} {s : State} {m : MethodId} {args : Array Value} {below : List Frame} {meth : Method} {c : Code} {Q : State → Prop} {D : va_G} {y : Nat → ClassId} {A0 : Nat → Prop} {o : Int32 × ZS} (X : CallFix p m c cX2_skipBlanks 1 s args wsX2_skipBlanks RX2) (hret : zRv p l e ({ frames := 1, cells := 0, slots := 0, locals := 21 } : Room) s m args below meth c Q cX2_skipBlanks D y A0 o) (n : Nat) : ∀ (x0 : Nat) (S : ZS) (H : Heap) (locs : List Loc) (ls : Array Slot), f_X2_skipBlanks_0 n x0 S = some o → zH D y A0 s H locs S → lv_has ls 1 [(0, .ref (zh y x0))] → W p l e ({ frames := 1, cells := 0, slots := 0, locals := 21 } : Room) s m args below meth c H locs 0 0 Q (F0 m 0 ls []) := by
  induction n with
  | zero => intro x0 S H locs ls hf; cases hf
  | succ n ih => intro x0 S H locs ls hf hM hl; exact ws_X2_skipBlanks_0 X hret (self0 := f_X2_skipBlanks_0 n) ih hf hM hl
noncomputable def f_X2_skipBlanks (x0 : Nat) (S : ZS) : Option (Int32 × ZS) := f_X2_skipBlanks_0 mFuel x0 S
theorem c_X2_skipBlanks {l : Launch} {D : va_G} {y : Nat → ClassId} {x0 : Nat} {S : ZS} {o : Int32 × ZS} (hf : f_X2_skipBlanks x0 S = some o) : zMv l yX2_skipBlanks wsX2_skipBlanks ({ frames := 1, cells := 0, slots := 0, locals := 21 } : Room) [.ref (zh y x0)] D y S o :=
  z_entryV (own := RX2) (cc := cX2_skipBlanks) (maxL := 1) (by decide) rfl rfl (Nat.le_of_ble_eq_true rfl) (fun p e s m args below meth c A0 Q H locs ls X hret hM hl => w_X2_skipBlanks_0 X hret mFuel x0 S H locs ls hf hM (lv_sub hl [0] rfl))
theorem hd_X11_isLetter : yX11_isLetter.cls ≠ "java/lang/invoke/MethodHandle" ∧ yX11_isLetter.cls ≠ "java/lang/invoke/VarHandle" ∧ (parseMethodDescriptor yX11_isLetter.desc).map (fun d => d.parameters.length) = some 1 := by decide +kernel
noncomputable def f_X11_isLetter_29 (t0 : Int32) (S : ZS) : Option (Int32 × ZS) :=
  m_chk (vp_nar .boolean t0 = t0) (some (t0, S))

set_option maxRecDepth 100000 in
set_option maxHeartbeats 4000000 in
theorem w_X11_isLetter_29 {p : Program} {l : Launch} {e : Env} {s : State} {m : MethodId} {args : Array Value} {below : List Frame} {meth : Method} {c : Code} {Q : State → Prop} {D : va_G} {y : Nat → ClassId} {A0 : Nat → Prop} {o : Int32 × ZS} (X : CallFix p m c cX11_isLetter 1 s args wsX11_isLetter RX11) (hret : zRi p l e ({ frames := 0, cells := 0, slots := 0, locals := 0 } : Room) s m args below meth c Q cX11_isLetter D y A0 .boolean o) {t0 : Int32} {S : ZS} {H : Heap} {locs : List Loc} {ls : Array Slot} (hf : f_X11_isLetter_29 t0 S = some o) (hM : zH D y A0 s H locs S) (hl : lv_has ls 1 []) : W p l e ({ frames := 0, cells := 0, slots := 0, locals := 0 } : Room) s m args below meth c H locs 0 0 Q (F0 m 29 ls [.int t0]) := by
  obtain ⟨hx, hb, hml, hown, hts⟩ := id X
  unfold f_X11_isLetter_29 at hf
  obtain ⟨cd, hf⟩ := m_chkE hf
  cases hf
  exact hret H locs _ ls hM (m_nb cd) dX11_isLetter_29
noncomputable def f_X11_isLetter_28 (S : ZS) : Option (Int32 × ZS) :=
  f_X11_isLetter_29 (0 : Int32) S

set_option maxRecDepth 100000 in
set_option maxHeartbeats 4000000 in
theorem w_X11_isLetter_28 {p : Program} {l : Launch} {e : Env} {s : State} {m : MethodId} {args : Array Value} {below : List Frame} {meth : Method} {c : Code} {Q : State → Prop} {D : va_G} {y : Nat → ClassId} {A0 : Nat → Prop} {o : Int32 × ZS} (X : CallFix p m c cX11_isLetter 1 s args wsX11_isLetter RX11) (hret : zRi p l e ({ frames := 0, cells := 0, slots := 0, locals := 0 } : Room) s m args below meth c Q cX11_isLetter D y A0 .boolean o) {S : ZS} {H : Heap} {locs : List Loc} {ls : Array Slot} (hf : f_X11_isLetter_28  S = some o) (hM : zH D y A0 s H locs S) (hl : lv_has ls 1 []) : W p l e ({ frames := 0, cells := 0, slots := 0, locals := 0 } : Room) s m args below meth c H locs 0 0 Q (F0 m 28 ls []) := by
  obtain ⟨hx, hb, hml, hown, hts⟩ := id X
  unfold f_X11_isLetter_28 at hf
  refine lv_iconst (v := (0 : Int32)) hx hb dX11_isLetter_28 (by decide) ?_
  exact w_X11_isLetter_29 (t0 := (0 : Int32)) X hret hf hM (lv_sub hl [] rfl)
noncomputable def f_X11_isLetter_24 (S : ZS) : Option (Int32 × ZS) :=
  f_X11_isLetter_29 (1 : Int32) S

set_option maxRecDepth 100000 in
set_option maxHeartbeats 4000000 in
theorem w_X11_isLetter_24 {p : Program} {l : Launch} {e : Env} {s : State} {m : MethodId} {args : Array Value} {below : List Frame} {meth : Method} {c : Code} {Q : State → Prop} {D : va_G} {y : Nat → ClassId} {A0 : Nat → Prop} {o : Int32 × ZS} (X : CallFix p m c cX11_isLetter 1 s args wsX11_isLetter RX11) (hret : zRi p l e ({ frames := 0, cells := 0, slots := 0, locals := 0 } : Room) s m args below meth c Q cX11_isLetter D y A0 .boolean o) {S : ZS} {H : Heap} {locs : List Loc} {ls : Array Slot} (hf : f_X11_isLetter_24  S = some o) (hM : zH D y A0 s H locs S) (hl : lv_has ls 1 []) : W p l e ({ frames := 0, cells := 0, slots := 0, locals := 0 } : Room) s m args below meth c H locs 0 0 Q (F0 m 24 ls []) := by
  obtain ⟨hx, hb, hml, hown, hts⟩ := id X
  unfold f_X11_isLetter_24 at hf
  refine lv_iconst (v := (1 : Int32)) hx hb dX11_isLetter_24 (by decide) ?_
  refine lv_goto (tgt := 29) hx hb dX11_isLetter_25 (by decide) ?_
  exact w_X11_isLetter_29 (t0 := (1 : Int32)) X hret hf hM (lv_sub hl [] rfl)
noncomputable def f_X11_isLetter_12 (x0 : Int32) (S : ZS) : Option (Int32 × ZS) :=
  m_if (x0 < (65 : Int32)) (
  f_X11_isLetter_28  S
  ) (
  m_if ((90 : Int32) < x0) (
  f_X11_isLetter_28  S
  ) (
  f_X11_isLetter_24  S
  )
  )

set_option maxRecDepth 100000 in
set_option maxHeartbeats 4000000 in
theorem w_X11_isLetter_12 {p : Program} {l : Launch} {e : Env} {s : State} {m : MethodId} {args : Array Value} {below : List Frame} {meth : Method} {c : Code} {Q : State → Prop} {D : va_G} {y : Nat → ClassId} {A0 : Nat → Prop} {o : Int32 × ZS} (X : CallFix p m c cX11_isLetter 1 s args wsX11_isLetter RX11) (hret : zRi p l e ({ frames := 0, cells := 0, slots := 0, locals := 0 } : Room) s m args below meth c Q cX11_isLetter D y A0 .boolean o) {x0 : Int32} {S : ZS} {H : Heap} {locs : List Loc} {ls : Array Slot} (hf : f_X11_isLetter_12 x0 S = some o) (hM : zH D y A0 s H locs S) (hl : lv_has ls 1 [(0, .int x0)]) : W p l e ({ frames := 0, cells := 0, slots := 0, locals := 0 } : Room) s m args below meth c H locs 0 0 Q (F0 m 12 ls []) := by
  obtain ⟨hx, hb, hml, hown, hts⟩ := id X
  unfold f_X11_isLetter_12 at hf
  refine lv_iload_n hx hb dX11_isLetter_12 rfl (lv_at hl 0 rfl) ?_
  refine lv_bipush (v := (65 : Int32)) hx hb dX11_isLetter_13 (by decide) ?_
  refine lv_icmp_lt (tgt := 28) hx hb dX11_isLetter_15 (by decide) (fun cc1 => ?_) (fun cc1 => ?_)
  · replace hf := m_ifT hf cc1
    exact w_X11_isLetter_28 X hret hf hM (lv_sub hl [] rfl)
  · replace hf := m_ifF hf cc1
    refine lv_iload_n hx hb dX11_isLetter_18 rfl (lv_at hl 0 rfl) ?_
    refine lv_bipush (v := (90 : Int32)) hx hb dX11_isLetter_19 (by decide) ?_
    refine lv_icmp_gt (tgt := 28) hx hb dX11_isLetter_21 (by decide) (fun cc1 => ?_) (fun cc1 => ?_)
    · replace hf := m_ifT hf cc1
      exact w_X11_isLetter_28 X hret hf hM (lv_sub hl [] rfl)
    · replace hf := m_ifF hf cc1
      exact w_X11_isLetter_24 X hret hf hM (lv_sub hl [] rfl)
noncomputable def f_X11_isLetter_0 (x0 : Int32) (S : ZS) : Option (Int32 × ZS) :=
  m_if (x0 < (97 : Int32)) (
  f_X11_isLetter_12 x0 S
  ) (
  m_if (x0 ≤ (122 : Int32)) (
  f_X11_isLetter_24  S
  ) (
  f_X11_isLetter_12 x0 S
  )
  )

set_option maxRecDepth 100000 in
set_option maxHeartbeats 4000000 in
theorem w_X11_isLetter_0 {p : Program} {l : Launch} {e : Env} {s : State} {m : MethodId} {args : Array Value} {below : List Frame} {meth : Method} {c : Code} {Q : State → Prop} {D : va_G} {y : Nat → ClassId} {A0 : Nat → Prop} {o : Int32 × ZS} (X : CallFix p m c cX11_isLetter 1 s args wsX11_isLetter RX11) (hret : zRi p l e ({ frames := 0, cells := 0, slots := 0, locals := 0 } : Room) s m args below meth c Q cX11_isLetter D y A0 .boolean o) {x0 : Int32} {S : ZS} {H : Heap} {locs : List Loc} {ls : Array Slot} (hf : f_X11_isLetter_0 x0 S = some o) (hM : zH D y A0 s H locs S) (hl : lv_has ls 1 [(0, .int x0)]) : W p l e ({ frames := 0, cells := 0, slots := 0, locals := 0 } : Room) s m args below meth c H locs 0 0 Q (F0 m 0 ls []) := by
  obtain ⟨hx, hb, hml, hown, hts⟩ := id X
  unfold f_X11_isLetter_0 at hf
  refine lv_iload_n hx hb dX11_isLetter_0 rfl (lv_at hl 0 rfl) ?_
  refine lv_bipush (v := (97 : Int32)) hx hb dX11_isLetter_1 (by decide) ?_
  refine lv_icmp_lt (tgt := 12) hx hb dX11_isLetter_3 (by decide) (fun cc1 => ?_) (fun cc1 => ?_)
  · replace hf := m_ifT hf cc1
    exact w_X11_isLetter_12 (x0 := x0) X hret hf hM (lv_sub hl [0] rfl)
  · replace hf := m_ifF hf cc1
    refine lv_iload_n hx hb dX11_isLetter_6 rfl (lv_at hl 0 rfl) ?_
    refine lv_bipush (v := (122 : Int32)) hx hb dX11_isLetter_7 (by decide) ?_
    refine lv_icmp_le (tgt := 24) hx hb dX11_isLetter_9 (by decide) (fun cc1 => ?_) (fun cc1 => ?_)
    · replace hf := m_ifT hf cc1
      exact w_X11_isLetter_24 X hret hf hM (lv_sub hl [] rfl)
    · replace hf := m_ifF hf cc1
      exact w_X11_isLetter_12 (x0 := x0) X hret hf hM (lv_sub hl [0] rfl)
noncomputable def f_X11_isLetter (x0 : Int32) (S : ZS) : Option (Int32 × ZS) := f_X11_isLetter_0 x0 S
theorem c_X11_isLetter {l : Launch} {D : va_G} {y : Nat → ClassId} {x0 : Int32} {S : ZS} {o : Int32 × ZS} (hf : f_X11_isLetter x0 S = some o) : zMi l yX11_isLetter wsX11_isLetter ({ frames := 0, cells := 0, slots := 0, locals := 0 } : Room) [.int x0] D y S o :=
  z_entryI (own := RX11) (cc := cX11_isLetter) (maxL := 1) (by decide) rfl rfl (Nat.le_of_ble_eq_true rfl) (fun p e s m args below meth c A0 Q H locs ls X hret hM hl => w_X11_isLetter_0 X hret hf hM (lv_sub hl [0] rfl))
theorem hd_X11_isDigit : yX11_isDigit.cls ≠ "java/lang/invoke/MethodHandle" ∧ yX11_isDigit.cls ≠ "java/lang/invoke/VarHandle" ∧ (parseMethodDescriptor yX11_isDigit.desc).map (fun d => d.parameters.length) = some 1 := by decide +kernel
noncomputable def f_X11_isDigit_17 (t0 : Int32) (S : ZS) : Option (Int32 × ZS) :=
  m_chk (vp_nar .boolean t0 = t0) (some (t0, S))

set_option maxRecDepth 100000 in
set_option maxHeartbeats 4000000 in
theorem w_X11_isDigit_17 {p : Program} {l : Launch} {e : Env} {s : State} {m : MethodId} {args : Array Value} {below : List Frame} {meth : Method} {c : Code} {Q : State → Prop} {D : va_G} {y : Nat → ClassId} {A0 : Nat → Prop} {o : Int32 × ZS} (X : CallFix p m c cX11_isDigit 1 s args wsX11_isDigit RX11) (hret : zRi p l e ({ frames := 0, cells := 0, slots := 0, locals := 0 } : Room) s m args below meth c Q cX11_isDigit D y A0 .boolean o) {t0 : Int32} {S : ZS} {H : Heap} {locs : List Loc} {ls : Array Slot} (hf : f_X11_isDigit_17 t0 S = some o) (hM : zH D y A0 s H locs S) (hl : lv_has ls 1 []) : W p l e ({ frames := 0, cells := 0, slots := 0, locals := 0 } : Room) s m args below meth c H locs 0 0 Q (F0 m 17 ls [.int t0]) := by
  obtain ⟨hx, hb, hml, hown, hts⟩ := id X
  unfold f_X11_isDigit_17 at hf
  obtain ⟨cd, hf⟩ := m_chkE hf
  cases hf
  exact hret H locs _ ls hM (m_nb cd) dX11_isDigit_17
noncomputable def f_X11_isDigit_16 (S : ZS) : Option (Int32 × ZS) :=
  f_X11_isDigit_17 (0 : Int32) S

set_option maxRecDepth 100000 in
set_option maxHeartbeats 4000000 in
theorem w_X11_isDigit_16 {p : Program} {l : Launch} {e : Env} {s : State} {m : MethodId} {args : Array Value} {below : List Frame} {meth : Method} {c : Code} {Q : State → Prop} {D : va_G} {y : Nat → ClassId} {A0 : Nat → Prop} {o : Int32 × ZS} (X : CallFix p m c cX11_isDigit 1 s args wsX11_isDigit RX11) (hret : zRi p l e ({ frames := 0, cells := 0, slots := 0, locals := 0 } : Room) s m args below meth c Q cX11_isDigit D y A0 .boolean o) {S : ZS} {H : Heap} {locs : List Loc} {ls : Array Slot} (hf : f_X11_isDigit_16  S = some o) (hM : zH D y A0 s H locs S) (hl : lv_has ls 1 []) : W p l e ({ frames := 0, cells := 0, slots := 0, locals := 0 } : Room) s m args below meth c H locs 0 0 Q (F0 m 16 ls []) := by
  obtain ⟨hx, hb, hml, hown, hts⟩ := id X
  unfold f_X11_isDigit_16 at hf
  refine lv_iconst (v := (0 : Int32)) hx hb dX11_isDigit_16 (by decide) ?_
  exact w_X11_isDigit_17 (t0 := (0 : Int32)) X hret hf hM (lv_sub hl [] rfl)
noncomputable def f_X11_isDigit_0 (x0 : Int32) (S : ZS) : Option (Int32 × ZS) :=
  m_if (x0 < (48 : Int32)) (
  f_X11_isDigit_16  S
  ) (
  m_if ((57 : Int32) < x0) (
  f_X11_isDigit_16  S
  ) (
  f_X11_isDigit_17 (1 : Int32) S
  )
  )

set_option maxRecDepth 100000 in
set_option maxHeartbeats 4000000 in
theorem w_X11_isDigit_0 {p : Program} {l : Launch} {e : Env} {s : State} {m : MethodId} {args : Array Value} {below : List Frame} {meth : Method} {c : Code} {Q : State → Prop} {D : va_G} {y : Nat → ClassId} {A0 : Nat → Prop} {o : Int32 × ZS} (X : CallFix p m c cX11_isDigit 1 s args wsX11_isDigit RX11) (hret : zRi p l e ({ frames := 0, cells := 0, slots := 0, locals := 0 } : Room) s m args below meth c Q cX11_isDigit D y A0 .boolean o) {x0 : Int32} {S : ZS} {H : Heap} {locs : List Loc} {ls : Array Slot} (hf : f_X11_isDigit_0 x0 S = some o) (hM : zH D y A0 s H locs S) (hl : lv_has ls 1 [(0, .int x0)]) : W p l e ({ frames := 0, cells := 0, slots := 0, locals := 0 } : Room) s m args below meth c H locs 0 0 Q (F0 m 0 ls []) := by
  obtain ⟨hx, hb, hml, hown, hts⟩ := id X
  unfold f_X11_isDigit_0 at hf
  refine lv_iload_n hx hb dX11_isDigit_0 rfl (lv_at hl 0 rfl) ?_
  refine lv_bipush (v := (48 : Int32)) hx hb dX11_isDigit_1 (by decide) ?_
  refine lv_icmp_lt (tgt := 16) hx hb dX11_isDigit_3 (by decide) (fun cc1 => ?_) (fun cc1 => ?_)
  · replace hf := m_ifT hf cc1
    exact w_X11_isDigit_16 X hret hf hM (lv_sub hl [] rfl)
  · replace hf := m_ifF hf cc1
    refine lv_iload_n hx hb dX11_isDigit_6 rfl (lv_at hl 0 rfl) ?_
    refine lv_bipush (v := (57 : Int32)) hx hb dX11_isDigit_7 (by decide) ?_
    refine lv_icmp_gt (tgt := 16) hx hb dX11_isDigit_9 (by decide) (fun cc1 => ?_) (fun cc1 => ?_)
    · replace hf := m_ifT hf cc1
      exact w_X11_isDigit_16 X hret hf hM (lv_sub hl [] rfl)
    · replace hf := m_ifF hf cc1
      refine lv_iconst (v := (1 : Int32)) hx hb dX11_isDigit_12 (by decide) ?_
      refine lv_goto (tgt := 17) hx hb dX11_isDigit_13 (by decide) ?_
      exact w_X11_isDigit_17 (t0 := (1 : Int32)) X hret hf hM (lv_sub hl [] rfl)
noncomputable def f_X11_isDigit (x0 : Int32) (S : ZS) : Option (Int32 × ZS) := f_X11_isDigit_0 x0 S
theorem c_X11_isDigit {l : Launch} {D : va_G} {y : Nat → ClassId} {x0 : Int32} {S : ZS} {o : Int32 × ZS} (hf : f_X11_isDigit x0 S = some o) : zMi l yX11_isDigit wsX11_isDigit ({ frames := 0, cells := 0, slots := 0, locals := 0 } : Room) [.int x0] D y S o :=
  z_entryI (own := RX11) (cc := cX11_isDigit) (maxL := 1) (by decide) rfl rfl (Nat.le_of_ble_eq_true rfl) (fun p e s m args below meth c A0 Q H locs ls X hret hM hl => w_X11_isDigit_0 X hret hf hM (lv_sub hl [0] rfl))
theorem hd_X2_readName : yX2_readName.cls = RX2 ∧ yX2_readName.cls ≠ "java/lang/invoke/MethodHandle" ∧ yX2_readName.cls ≠ "java/lang/invoke/VarHandle" ∧ (parseMethodDescriptor yX2_readName.desc).map (fun d => d.parameters.length) = some 0 := by decide +kernel
theorem fl_X2_readName_2_2 : Cond.fieldLink RX2 28 "MoveTexts$GameReader" "text" "LMoveTexts$Row;" ∈ wsX2_readName := by decide +kernel
theorem fl_X2_readName_2_4 : Cond.fieldLink RX2 39 "MoveTexts$GameReader" "at" "I" ∈ wsX2_readName := by decide +kernel
theorem fl_X2_readName_2_6 : Cond.fieldLink RX2 46 "MoveTexts$GameReader" "name" "LMoveTexts$Row;" ∈ wsX2_readName := by decide +kernel
theorem hw_X2_readName_2 : ∀ w ∈ wsX20, w ∈ wsX2_readName := by decide +kernel
theorem nn_X2_readName_132 : ((RX2, 132, yX11_isLetter, "MoveTexts") ∈ zNW ∧ Cond.initialized yX11_isLetter.cls ∈ wsX2_readName) ∧ Cond.static yX11_isLetter ∈ wsX2_readName := by decide +kernel
theorem nn_X2_readName_136 : ((RX2, 136, yX11_isDigit, "MoveTexts") ∈ zNW ∧ Cond.initialized yX11_isDigit.cls ∈ wsX2_readName) ∧ Cond.static yX11_isDigit ∈ wsX2_readName := by decide +kernel
noncomputable def g_X2_readName_128 (Pw : Int32 → ZS → Prop) (t0 : Int32) (S : ZS) (C T : Nat) : Prop :=
  m_chkQ (vp_nar .boolean t0 = t0) (Pw t0 S)

set_option maxRecDepth 100000 in
set_option maxHeartbeats 4000000 in
theorem w_X2_readName_128 {p : Program} {l : Launch} {e : Env} {s : State} {m : MethodId} {args : Array Value} {below : List Frame} {meth : Method} {c : Code} {Q : State → Prop} {D : va_G} {y : Nat → ClassId} {A0 : Nat → Prop} {kc kt : Nat} {Pw : Int32 → ZS → Prop} (X : CallFix p m c cX2_readName 1 s args wsX2_readName RX2) (hret : zQi p l e ({ frames := 2, cells := kc, slots := kt, locals := 82 } : Room) s m args below meth c Q cX2_readName D y A0 .boolean Pw) {t0 : Int32} {S : ZS} {C T : Nat} {H : Heap} {locs : List Loc} {ls : Array Slot} (hf : g_X2_readName_128 Pw t0 S C T) (hCT : C ≤ kc ∧ T ≤ kt) (hM : zH D y A0 s H locs S) (hl : lv_has ls 1 []) : W p l e ({ frames := 2, cells := kc, slots := kt, locals := 82 } : Room) s m args below meth c H locs (kc - C) (kt - T) Q (F0 m 128 ls [.int t0]) := by
  obtain ⟨hx, hb, hml, hown, hts⟩ := id X
  unfold g_X2_readName_128 at hf
  obtain ⟨cd, hf⟩ := m_chkPE hf
  exact hret _ _ _ _ H locs _ ls hf hM (m_nb cd) dX2_readName_128
noncomputable def g_X2_readName_123 (Pw : Int32 → ZS → Prop) (S : ZS) (C T : Nat) : Prop :=
  g_X2_readName_128 Pw (1 : Int32) S (C) (T)

set_option maxRecDepth 100000 in
set_option maxHeartbeats 4000000 in
theorem w_X2_readName_123 {p : Program} {l : Launch} {e : Env} {s : State} {m : MethodId} {args : Array Value} {below : List Frame} {meth : Method} {c : Code} {Q : State → Prop} {D : va_G} {y : Nat → ClassId} {A0 : Nat → Prop} {kc kt : Nat} {Pw : Int32 → ZS → Prop} (X : CallFix p m c cX2_readName 1 s args wsX2_readName RX2) (hret : zQi p l e ({ frames := 2, cells := kc, slots := kt, locals := 82 } : Room) s m args below meth c Q cX2_readName D y A0 .boolean Pw) {S : ZS} {C T : Nat} {H : Heap} {locs : List Loc} {ls : Array Slot} (hf : g_X2_readName_123 Pw  S C T) (hCT : C ≤ kc ∧ T ≤ kt) (hM : zH D y A0 s H locs S) (hl : lv_has ls 1 []) : W p l e ({ frames := 2, cells := kc, slots := kt, locals := 82 } : Room) s m args below meth c H locs (kc - C) (kt - T) Q (F0 m 123 ls []) := by
  obtain ⟨hx, hb, hml, hown, hts⟩ := id X
  unfold g_X2_readName_123 at hf
  refine lv_iconst (v := (1 : Int32)) hx hb dX2_readName_123 (by decide) ?_
  refine lv_goto (tgt := 128) hx hb dX2_readName_124 (by decide) ?_
  exact w_X2_readName_128 (t0 := (1 : Int32)) X hret hf hCT hM (lv_sub hl [] rfl)
noncomputable def g_X2_readName_101 (Pw : Int32 → ZS → Prop) (x0 : Nat) (S : ZS) (C T : Nat) : Prop :=
  m_chkQ (zK S x0 = 2) (
  m_calP (zP S 6 x0) (fun b1 =>
  m_chkQ (zK S b1 = 6) (
  m_calP (f_X6_size b1 S) (fun o2 =>
  m_ifQ (0 < o2.1) (
  g_X2_readName_123 Pw  o2.2 (C) (T)
  ) (
  m_chkQ (zK o2.2 x0 = 2) (
  m_chkQ (zK o2.2 x0 = 2) (
  m_calP (f_X2_refuse x0 (1 : Int32) (zI o2.2 4 x0) o2.2) (fun o3 =>
  m_ifQ (o3.1 = 0) (
  g_X2_readName_128 Pw (0 : Int32) o3.2 (C) (T)
  ) (
  g_X2_readName_123 Pw  o3.2 (C) (T)
  ))))
  )))))

set_option maxRecDepth 100000 in
set_option maxHeartbeats 4000000 in
theorem w_X2_readName_101 {p : Program} {l : Launch} {e : Env} {s : State} {m : MethodId} {args : Array Value} {below : List Frame} {meth : Method} {c : Code} {Q : State → Prop} {D : va_G} {y : Nat → ClassId} {A0 : Nat → Prop} {kc kt : Nat} {Pw : Int32 → ZS → Prop} (X : CallFix p m c cX2_readName 1 s args wsX2_readName RX2) (hret : zQi p l e ({ frames := 2, cells := kc, slots := kt, locals := 82 } : Room) s m args below meth c Q cX2_readName D y A0 .boolean Pw) {x0 : Nat} {S : ZS} {C T : Nat} {H : Heap} {locs : List Loc} {ls : Array Slot} (hf : g_X2_readName_101 Pw x0 S C T) (hCT : C ≤ kc ∧ T ≤ kt) (hM : zH D y A0 s H locs S) (hl : lv_has ls 1 [(0, .ref (zh y x0))]) : W p l e ({ frames := 2, cells := kc, slots := kt, locals := 82 } : Room) s m args below meth c H locs (kc - C) (kt - T) Q (F0 m 101 ls []) := by
  obtain ⟨hx, hb, hml, hown, hts⟩ := id X
  unfold g_X2_readName_101 at hf
  refine lv_aload_n hx hb dX2_readName_101 rfl (lv_at hl 0 rfl) ?_
  obtain ⟨ca, hf⟩ := m_chkPE hf
  replace ca := z_in hM (by decide) ca
  refine z_get (k := 2) (j := 6) (C := RX2) (T := TX2) (N := 12) (fl := zf_2) (v := va_rf ((zP S 6 x0).map (zh y))) X hw_X2_readName_2 hM rfl zc_2 ca (by decide) fl_X2_readName_2_6 rfl dX2_readName_102 ?_
  clear ca
  obtain ⟨b1, hb9, hf⟩ := m_calPE hf
  refine z_topr hb9 ?_
  clear hb9
  obtain ⟨ca, hf⟩ := m_chkPE hf
  replace ca := z_in hM (by decide) ca
  obtain ⟨o2, ho, hf⟩ := m_calPE hf
  refine z_gcallVi (k := 6) (C := RX6) (T := TX6) (N := 2) (fl := zf_6) X hM rfl zc_6 ca (c_X6_size ho) gX2_readName_X6_size rfl ⟨rfl, rfl⟩ hd_X6_size ⟨Nat.le_of_ble_eq_true rfl, Nat.le_of_ble_eq_true rfl⟩ rfl hl.1 rfl ⟨Nat.sub_le _ _, Nat.sub_le _ _⟩ (Nat.le_of_ble_eq_true rfl) dX2_readName_105 (fun H locs hM => ?_)
  clear ho
  refine lv_if_gt (tgt := 123) hx hb dX2_readName_108 (by decide) (fun cc1 => ?_) (fun cc1 => ?_)
  · replace hf := m_ifPT hf cc1
    exact w_X2_readName_123 X hret hf hCT hM (lv_sub hl [] rfl)
  · replace hf := m_ifPF hf cc1
    refine lv_aload_n hx hb dX2_readName_111 rfl (lv_at hl 0 rfl) ?_
    refine lv_iconst (v := (1 : Int32)) hx hb dX2_readName_112 (by decide) ?_
    refine lv_aload_n hx hb dX2_readName_113 rfl (lv_at hl 0 rfl) ?_
    obtain ⟨ca, hf⟩ := m_chkPE hf
    replace ca := z_in hM (by decide) ca
    refine z_get (k := 2) (j := 4) (C := RX2) (T := TX2) (N := 12) (fl := zf_2) (v := .int (zI o2.2 4 x0)) X hw_X2_readName_2 hM rfl zc_2 ca (by decide) fl_X2_readName_2_4 rfl dX2_readName_114 ?_
    clear ca
    obtain ⟨ca, hf⟩ := m_chkPE hf
    replace ca := z_in hM (by decide) ca
    obtain ⟨o3, ho, hf⟩ := m_calPE hf
    refine z_gcallVi (k := 2) (C := RX2) (T := TX2) (N := 12) (fl := zf_2) X hM rfl zc_2 ca (c_X2_refuse ho) gX2_readName_X2_refuse rfl ⟨rfl, rfl⟩ hd_X2_refuse ⟨Nat.le_of_ble_eq_true rfl, Nat.le_of_ble_eq_true rfl⟩ rfl hl.1 rfl ⟨Nat.sub_le _ _, Nat.sub_le _ _⟩ (Nat.le_of_ble_eq_true rfl) dX2_readName_117 (fun H locs hM => ?_)
    clear ho
    refine lv_if_eq (tgt := 127) hx hb dX2_readName_120 (by decide) (fun cc1 => ?_) (fun cc1 => ?_)
    · replace hf := m_ifPT hf cc1
      refine lv_iconst (v := (0 : Int32)) hx hb dX2_readName_127 (by decide) ?_
      exact w_X2_readName_128 (t0 := (0 : Int32)) X hret hf hCT hM (lv_sub hl [] rfl)
    · replace hf := m_ifPF hf cc1
      exact w_X2_readName_123 X hret hf hCT hM (lv_sub hl [] rfl)
noncomputable def g_X2_readName_70 (Pw : Int32 → ZS → Prop) (self22 : Nat → ZS → Nat → Nat → Prop) (x0 : Nat) (S : ZS) (C T : Nat) : Prop :=
  m_chkQ (zK S x0 = 2) (
  m_calP (zP S 6 x0) (fun b1 =>
  m_chkQ (zK S x0 = 2) (
  m_calP (zP S 2 x0) (fun b2 =>
  m_chkQ (zK S x0 = 2) (
  m_chkQ (zK S b2 = 6) (
  m_calP (f_X6_at b2 (zI S 4 x0) S) (fun o3 =>
  m_chkQ (zK o3.2 b1 = 6) (
  m_gal (C) (T) (fun mc ms Pw => g_X6_put b1 o3.1 o3.2 mc ms Pw) (fun r5 S6 C7 T8 =>
  m_chkQ (zK S6 x0 = 2) (
  m_bndP ((zI S6 4 x0) + (1 : Int32)) (fun v9 =>
  m_chkQ (zK S6 x0 = 2) (
  m_bndP (zsI S6 4 x0 v9) (fun S10 =>
  self22 x0 S10 (C7) (T8))))))))))))))

set_option maxRecDepth 100000 in
set_option maxHeartbeats 4000000 in
theorem w_X2_readName_70 {p : Program} {l : Launch} {e : Env} {s : State} {m : MethodId} {args : Array Value} {below : List Frame} {meth : Method} {c : Code} {Q : State → Prop} {D : va_G} {y : Nat → ClassId} {A0 : Nat → Prop} {kc kt : Nat} {Pw : Int32 → ZS → Prop} (X : CallFix p m c cX2_readName 1 s args wsX2_readName RX2) (hret : zQi p l e ({ frames := 2, cells := kc, slots := kt, locals := 82 } : Room) s m args below meth c Q cX2_readName D y A0 .boolean Pw) {self22 : Nat → ZS → Nat → Nat → Prop} (hself22 : ∀ (x0 : Nat) (S : ZS) (C T : Nat) (H : Heap) (locs : List Loc) (ls : Array Slot), self22 x0 S C T → C ≤ kc ∧ T ≤ kt → zH D y A0 s H locs S → lv_has ls 1 [(0, .ref (zh y x0))] → W p l e ({ frames := 2, cells := kc, slots := kt, locals := 82 } : Room) s m args below meth c H locs (kc - C) (kt - T) Q (F0 m 22 ls [])) {x0 : Nat} {S : ZS} {C T : Nat} {H : Heap} {locs : List Loc} {ls : Array Slot} (hf : g_X2_readName_70 Pw self22 x0 S C T) (hCT : C ≤ kc ∧ T ≤ kt) (hM : zH D y A0 s H locs S) (hl : lv_has ls 1 [(0, .ref (zh y x0))]) : W p l e ({ frames := 2, cells := kc, slots := kt, locals := 82 } : Room) s m args below meth c H locs (kc - C) (kt - T) Q (F0 m 70 ls []) := by
  obtain ⟨hx, hb, hml, hown, hts⟩ := id X
  unfold g_X2_readName_70 at hf
  refine lv_aload_n hx hb dX2_readName_70 rfl (lv_at hl 0 rfl) ?_
  obtain ⟨ca, hf⟩ := m_chkPE hf
  replace ca := z_in hM (by decide) ca
  refine z_get (k := 2) (j := 6) (C := RX2) (T := TX2) (N := 12) (fl := zf_2) (v := va_rf ((zP S 6 x0).map (zh y))) X hw_X2_readName_2 hM rfl zc_2 ca (by decide) fl_X2_readName_2_6 rfl dX2_readName_71 ?_
  clear ca
  obtain ⟨b1, hb9, hf⟩ := m_calPE hf
  refine z_topr hb9 ?_
  clear hb9
  refine lv_aload_n hx hb dX2_readName_74 rfl (lv_at hl 0 rfl) ?_
  obtain ⟨ca, hf⟩ := m_chkPE hf
  replace ca := z_in hM (by decide) ca
  refine z_get (k := 2) (j := 2) (C := RX2) (T := TX2) (N := 12) (fl := zf_2) (v := va_rf ((zP S 2 x0).map (zh y))) X hw_X2_readName_2 hM rfl zc_2 ca (by decide) fl_X2_readName_2_2 rfl dX2_readName_75 ?_
  clear ca
  obtain ⟨b2, hb9, hf⟩ := m_calPE hf
  refine z_topr hb9 ?_
  clear hb9
  refine lv_aload_n hx hb dX2_readName_78 rfl (lv_at hl 0 rfl) ?_
  obtain ⟨ca, hf⟩ := m_chkPE hf
  replace ca := z_in hM (by decide) ca
  refine z_get (k := 2) (j := 4) (C := RX2) (T := TX2) (N := 12) (fl := zf_2) (v := .int (zI S 4 x0)) X hw_X2_readName_2 hM rfl zc_2 ca (by decide) fl_X2_readName_2_4 rfl dX2_readName_79 ?_
  clear ca
  obtain ⟨ca, hf⟩ := m_chkPE hf
  replace ca := z_in hM (by decide) ca
  obtain ⟨o3, ho, hf⟩ := m_calPE hf
  refine z_gcallVi (k := 6) (C := RX6) (T := TX6) (N := 2) (fl := zf_6) X hM rfl zc_6 ca (c_X6_at ho) gX2_readName_X6_at rfl ⟨rfl, rfl⟩ hd_X6_at ⟨Nat.le_of_ble_eq_true rfl, Nat.le_of_ble_eq_true rfl⟩ rfl hl.1 rfl ⟨Nat.sub_le _ _, Nat.sub_le _ _⟩ (Nat.le_of_ble_eq_true rfl) dX2_readName_82 (fun H locs hM => ?_)
  clear ho
  obtain ⟨ca, hf⟩ := m_chkPE hf
  replace ca := z_in hM (by decide) ca
  obtain ⟨mc, ms, hcm, ho⟩ := m_galE hf
  refine z_wcallVv (k := 6) (C := RX6) (T := TX6) (N := 2) (fl := zf_6) X hM rfl zc_6 ca (c_X6_put ho) gX2_readName_X6_put rfl ⟨rfl, rfl⟩ ⟨by show kc - (C) + mc ≤ kc; omega, by show kt - (T) + ms ≤ kt; omega⟩ hd_X6_put ⟨Nat.le_of_ble_eq_true rfl, Nat.le_of_ble_eq_true rfl⟩ rfl hl.1 rfl (Nat.le_of_ble_eq_true rfl) dX2_readName_85 (fun S6 H locs hf hM => ?_)
  refine z_eqCS (c2 := kc - (C - mc)) (t2 := kt - (T - ms)) (by omega) (by omega) ?_
  replace hCT : C - mc ≤ kc ∧ T - ms ≤ kt := by omega
  generalize C - mc = C7 at hf hCT ⊢
  generalize T - ms = T8 at hf hCT ⊢
  clear ho hcm
  refine lv_aload_n hx hb dX2_readName_88 rfl (lv_at hl 0 rfl) ?_
  refine lv_dup hx hb dX2_readName_89 rfl ?_
  obtain ⟨ca, hf⟩ := m_chkPE hf
  replace ca := z_in hM (by decide) ca
  refine z_get (k := 2) (j := 4) (C := RX2) (T := TX2) (N := 12) (fl := zf_2) (v := .int (zI S6 4 x0)) X hw_X2_readName_2 hM rfl zc_2 ca (by decide) fl_X2_readName_2_4 rfl dX2_readName_90 ?_
  clear ca
  refine lv_iconst (v := (1 : Int32)) hx hb dX2_readName_93 (by decide) ?_
  refine lv_iadd hx hb dX2_readName_94 ?_
  obtain ⟨v9, ev, hf⟩ := m_bndPE hf
  refine m_top ev ?_
  clear ev
  obtain ⟨ca, hf⟩ := m_chkPE hf
  replace ca := z_in hM (by decide) ca
  refine z_putI (k := 2) (j := 4) (C := RX2) (T := TX2) (N := 12) (fl := zf_2) (ty := .int) X hw_X2_readName_2 tyX2_ok nmX2 hM rfl zc_2 ca (by decide) fl_X2_readName_2_4 rfl (tyX2_ok 4 (by decide)) rfl rfl zi_2_4 (Nat.le_of_ble_eq_true rfl) dX2_readName_95 (fun H locs hM => ?_)
  clear ca
  obtain ⟨S10, ev, hf⟩ := m_bndPE hf
  replace hM := z_hS hM ev
  clear ev
  refine lv_goto (tgt := 22) hx hb dX2_readName_98 (by decide) ?_
  exact hself22 x0 _ _ _ _ _ _ hf hCT hM (lv_sub hl [0] rfl)
noncomputable def g_X2_readName_22s (Pw : Int32 → ZS → Prop) (self22 : Nat → ZS → Nat → Nat → Prop) (x0 : Nat) (S : ZS) (C T : Nat) : Prop :=
  m_chkQ (zK S x0 = 2) (
  m_chkQ (zK S x0 = 2) (
  m_calP (zP S 2 x0) (fun b1 =>
  m_chkQ (zK S b1 = 6) (
  m_calP (f_X6_size b1 S) (fun o2 =>
  m_ifQ (o2.1 ≤ (zI S 4 x0)) (
  g_X2_readName_101 Pw x0 o2.2 (C) (T)
  ) (
  m_chkQ (zK o2.2 x0 = 2) (
  m_calP (zP o2.2 2 x0) (fun b3 =>
  m_chkQ (zK o2.2 x0 = 2) (
  m_chkQ (zK o2.2 b3 = 6) (
  m_calP (f_X6_at b3 (zI o2.2 4 x0) o2.2) (fun o4 =>
  m_calP (f_X11_isLetter o4.1 o4.2) (fun o5 =>
  m_ifQ (o5.1 = 0) (
  m_chkQ (zK o5.2 x0 = 2) (
  m_calP (zP o5.2 2 x0) (fun b6 =>
  m_chkQ (zK o5.2 x0 = 2) (
  m_chkQ (zK o5.2 b6 = 6) (
  m_calP (f_X6_at b6 (zI o5.2 4 x0) o5.2) (fun o7 =>
  m_calP (f_X11_isDigit o7.1 o7.2) (fun o8 =>
  m_ifQ (o8.1 = 0) (
  g_X2_readName_101 Pw x0 o8.2 (C) (T)
  ) (
  g_X2_readName_70 Pw self22 x0 o8.2 (C) (T)
  )))))))
  ) (
  g_X2_readName_70 Pw self22 x0 o5.2 (C) (T)
  )))))))
  ))))))

set_option maxRecDepth 100000 in
set_option maxHeartbeats 4000000 in
theorem ws_X2_readName_22 {p : Program} {l : Launch} {e : Env} {s : State} {m : MethodId} {args : Array Value} {below : List Frame} {meth : Method} {c : Code} {Q : State → Prop} {D : va_G} {y : Nat → ClassId} {A0 : Nat → Prop} {kc kt : Nat} {Pw : Int32 → ZS → Prop} (X : CallFix p m c cX2_readName 1 s args wsX2_readName RX2) (hret : zQi p l e ({ frames := 2, cells := kc, slots := kt, locals := 82 } : Room) s m args below meth c Q cX2_readName D y A0 .boolean Pw) {self22 : Nat → ZS → Nat → Nat → Prop} (hself22 : ∀ (x0 : Nat) (S : ZS) (C T : Nat) (H : Heap) (locs : List Loc) (ls : Array Slot), self22 x0 S C T → C ≤ kc ∧ T ≤ kt → zH D y A0 s H locs S → lv_has ls 1 [(0, .ref (zh y x0))] → W p l e ({ frames := 2, cells := kc, slots := kt, locals := 82 } : Room) s m args below meth c H locs (kc - C) (kt - T) Q (F0 m 22 ls [])) {x0 : Nat} {S : ZS} {C T : Nat} {H : Heap} {locs : List Loc} {ls : Array Slot} (hf : g_X2_readName_22s Pw self22 x0 S C T) (hCT : C ≤ kc ∧ T ≤ kt) (hM : zH D y A0 s H locs S) (hl : lv_has ls 1 [(0, .ref (zh y x0))]) : W p l e ({ frames := 2, cells := kc, slots := kt, locals := 82 } : Room) s m args below meth c H locs (kc - C) (kt - T) Q (F0 m 22 ls []) := by
  obtain ⟨hx, hb, hml, hown, hts⟩ := id X
  unfold g_X2_readName_22s at hf
  refine lv_aload_n hx hb dX2_readName_22 rfl (lv_at hl 0 rfl) ?_
  obtain ⟨ca, hf⟩ := m_chkPE hf
  replace ca := z_in hM (by decide) ca
  refine z_get (k := 2) (j := 4) (C := RX2) (T := TX2) (N := 12) (fl := zf_2) (v := .int (zI S 4 x0)) X hw_X2_readName_2 hM rfl zc_2 ca (by decide) fl_X2_readName_2_4 rfl dX2_readName_23 ?_
  clear ca
  refine lv_aload_n hx hb dX2_readName_26 rfl (lv_at hl 0 rfl) ?_
  obtain ⟨ca, hf⟩ := m_chkPE hf
  replace ca := z_in hM (by decide) ca
  refine z_get (k := 2) (j := 2) (C := RX2) (T := TX2) (N := 12) (fl := zf_2) (v := va_rf ((zP S 2 x0).map (zh y))) X hw_X2_readName_2 hM rfl zc_2 ca (by decide) fl_X2_readName_2_2 rfl dX2_readName_27 ?_
  clear ca
  obtain ⟨b1, hb9, hf⟩ := m_calPE hf
  refine z_topr hb9 ?_
  clear hb9
  obtain ⟨ca, hf⟩ := m_chkPE hf
  replace ca := z_in hM (by decide) ca
  obtain ⟨o2, ho, hf⟩ := m_calPE hf
  refine z_gcallVi (k := 6) (C := RX6) (T := TX6) (N := 2) (fl := zf_6) X hM rfl zc_6 ca (c_X6_size ho) gX2_readName_X6_size rfl ⟨rfl, rfl⟩ hd_X6_size ⟨Nat.le_of_ble_eq_true rfl, Nat.le_of_ble_eq_true rfl⟩ rfl hl.1 rfl ⟨Nat.sub_le _ _, Nat.sub_le _ _⟩ (Nat.le_of_ble_eq_true rfl) dX2_readName_30 (fun H locs hM => ?_)
  clear ho
  refine lv_icmp_ge (tgt := 101) hx hb dX2_readName_33 (by decide) (fun cc1 => ?_) (fun cc1 => ?_)
  · replace hf := m_ifPT hf cc1
    exact w_X2_readName_101 (x0 := x0) X hret hf hCT hM (lv_sub hl [0] rfl)
  · replace hf := m_ifPF hf cc1
    refine lv_aload_n hx hb dX2_readName_36 rfl (lv_at hl 0 rfl) ?_
    obtain ⟨ca, hf⟩ := m_chkPE hf
    replace ca := z_in hM (by decide) ca
    refine z_get (k := 2) (j := 2) (C := RX2) (T := TX2) (N := 12) (fl := zf_2) (v := va_rf ((zP o2.2 2 x0).map (zh y))) X hw_X2_readName_2 hM rfl zc_2 ca (by decide) fl_X2_readName_2_2 rfl dX2_readName_37 ?_
    clear ca
    obtain ⟨b3, hb9, hf⟩ := m_calPE hf
    refine z_topr hb9 ?_
    clear hb9
    refine lv_aload_n hx hb dX2_readName_40 rfl (lv_at hl 0 rfl) ?_
    obtain ⟨ca, hf⟩ := m_chkPE hf
    replace ca := z_in hM (by decide) ca
    refine z_get (k := 2) (j := 4) (C := RX2) (T := TX2) (N := 12) (fl := zf_2) (v := .int (zI o2.2 4 x0)) X hw_X2_readName_2 hM rfl zc_2 ca (by decide) fl_X2_readName_2_4 rfl dX2_readName_41 ?_
    clear ca
    obtain ⟨ca, hf⟩ := m_chkPE hf
    replace ca := z_in hM (by decide) ca
    obtain ⟨o4, ho, hf⟩ := m_calPE hf
    refine z_gcallVi (k := 6) (C := RX6) (T := TX6) (N := 2) (fl := zf_6) X hM rfl zc_6 ca (c_X6_at ho) gX2_readName_X6_at rfl ⟨rfl, rfl⟩ hd_X6_at ⟨Nat.le_of_ble_eq_true rfl, Nat.le_of_ble_eq_true rfl⟩ rfl hl.1 rfl ⟨Nat.sub_le _ _, Nat.sub_le _ _⟩ (Nat.le_of_ble_eq_true rfl) dX2_readName_44 (fun H locs hM => ?_)
    clear ho
    obtain ⟨o5, ho, hf⟩ := m_calPE hf
    refine z_gcallSNi X hM (c_X11_isLetter ho) gX2_readName_X11_isLetter_n132 nn_X2_readName_132.1.1 nn_X2_readName_132.1.2 nn_X2_readName_132.2 rfl ⟨rfl, rfl⟩ hd_X11_isLetter ⟨Nat.le_of_ble_eq_true rfl, Nat.le_of_ble_eq_true rfl⟩ rfl hl.1 rfl ⟨Nat.sub_le _ _, Nat.sub_le _ _⟩ (Nat.le_of_ble_eq_true rfl) dX2_readName_47 (fun H locs hM => ?_)
    clear ho
    refine lv_if_ne (tgt := 70) hx hb dX2_readName_50 (by decide) (fun cc1 => ?_) (fun cc1 => ?_)
    · replace hf := m_ifPF hf cc1
      exact w_X2_readName_70 (x0 := x0) X hret hself22 hf hCT hM (lv_sub hl [0] rfl)
    · replace hf := m_ifPT hf cc1
      refine lv_aload_n hx hb dX2_readName_53 rfl (lv_at hl 0 rfl) ?_
      obtain ⟨ca, hf⟩ := m_chkPE hf
      replace ca := z_in hM (by decide) ca
      refine z_get (k := 2) (j := 2) (C := RX2) (T := TX2) (N := 12) (fl := zf_2) (v := va_rf ((zP o5.2 2 x0).map (zh y))) X hw_X2_readName_2 hM rfl zc_2 ca (by decide) fl_X2_readName_2_2 rfl dX2_readName_54 ?_
      clear ca
      obtain ⟨b6, hb9, hf⟩ := m_calPE hf
      refine z_topr hb9 ?_
      clear hb9
      refine lv_aload_n hx hb dX2_readName_57 rfl (lv_at hl 0 rfl) ?_
      obtain ⟨ca, hf⟩ := m_chkPE hf
      replace ca := z_in hM (by decide) ca
      refine z_get (k := 2) (j := 4) (C := RX2) (T := TX2) (N := 12) (fl := zf_2) (v := .int (zI o5.2 4 x0)) X hw_X2_readName_2 hM rfl zc_2 ca (by decide) fl_X2_readName_2_4 rfl dX2_readName_58 ?_
      clear ca
      obtain ⟨ca, hf⟩ := m_chkPE hf
      replace ca := z_in hM (by decide) ca
      obtain ⟨o7, ho, hf⟩ := m_calPE hf
      refine z_gcallVi (k := 6) (C := RX6) (T := TX6) (N := 2) (fl := zf_6) X hM rfl zc_6 ca (c_X6_at ho) gX2_readName_X6_at rfl ⟨rfl, rfl⟩ hd_X6_at ⟨Nat.le_of_ble_eq_true rfl, Nat.le_of_ble_eq_true rfl⟩ rfl hl.1 rfl ⟨Nat.sub_le _ _, Nat.sub_le _ _⟩ (Nat.le_of_ble_eq_true rfl) dX2_readName_61 (fun H locs hM => ?_)
      clear ho
      obtain ⟨o8, ho, hf⟩ := m_calPE hf
      refine z_gcallSNi X hM (c_X11_isDigit ho) gX2_readName_X11_isDigit_n136 nn_X2_readName_136.1.1 nn_X2_readName_136.1.2 nn_X2_readName_136.2 rfl ⟨rfl, rfl⟩ hd_X11_isDigit ⟨Nat.le_of_ble_eq_true rfl, Nat.le_of_ble_eq_true rfl⟩ rfl hl.1 rfl ⟨Nat.sub_le _ _, Nat.sub_le _ _⟩ (Nat.le_of_ble_eq_true rfl) dX2_readName_64 (fun H locs hM => ?_)
      clear ho
      refine lv_if_eq (tgt := 101) hx hb dX2_readName_67 (by decide) (fun cc1 => ?_) (fun cc1 => ?_)
      · replace hf := m_ifPT hf cc1
        exact w_X2_readName_101 (x0 := x0) X hret hf hCT hM (lv_sub hl [0] rfl)
      · replace hf := m_ifPF hf cc1
        exact w_X2_readName_70 (x0 := x0) X hret hself22 hf hCT hM (lv_sub hl [0] rfl)
noncomputable def g_X2_readName_22 (Pw : Int32 → ZS → Prop) : Nat → Nat → ZS → Nat → Nat → Prop
  | 0 => fun _ _ _ _ => False
  | n + 1 => g_X2_readName_22s Pw (g_X2_readName_22 Pw n)
theorem w_X2_readName_22 {p : Program} {l : Launch} {e : Env} {s : State} {m : MethodId} {args : Array Value} {below : List Frame} {meth : Method} {c : Code} {Q : State → Prop} {D : va_G} {y : Nat → ClassId} {A0 : Nat → Prop} {kc kt : Nat} {Pw : Int32 → ZS → Prop} (X : CallFix p m c cX2_readName 1 s args wsX2_readName RX2) (hret : zQi p l e ({ frames := 2, cells := kc, slots := kt, locals := 82 } : Room) s m args below meth c Q cX2_readName D y A0 .boolean Pw) (n : Nat) : ∀ (x0 : Nat) (S : ZS) (C T : Nat) (H : Heap) (locs : List Loc) (ls : Array Slot), g_X2_readName_22 Pw n x0 S C T → C ≤ kc ∧ T ≤ kt → zH D y A0 s H locs S → lv_has ls 1 [(0, .ref (zh y x0))] → W p l e ({ frames := 2, cells := kc, slots := kt, locals := 82 } : Room) s m args below meth c H locs (kc - C) (kt - T) Q (F0 m 22 ls []) := by
  induction n with
  | zero => intro x0 S C T H locs ls hf; exact absurd hf id
  | succ n ih => intro x0 S C T H locs ls hf hCT hM hl; exact ws_X2_readName_22 X hret (self22 := g_X2_readName_22 Pw n) ih hf hCT hM hl
noncomputable def g_X2_readName_0 (Pw : Int32 → ZS → Prop) (x0 : Nat) (S : ZS) (C T : Nat) : Prop :=
  m_chkQ (zK S x0 = 2) (
  m_bndP ((zI S 4 x0) + (1 : Int32)) (fun v1 =>
  m_chkQ (zK S x0 = 2) (
  m_bndP (zsI S 4 x0 v1) (fun S2 =>
  m_chkQ (zK S2 x0 = 2) (
  m_calP (f_X2_skipBlanks x0 S2) (fun o3 =>
  m_chkQ (zK o3.2 x0 = 2) (
  m_calP (zP o3.2 6 x0) (fun b4 =>
  m_chkQ (zK o3.2 b4 = 6) (
  m_calP (f_X6_keep b4 (0 : Int32) o3.2) (fun o5 =>
  g_X2_readName_22 Pw mFuel x0 o5.2 (C) (T)))))))))))

set_option maxRecDepth 100000 in
set_option maxHeartbeats 4000000 in
theorem w_X2_readName_0 {p : Program} {l : Launch} {e : Env} {s : State} {m : MethodId} {args : Array Value} {below : List Frame} {meth : Method} {c : Code} {Q : State → Prop} {D : va_G} {y : Nat → ClassId} {A0 : Nat → Prop} {kc kt : Nat} {Pw : Int32 → ZS → Prop} (X : CallFix p m c cX2_readName 1 s args wsX2_readName RX2) (hret : zQi p l e ({ frames := 2, cells := kc, slots := kt, locals := 82 } : Room) s m args below meth c Q cX2_readName D y A0 .boolean Pw) {x0 : Nat} {S : ZS} {C T : Nat} {H : Heap} {locs : List Loc} {ls : Array Slot} (hf : g_X2_readName_0 Pw x0 S C T) (hCT : C ≤ kc ∧ T ≤ kt) (hM : zH D y A0 s H locs S) (hl : lv_has ls 1 [(0, .ref (zh y x0))]) : W p l e ({ frames := 2, cells := kc, slots := kt, locals := 82 } : Room) s m args below meth c H locs (kc - C) (kt - T) Q (F0 m 0 ls []) := by
  obtain ⟨hx, hb, hml, hown, hts⟩ := id X
  unfold g_X2_readName_0 at hf
  refine lv_aload_n hx hb dX2_readName_0 rfl (lv_at hl 0 rfl) ?_
  refine lv_dup hx hb dX2_readName_1 rfl ?_
  obtain ⟨ca, hf⟩ := m_chkPE hf
  replace ca := z_in hM (by decide) ca
  refine z_get (k := 2) (j := 4) (C := RX2) (T := TX2) (N := 12) (fl := zf_2) (v := .int (zI S 4 x0)) X hw_X2_readName_2 hM rfl zc_2 ca (by decide) fl_X2_readName_2_4 rfl dX2_readName_2 ?_
  clear ca
  refine lv_iconst (v := (1 : Int32)) hx hb dX2_readName_5 (by decide) ?_
  refine lv_iadd hx hb dX2_readName_6 ?_
  obtain ⟨v1, ev, hf⟩ := m_bndPE hf
  refine m_top ev ?_
  clear ev
  obtain ⟨ca, hf⟩ := m_chkPE hf
  replace ca := z_in hM (by decide) ca
  refine z_putI (k := 2) (j := 4) (C := RX2) (T := TX2) (N := 12) (fl := zf_2) (ty := .int) X hw_X2_readName_2 tyX2_ok nmX2 hM rfl zc_2 ca (by decide) fl_X2_readName_2_4 rfl (tyX2_ok 4 (by decide)) rfl rfl zi_2_4 (Nat.le_of_ble_eq_true rfl) dX2_readName_7 (fun H locs hM => ?_)
  clear ca
  obtain ⟨S2, ev, hf⟩ := m_bndPE hf
  replace hM := z_hS hM ev
  clear ev
  refine lv_aload_n hx hb dX2_readName_10 rfl (lv_at hl 0 rfl) ?_
  obtain ⟨ca, hf⟩ := m_chkPE hf
  replace ca := z_in hM (by decide) ca
  obtain ⟨o3, ho, hf⟩ := m_calPE hf
  refine z_gcallVv (k := 2) (C := RX2) (T := TX2) (N := 12) (fl := zf_2) X hM rfl zc_2 ca (c_X2_skipBlanks ho) gX2_readName_X2_skipBlanks rfl ⟨rfl, rfl⟩ hd_X2_skipBlanks ⟨Nat.le_of_ble_eq_true rfl, Nat.le_of_ble_eq_true rfl⟩ rfl hl.1 rfl ⟨Nat.sub_le _ _, Nat.sub_le _ _⟩ (Nat.le_of_ble_eq_true rfl) dX2_readName_11 (fun H locs hM => ?_)
  clear ho
  refine lv_aload_n hx hb dX2_readName_14 rfl (lv_at hl 0 rfl) ?_
  obtain ⟨ca, hf⟩ := m_chkPE hf
  replace ca := z_in hM (by decide) ca
  refine z_get (k := 2) (j := 6) (C := RX2) (T := TX2) (N := 12) (fl := zf_2) (v := va_rf ((zP o3.2 6 x0).map (zh y))) X hw_X2_readName_2 hM rfl zc_2 ca (by decide) fl_X2_readName_2_6 rfl dX2_readName_15 ?_
  clear ca
  obtain ⟨b4, hb9, hf⟩ := m_calPE hf
  refine z_topr hb9 ?_
  clear hb9
  refine lv_iconst (v := (0 : Int32)) hx hb dX2_readName_18 (by decide) ?_
  obtain ⟨ca, hf⟩ := m_chkPE hf
  replace ca := z_in hM (by decide) ca
  obtain ⟨o5, ho, hf⟩ := m_calPE hf
  refine z_gcallVv (k := 6) (C := RX6) (T := TX6) (N := 2) (fl := zf_6) X hM rfl zc_6 ca (c_X6_keep ho) gX2_readName_X6_keep rfl ⟨rfl, rfl⟩ hd_X6_keep ⟨Nat.le_of_ble_eq_true rfl, Nat.le_of_ble_eq_true rfl⟩ rfl hl.1 rfl ⟨Nat.sub_le _ _, Nat.sub_le _ _⟩ (Nat.le_of_ble_eq_true rfl) dX2_readName_19 (fun H locs hM => ?_)
  clear ho
  exact w_X2_readName_22 X hret _ x0 _ _ _ _ _ _ hf hCT hM (lv_sub hl [0] rfl)
noncomputable def g_X2_readName (x0 : Nat) (S : ZS) (mc ms : Nat) (Pw : Int32 → ZS → Prop) : Prop := g_X2_readName_0 Pw x0 S mc ms
theorem c_X2_readName {l : Launch} {D : va_G} {y : Nat → ClassId} {x0 : Nat} {S : ZS} {kc kt : Nat} {Pw : Int32 → ZS → Prop} (hf : g_X2_readName x0 S kc kt Pw) : zWi l yX2_readName wsX2_readName ({ frames := 2, cells := kc, slots := kt, locals := 82 } : Room) [.ref (zh y x0)] D y S kc kt Pw :=
  z_wentI (own := RX2) (cc := cX2_readName) (maxL := 1) (by decide) rfl rfl (Nat.le_of_ble_eq_true rfl) ⟨rfl, rfl⟩ (fun p e s m args below meth c A0 Q H locs ls X hret hM hl => w_X2_readName_0 X hret hf ⟨Nat.le_refl _, Nat.le_refl _⟩ hM (lv_sub hl [0] rfl))
theorem hd_X2_readValue : yX2_readValue.cls = RX2 ∧ yX2_readValue.cls ≠ "java/lang/invoke/MethodHandle" ∧ yX2_readValue.cls ≠ "java/lang/invoke/VarHandle" ∧ (parseMethodDescriptor yX2_readValue.desc).map (fun d => d.parameters.length) = some 0 := by decide +kernel
theorem fl_X2_readValue_2_2 : Cond.fieldLink RX2 28 "MoveTexts$GameReader" "text" "LMoveTexts$Row;" ∈ wsX2_readValue := by decide +kernel
theorem fl_X2_readValue_2_4 : Cond.fieldLink RX2 39 "MoveTexts$GameReader" "at" "I" ∈ wsX2_readValue := by decide +kernel
theorem fl_X2_readValue_2_7 : Cond.fieldLink RX2 49 "MoveTexts$GameReader" "value" "LMoveTexts$Row;" ∈ wsX2_readValue := by decide +kernel
theorem hw_X2_readValue_2 : ∀ w ∈ wsX20, w ∈ wsX2_readValue := by decide +kernel
noncomputable def g_X2_readValue_142 (Pw : Int32 → ZS → Prop) (self48 : Nat → ZS → Nat → Nat → Prop) (x0 : Nat) (x1 : Int32) (S : ZS) (C T : Nat) : Prop :=
  m_ifQ (x1 = (10 : Int32)) (
  m_chkQ (zK S x0 = 2) (
  m_chkQ (zK S x0 = 2) (
  m_calP (f_X2_refuse x0 (1 : Int32) (zI S 4 x0) S) (fun o9 =>
  m_chkQ (vp_nar .boolean o9.1 = o9.1) (Pw o9.1 o9.2))))
  ) (
  m_chkQ (zK S x0 = 2) (
  m_calP (zP S 7 x0) (fun b1 =>
  m_chkQ (zK S b1 = 6) (
  m_gal (C) (T) (fun mc ms Pw => g_X6_put b1 x1 S mc ms Pw) (fun r3 S4 C5 T6 =>
  m_chkQ (zK S4 x0 = 2) (
  m_bndP ((zI S4 4 x0) + (1 : Int32)) (fun v7 =>
  m_chkQ (zK S4 x0 = 2) (
  m_bndP (zsI S4 4 x0 v7) (fun S8 =>
  self48 x0 S8 (C5) (T6)))))))))
  )

set_option maxRecDepth 100000 in
set_option maxHeartbeats 4000000 in
theorem w_X2_readValue_142 {p : Program} {l : Launch} {e : Env} {s : State} {m : MethodId} {args : Array Value} {below : List Frame} {meth : Method} {c : Code} {Q : State → Prop} {D : va_G} {y : Nat → ClassId} {A0 : Nat → Prop} {kc kt : Nat} {Pw : Int32 → ZS → Prop} (X : CallFix p m c cX2_readValue 2 s args wsX2_readValue RX2) (hret : zQi p l e ({ frames := 2, cells := kc, slots := kt, locals := 82 } : Room) s m args below meth c Q cX2_readValue D y A0 .boolean Pw) {self48 : Nat → ZS → Nat → Nat → Prop} (hself48 : ∀ (x0 : Nat) (S : ZS) (C T : Nat) (H : Heap) (locs : List Loc) (ls : Array Slot), self48 x0 S C T → C ≤ kc ∧ T ≤ kt → zH D y A0 s H locs S → lv_has ls 2 [(0, .ref (zh y x0))] → W p l e ({ frames := 2, cells := kc, slots := kt, locals := 82 } : Room) s m args below meth c H locs (kc - C) (kt - T) Q (F0 m 48 ls [])) {x0 : Nat} {x1 : Int32} {S : ZS} {C T : Nat} {H : Heap} {locs : List Loc} {ls : Array Slot} (hf : g_X2_readValue_142 Pw self48 x0 x1 S C T) (hCT : C ≤ kc ∧ T ≤ kt) (hM : zH D y A0 s H locs S) (hl : lv_has ls 2 [(0, .ref (zh y x0)), (1, .int x1)]) : W p l e ({ frames := 2, cells := kc, slots := kt, locals := 82 } : Room) s m args below meth c H locs (kc - C) (kt - T) Q (F0 m 142 ls []) := by
  obtain ⟨hx, hb, hml, hown, hts⟩ := id X
  unfold g_X2_readValue_142 at hf
  refine lv_iload_n hx hb dX2_readValue_142 rfl (lv_at hl 1 rfl) ?_
  refine lv_bipush (v := (10 : Int32)) hx hb dX2_readValue_143 (by decide) ?_
  refine lv_icmp_ne (tgt := 158) hx hb dX2_readValue_145 (by decide) (fun cc1 => ?_) (fun cc1 => ?_)
  · replace hf := m_ifPF hf cc1
    refine lv_aload_n hx hb dX2_readValue_158 rfl (lv_at hl 0 rfl) ?_
    obtain ⟨ca, hf⟩ := m_chkPE hf
    replace ca := z_in hM (by decide) ca
    refine z_get (k := 2) (j := 7) (C := RX2) (T := TX2) (N := 12) (fl := zf_2) (v := va_rf ((zP S 7 x0).map (zh y))) X hw_X2_readValue_2 hM rfl zc_2 ca (by decide) fl_X2_readValue_2_7 rfl dX2_readValue_159 ?_
    clear ca
    obtain ⟨b1, hb9, hf⟩ := m_calPE hf
    refine z_topr hb9 ?_
    clear hb9
    refine lv_iload_n hx hb dX2_readValue_162 rfl (lv_at hl 1 rfl) ?_
    obtain ⟨ca, hf⟩ := m_chkPE hf
    replace ca := z_in hM (by decide) ca
    obtain ⟨mc, ms, hcm, ho⟩ := m_galE hf
    refine z_wcallVv (k := 6) (C := RX6) (T := TX6) (N := 2) (fl := zf_6) X hM rfl zc_6 ca (c_X6_put ho) gX2_readValue_X6_put rfl ⟨rfl, rfl⟩ ⟨by show kc - (C) + mc ≤ kc; omega, by show kt - (T) + ms ≤ kt; omega⟩ hd_X6_put ⟨Nat.le_of_ble_eq_true rfl, Nat.le_of_ble_eq_true rfl⟩ rfl hl.1 rfl (Nat.le_of_ble_eq_true rfl) dX2_readValue_163 (fun S4 H locs hf hM => ?_)
    refine z_eqCS (c2 := kc - (C - mc)) (t2 := kt - (T - ms)) (by omega) (by omega) ?_
    replace hCT : C - mc ≤ kc ∧ T - ms ≤ kt := by omega
    generalize C - mc = C5 at hf hCT ⊢
    generalize T - ms = T6 at hf hCT ⊢
    clear ho hcm
    refine lv_aload_n hx hb dX2_readValue_166 rfl (lv_at hl 0 rfl) ?_
    refine lv_dup hx hb dX2_readValue_167 rfl ?_
    obtain ⟨ca, hf⟩ := m_chkPE hf
    replace ca := z_in hM (by decide) ca
    refine z_get (k := 2) (j := 4) (C := RX2) (T := TX2) (N := 12) (fl := zf_2) (v := .int (zI S4 4 x0)) X hw_X2_readValue_2 hM rfl zc_2 ca (by decide) fl_X2_readValue_2_4 rfl dX2_readValue_168 ?_
    clear ca
    refine lv_iconst (v := (1 : Int32)) hx hb dX2_readValue_171 (by decide) ?_
    refine lv_iadd hx hb dX2_readValue_172 ?_
    obtain ⟨v7, ev, hf⟩ := m_bndPE hf
    refine m_top ev ?_
    clear ev
    obtain ⟨ca, hf⟩ := m_chkPE hf
    replace ca := z_in hM (by decide) ca
    refine z_putI (k := 2) (j := 4) (C := RX2) (T := TX2) (N := 12) (fl := zf_2) (ty := .int) X hw_X2_readValue_2 tyX2_ok nmX2 hM rfl zc_2 ca (by decide) fl_X2_readValue_2_4 rfl (tyX2_ok 4 (by decide)) rfl rfl zi_2_4 (Nat.le_of_ble_eq_true rfl) dX2_readValue_173 (fun H locs hM => ?_)
    clear ca
    obtain ⟨S8, ev, hf⟩ := m_bndPE hf
    replace hM := z_hS hM ev
    clear ev
    refine lv_goto (tgt := 48) hx hb dX2_readValue_176 (by decide) ?_
    exact hself48 x0 _ _ _ _ _ _ hf hCT hM (lv_sub hl [0] rfl)
  · replace hf := m_ifPT hf cc1
    refine lv_aload_n hx hb dX2_readValue_148 rfl (lv_at hl 0 rfl) ?_
    refine lv_iconst (v := (1 : Int32)) hx hb dX2_readValue_149 (by decide) ?_
    refine lv_aload_n hx hb dX2_readValue_150 rfl (lv_at hl 0 rfl) ?_
    obtain ⟨ca, hf⟩ := m_chkPE hf
    replace ca := z_in hM (by decide) ca
    refine z_get (k := 2) (j := 4) (C := RX2) (T := TX2) (N := 12) (fl := zf_2) (v := .int (zI S 4 x0)) X hw_X2_readValue_2 hM rfl zc_2 ca (by decide) fl_X2_readValue_2_4 rfl dX2_readValue_151 ?_
    clear ca
    obtain ⟨ca, hf⟩ := m_chkPE hf
    replace ca := z_in hM (by decide) ca
    obtain ⟨o9, ho, hf⟩ := m_calPE hf
    refine z_gcallVi (k := 2) (C := RX2) (T := TX2) (N := 12) (fl := zf_2) X hM rfl zc_2 ca (c_X2_refuse ho) gX2_readValue_X2_refuse rfl ⟨rfl, rfl⟩ hd_X2_refuse ⟨Nat.le_of_ble_eq_true rfl, Nat.le_of_ble_eq_true rfl⟩ rfl hl.1 rfl ⟨Nat.sub_le _ _, Nat.sub_le _ _⟩ (Nat.le_of_ble_eq_true rfl) dX2_readValue_154 (fun H locs hM => ?_)
    clear ho
    obtain ⟨cd, hf⟩ := m_chkPE hf
    exact hret _ _ _ _ H locs _ ls hf hM (m_nb cd) dX2_readValue_157
noncomputable def g_X2_readValue_48s (Pw : Int32 → ZS → Prop) (self48 : Nat → ZS → Nat → Nat → Prop) (x0 : Nat) (S : ZS) (C T : Nat) : Prop :=
  m_chkQ (zK S x0 = 2) (
  m_chkQ (zK S x0 = 2) (
  m_calP (zP S 2 x0) (fun b1 =>
  m_chkQ (zK S b1 = 6) (
  m_calP (f_X6_size b1 S) (fun o2 =>
  m_ifQ (o2.1 ≤ (zI S 4 x0)) (
  m_chkQ (zK o2.2 x0 = 2) (
  m_chkQ (zK o2.2 x0 = 2) (
  m_calP (f_X2_refuse x0 (1 : Int32) (zI o2.2 4 x0) o2.2) (fun o3 =>
  m_chkQ (vp_nar .boolean o3.1 = o3.1) (Pw o3.1 o3.2))))
  ) (
  m_chkQ (zK o2.2 x0 = 2) (
  m_calP (zP o2.2 2 x0) (fun b4 =>
  m_chkQ (zK o2.2 x0 = 2) (
  m_chkQ (zK o2.2 b4 = 6) (
  m_calP (f_X6_at b4 (zI o2.2 4 x0) o2.2) (fun o5 =>
  m_ifQ (o5.1 = (34 : Int32)) (
  m_chkQ (zK o5.2 x0 = 2) (
  m_bndP ((zI o5.2 4 x0) + (1 : Int32)) (fun v11 =>
  m_chkQ (zK o5.2 x0 = 2) (
  m_bndP (zsI o5.2 4 x0 v11) (fun S12 =>
  m_chkQ (vp_nar .boolean (1 : Int32) = (1 : Int32)) (Pw (1 : Int32) S12)))))
  ) (
  m_ifQ (o5.1 = (92 : Int32)) (
  m_chkQ (zK o5.2 x0 = 2) (
  m_bndP ((zI o5.2 4 x0) + (1 : Int32)) (fun v6 =>
  m_chkQ (zK o5.2 x0 = 2) (
  m_bndP (zsI o5.2 4 x0 v6) (fun S7 =>
  m_chkQ (zK S7 x0 = 2) (
  m_calP (zP S7 2 x0) (fun b8 =>
  m_chkQ (zK S7 x0 = 2) (
  m_chkQ (zK S7 b8 = 6) (
  m_calP (f_X6_at b8 (zI S7 4 x0) S7) (fun o9 =>
  m_ifQ (o9.1 = (34 : Int32)) (
  g_X2_readValue_142 Pw self48 x0 o9.1 o9.2 (C) (T)
  ) (
  m_ifQ (o9.1 = (92 : Int32)) (
  g_X2_readValue_142 Pw self48 x0 o9.1 o9.2 (C) (T)
  ) (
  m_chkQ (zK o9.2 x0 = 2) (
  m_chkQ (zK o9.2 x0 = 2) (
  m_calP (f_X2_refuse x0 (1 : Int32) (zI o9.2 4 x0) o9.2) (fun o10 =>
  m_chkQ (vp_nar .boolean o10.1 = o10.1) (Pw o10.1 o10.2))))
  )
  ))))))))))
  ) (
  g_X2_readValue_142 Pw self48 x0 o5.1 o5.2 (C) (T)
  )
  ))))))
  ))))))

set_option maxRecDepth 100000 in
set_option maxHeartbeats 4000000 in
theorem ws_X2_readValue_48 {p : Program} {l : Launch} {e : Env} {s : State} {m : MethodId} {args : Array Value} {below : List Frame} {meth : Method} {c : Code} {Q : State → Prop} {D : va_G} {y : Nat → ClassId} {A0 : Nat → Prop} {kc kt : Nat} {Pw : Int32 → ZS → Prop} (X : CallFix p m c cX2_readValue 2 s args wsX2_readValue RX2) (hret : zQi p l e ({ frames := 2, cells := kc, slots := kt, locals := 82 } : Room) s m args below meth c Q cX2_readValue D y A0 .boolean Pw) {self48 : Nat → ZS → Nat → Nat → Prop} (hself48 : ∀ (x0 : Nat) (S : ZS) (C T : Nat) (H : Heap) (locs : List Loc) (ls : Array Slot), self48 x0 S C T → C ≤ kc ∧ T ≤ kt → zH D y A0 s H locs S → lv_has ls 2 [(0, .ref (zh y x0))] → W p l e ({ frames := 2, cells := kc, slots := kt, locals := 82 } : Room) s m args below meth c H locs (kc - C) (kt - T) Q (F0 m 48 ls [])) {x0 : Nat} {S : ZS} {C T : Nat} {H : Heap} {locs : List Loc} {ls : Array Slot} (hf : g_X2_readValue_48s Pw self48 x0 S C T) (hCT : C ≤ kc ∧ T ≤ kt) (hM : zH D y A0 s H locs S) (hl : lv_has ls 2 [(0, .ref (zh y x0))]) : W p l e ({ frames := 2, cells := kc, slots := kt, locals := 82 } : Room) s m args below meth c H locs (kc - C) (kt - T) Q (F0 m 48 ls []) := by
  obtain ⟨hx, hb, hml, hown, hts⟩ := id X
  unfold g_X2_readValue_48s at hf
  refine lv_aload_n hx hb dX2_readValue_48 rfl (lv_at hl 0 rfl) ?_
  obtain ⟨ca, hf⟩ := m_chkPE hf
  replace ca := z_in hM (by decide) ca
  refine z_get (k := 2) (j := 4) (C := RX2) (T := TX2) (N := 12) (fl := zf_2) (v := .int (zI S 4 x0)) X hw_X2_readValue_2 hM rfl zc_2 ca (by decide) fl_X2_readValue_2_4 rfl dX2_readValue_49 ?_
  clear ca
  refine lv_aload_n hx hb dX2_readValue_52 rfl (lv_at hl 0 rfl) ?_
  obtain ⟨ca, hf⟩ := m_chkPE hf
  replace ca := z_in hM (by decide) ca
  refine z_get (k := 2) (j := 2) (C := RX2) (T := TX2) (N := 12) (fl := zf_2) (v := va_rf ((zP S 2 x0).map (zh y))) X hw_X2_readValue_2 hM rfl zc_2 ca (by decide) fl_X2_readValue_2_2 rfl dX2_readValue_53 ?_
  clear ca
  obtain ⟨b1, hb9, hf⟩ := m_calPE hf
  refine z_topr hb9 ?_
  clear hb9
  obtain ⟨ca, hf⟩ := m_chkPE hf
  replace ca := z_in hM (by decide) ca
  obtain ⟨o2, ho, hf⟩ := m_calPE hf
  refine z_gcallVi (k := 6) (C := RX6) (T := TX6) (N := 2) (fl := zf_6) X hM rfl zc_6 ca (c_X6_size ho) gX2_readValue_X6_size rfl ⟨rfl, rfl⟩ hd_X6_size ⟨Nat.le_of_ble_eq_true rfl, Nat.le_of_ble_eq_true rfl⟩ rfl hl.1 rfl ⟨Nat.sub_le _ _, Nat.sub_le _ _⟩ (Nat.le_of_ble_eq_true rfl) dX2_readValue_56 (fun H locs hM => ?_)
  clear ho
  refine lv_icmp_ge (tgt := 179) hx hb dX2_readValue_59 (by decide) (fun cc1 => ?_) (fun cc1 => ?_)
  · replace hf := m_ifPT hf cc1
    refine lv_aload_n hx hb dX2_readValue_179 rfl (lv_at hl 0 rfl) ?_
    refine lv_iconst (v := (1 : Int32)) hx hb dX2_readValue_180 (by decide) ?_
    refine lv_aload_n hx hb dX2_readValue_181 rfl (lv_at hl 0 rfl) ?_
    obtain ⟨ca, hf⟩ := m_chkPE hf
    replace ca := z_in hM (by decide) ca
    refine z_get (k := 2) (j := 4) (C := RX2) (T := TX2) (N := 12) (fl := zf_2) (v := .int (zI o2.2 4 x0)) X hw_X2_readValue_2 hM rfl zc_2 ca (by decide) fl_X2_readValue_2_4 rfl dX2_readValue_182 ?_
    clear ca
    obtain ⟨ca, hf⟩ := m_chkPE hf
    replace ca := z_in hM (by decide) ca
    obtain ⟨o3, ho, hf⟩ := m_calPE hf
    refine z_gcallVi (k := 2) (C := RX2) (T := TX2) (N := 12) (fl := zf_2) X hM rfl zc_2 ca (c_X2_refuse ho) gX2_readValue_X2_refuse rfl ⟨rfl, rfl⟩ hd_X2_refuse ⟨Nat.le_of_ble_eq_true rfl, Nat.le_of_ble_eq_true rfl⟩ rfl hl.1 rfl ⟨Nat.sub_le _ _, Nat.sub_le _ _⟩ (Nat.le_of_ble_eq_true rfl) dX2_readValue_185 (fun H locs hM => ?_)
    clear ho
    obtain ⟨cd, hf⟩ := m_chkPE hf
    exact hret _ _ _ _ H locs _ ls hf hM (m_nb cd) dX2_readValue_188
  · replace hf := m_ifPF hf cc1
    refine lv_aload_n hx hb dX2_readValue_62 rfl (lv_at hl 0 rfl) ?_
    obtain ⟨ca, hf⟩ := m_chkPE hf
    replace ca := z_in hM (by decide) ca
    refine z_get (k := 2) (j := 2) (C := RX2) (T := TX2) (N := 12) (fl := zf_2) (v := va_rf ((zP o2.2 2 x0).map (zh y))) X hw_X2_readValue_2 hM rfl zc_2 ca (by decide) fl_X2_readValue_2_2 rfl dX2_readValue_63 ?_
    clear ca
    obtain ⟨b4, hb9, hf⟩ := m_calPE hf
    refine z_topr hb9 ?_
    clear hb9
    refine lv_aload_n hx hb dX2_readValue_66 rfl (lv_at hl 0 rfl) ?_
    obtain ⟨ca, hf⟩ := m_chkPE hf
    replace ca := z_in hM (by decide) ca
    refine z_get (k := 2) (j := 4) (C := RX2) (T := TX2) (N := 12) (fl := zf_2) (v := .int (zI o2.2 4 x0)) X hw_X2_readValue_2 hM rfl zc_2 ca (by decide) fl_X2_readValue_2_4 rfl dX2_readValue_67 ?_
    clear ca
    obtain ⟨ca, hf⟩ := m_chkPE hf
    replace ca := z_in hM (by decide) ca
    obtain ⟨o5, ho, hf⟩ := m_calPE hf
    refine z_gcallVi (k := 6) (C := RX6) (T := TX6) (N := 2) (fl := zf_6) X hM rfl zc_6 ca (c_X6_at ho) gX2_readValue_X6_at rfl ⟨rfl, rfl⟩ hd_X6_at ⟨Nat.le_of_ble_eq_true rfl, Nat.le_of_ble_eq_true rfl⟩ rfl hl.1 rfl ⟨Nat.sub_le _ _, Nat.sub_le _ _⟩ (Nat.le_of_ble_eq_true rfl) dX2_readValue_70 (fun H locs hM => ?_)
    clear ho
    refine lv_istore_n (lv' := [(1, .int o5.1), (0, .ref (zh y x0))]) hx hb dX2_readValue_73 rfl hl (by decide) rfl (fun ls hl => ?_)
    refine lv_iload_n hx hb dX2_readValue_74 rfl (lv_at hl 0 rfl) ?_
    refine lv_bipush (v := (34 : Int32)) hx hb dX2_readValue_75 (by decide) ?_
    refine lv_icmp_ne (tgt := 92) hx hb dX2_readValue_77 (by decide) (fun cc1 => ?_) (fun cc1 => ?_)
    · replace hf := m_ifPF hf cc1
      refine lv_iload_n hx hb dX2_readValue_92 rfl (lv_at hl 0 rfl) ?_
      refine lv_bipush (v := (92 : Int32)) hx hb dX2_readValue_93 (by decide) ?_
      refine lv_icmp_ne (tgt := 142) hx hb dX2_readValue_95 (by decide) (fun cc1 => ?_) (fun cc1 => ?_)
      · replace hf := m_ifPF hf cc1
        exact w_X2_readValue_142 (x0 := x0) (x1 := o5.1) X hret hself48 hf hCT hM (lv_sub hl [1, 0] rfl)
      · replace hf := m_ifPT hf cc1
        refine lv_aload_n hx hb dX2_readValue_98 rfl (lv_at hl 1 rfl) ?_
        refine lv_dup hx hb dX2_readValue_99 rfl ?_
        obtain ⟨ca, hf⟩ := m_chkPE hf
        replace ca := z_in hM (by decide) ca
        refine z_get (k := 2) (j := 4) (C := RX2) (T := TX2) (N := 12) (fl := zf_2) (v := .int (zI o5.2 4 x0)) X hw_X2_readValue_2 hM rfl zc_2 ca (by decide) fl_X2_readValue_2_4 rfl dX2_readValue_100 ?_
        clear ca
        refine lv_iconst (v := (1 : Int32)) hx hb dX2_readValue_103 (by decide) ?_
        refine lv_iadd hx hb dX2_readValue_104 ?_
        obtain ⟨v6, ev, hf⟩ := m_bndPE hf
        refine m_top ev ?_
        clear ev
        obtain ⟨ca, hf⟩ := m_chkPE hf
        replace ca := z_in hM (by decide) ca
        refine z_putI (k := 2) (j := 4) (C := RX2) (T := TX2) (N := 12) (fl := zf_2) (ty := .int) X hw_X2_readValue_2 tyX2_ok nmX2 hM rfl zc_2 ca (by decide) fl_X2_readValue_2_4 rfl (tyX2_ok 4 (by decide)) rfl rfl zi_2_4 (Nat.le_of_ble_eq_true rfl) dX2_readValue_105 (fun H locs hM => ?_)
        clear ca
        obtain ⟨S7, ev, hf⟩ := m_bndPE hf
        replace hM := z_hS hM ev
        clear ev
        refine lv_aload_n hx hb dX2_readValue_108 rfl (lv_at hl 1 rfl) ?_
        obtain ⟨ca, hf⟩ := m_chkPE hf
        replace ca := z_in hM (by decide) ca
        refine z_get (k := 2) (j := 2) (C := RX2) (T := TX2) (N := 12) (fl := zf_2) (v := va_rf ((zP S7 2 x0).map (zh y))) X hw_X2_readValue_2 hM rfl zc_2 ca (by decide) fl_X2_readValue_2_2 rfl dX2_readValue_109 ?_
        clear ca
        obtain ⟨b8, hb9, hf⟩ := m_calPE hf
        refine z_topr hb9 ?_
        clear hb9
        refine lv_aload_n hx hb dX2_readValue_112 rfl (lv_at hl 1 rfl) ?_
        obtain ⟨ca, hf⟩ := m_chkPE hf
        replace ca := z_in hM (by decide) ca
        refine z_get (k := 2) (j := 4) (C := RX2) (T := TX2) (N := 12) (fl := zf_2) (v := .int (zI S7 4 x0)) X hw_X2_readValue_2 hM rfl zc_2 ca (by decide) fl_X2_readValue_2_4 rfl dX2_readValue_113 ?_
        clear ca
        obtain ⟨ca, hf⟩ := m_chkPE hf
        replace ca := z_in hM (by decide) ca
        obtain ⟨o9, ho, hf⟩ := m_calPE hf
        refine z_gcallVi (k := 6) (C := RX6) (T := TX6) (N := 2) (fl := zf_6) X hM rfl zc_6 ca (c_X6_at ho) gX2_readValue_X6_at rfl ⟨rfl, rfl⟩ hd_X6_at ⟨Nat.le_of_ble_eq_true rfl, Nat.le_of_ble_eq_true rfl⟩ rfl hl.1 rfl ⟨Nat.sub_le _ _, Nat.sub_le _ _⟩ (Nat.le_of_ble_eq_true rfl) dX2_readValue_116 (fun H locs hM => ?_)
        clear ho
        refine lv_istore_n (lv' := [(1, .int o9.1), (0, .ref (zh y x0))]) hx hb dX2_readValue_119 rfl hl (by decide) rfl (fun ls hl => ?_)
        refine lv_iload_n hx hb dX2_readValue_120 rfl (lv_at hl 0 rfl) ?_
        refine lv_bipush (v := (34 : Int32)) hx hb dX2_readValue_121 (by decide) ?_
        refine lv_icmp_eq (tgt := 142) hx hb dX2_readValue_123 (by decide) (fun cc1 => ?_) (fun cc1 => ?_)
        · replace hf := m_ifPT hf cc1
          exact w_X2_readValue_142 (x0 := x0) (x1 := o9.1) X hret hself48 hf hCT hM (lv_sub hl [1, 0] rfl)
        · replace hf := m_ifPF hf cc1
          refine lv_iload_n hx hb dX2_readValue_126 rfl (lv_at hl 0 rfl) ?_
          refine lv_bipush (v := (92 : Int32)) hx hb dX2_readValue_127 (by decide) ?_
          refine lv_icmp_eq (tgt := 142) hx hb dX2_readValue_129 (by decide) (fun cc1 => ?_) (fun cc1 => ?_)
          · replace hf := m_ifPT hf cc1
            exact w_X2_readValue_142 (x0 := x0) (x1 := o9.1) X hret hself48 hf hCT hM (lv_sub hl [1, 0] rfl)
          · replace hf := m_ifPF hf cc1
            refine lv_aload_n hx hb dX2_readValue_132 rfl (lv_at hl 1 rfl) ?_
            refine lv_iconst (v := (1 : Int32)) hx hb dX2_readValue_133 (by decide) ?_
            refine lv_aload_n hx hb dX2_readValue_134 rfl (lv_at hl 1 rfl) ?_
            obtain ⟨ca, hf⟩ := m_chkPE hf
            replace ca := z_in hM (by decide) ca
            refine z_get (k := 2) (j := 4) (C := RX2) (T := TX2) (N := 12) (fl := zf_2) (v := .int (zI o9.2 4 x0)) X hw_X2_readValue_2 hM rfl zc_2 ca (by decide) fl_X2_readValue_2_4 rfl dX2_readValue_135 ?_
            clear ca
            obtain ⟨ca, hf⟩ := m_chkPE hf
            replace ca := z_in hM (by decide) ca
            obtain ⟨o10, ho, hf⟩ := m_calPE hf
            refine z_gcallVi (k := 2) (C := RX2) (T := TX2) (N := 12) (fl := zf_2) X hM rfl zc_2 ca (c_X2_refuse ho) gX2_readValue_X2_refuse rfl ⟨rfl, rfl⟩ hd_X2_refuse ⟨Nat.le_of_ble_eq_true rfl, Nat.le_of_ble_eq_true rfl⟩ rfl hl.1 rfl ⟨Nat.sub_le _ _, Nat.sub_le _ _⟩ (Nat.le_of_ble_eq_true rfl) dX2_readValue_138 (fun H locs hM => ?_)
            clear ho
            obtain ⟨cd, hf⟩ := m_chkPE hf
            exact hret _ _ _ _ H locs _ ls hf hM (m_nb cd) dX2_readValue_141
    · replace hf := m_ifPT hf cc1
      refine lv_aload_n hx hb dX2_readValue_80 rfl (lv_at hl 1 rfl) ?_
      refine lv_dup hx hb dX2_readValue_81 rfl ?_
      obtain ⟨ca, hf⟩ := m_chkPE hf
      replace ca := z_in hM (by decide) ca
      refine z_get (k := 2) (j := 4) (C := RX2) (T := TX2) (N := 12) (fl := zf_2) (v := .int (zI o5.2 4 x0)) X hw_X2_readValue_2 hM rfl zc_2 ca (by decide) fl_X2_readValue_2_4 rfl dX2_readValue_82 ?_
      clear ca
      refine lv_iconst (v := (1 : Int32)) hx hb dX2_readValue_85 (by decide) ?_
      refine lv_iadd hx hb dX2_readValue_86 ?_
      obtain ⟨v11, ev, hf⟩ := m_bndPE hf
      refine m_top ev ?_
      clear ev
      obtain ⟨ca, hf⟩ := m_chkPE hf
      replace ca := z_in hM (by decide) ca
      refine z_putI (k := 2) (j := 4) (C := RX2) (T := TX2) (N := 12) (fl := zf_2) (ty := .int) X hw_X2_readValue_2 tyX2_ok nmX2 hM rfl zc_2 ca (by decide) fl_X2_readValue_2_4 rfl (tyX2_ok 4 (by decide)) rfl rfl zi_2_4 (Nat.le_of_ble_eq_true rfl) dX2_readValue_87 (fun H locs hM => ?_)
      clear ca
      obtain ⟨S12, ev, hf⟩ := m_bndPE hf
      replace hM := z_hS hM ev
      clear ev
      refine lv_iconst (v := (1 : Int32)) hx hb dX2_readValue_90 (by decide) ?_
      obtain ⟨cd, hf⟩ := m_chkPE hf
      exact hret _ _ _ _ H locs _ ls hf hM (m_nb cd) dX2_readValue_91
noncomputable def g_X2_readValue_48 (Pw : Int32 → ZS → Prop) : Nat → Nat → ZS → Nat → Nat → Prop
  | 0 => fun _ _ _ _ => False
  | n + 1 => g_X2_readValue_48s Pw (g_X2_readValue_48 Pw n)
theorem w_X2_readValue_48 {p : Program} {l : Launch} {e : Env} {s : State} {m : MethodId} {args : Array Value} {below : List Frame} {meth : Method} {c : Code} {Q : State → Prop} {D : va_G} {y : Nat → ClassId} {A0 : Nat → Prop} {kc kt : Nat} {Pw : Int32 → ZS → Prop} (X : CallFix p m c cX2_readValue 2 s args wsX2_readValue RX2) (hret : zQi p l e ({ frames := 2, cells := kc, slots := kt, locals := 82 } : Room) s m args below meth c Q cX2_readValue D y A0 .boolean Pw) (n : Nat) : ∀ (x0 : Nat) (S : ZS) (C T : Nat) (H : Heap) (locs : List Loc) (ls : Array Slot), g_X2_readValue_48 Pw n x0 S C T → C ≤ kc ∧ T ≤ kt → zH D y A0 s H locs S → lv_has ls 2 [(0, .ref (zh y x0))] → W p l e ({ frames := 2, cells := kc, slots := kt, locals := 82 } : Room) s m args below meth c H locs (kc - C) (kt - T) Q (F0 m 48 ls []) := by
  induction n with
  | zero => intro x0 S C T H locs ls hf; exact absurd hf id
  | succ n ih => intro x0 S C T H locs ls hf hCT hM hl; exact ws_X2_readValue_48 X hret (self48 := g_X2_readValue_48 Pw n) ih hf hCT hM hl
noncomputable def g_X2_readValue_0 (Pw : Int32 → ZS → Prop) (x0 : Nat) (S : ZS) (C T : Nat) : Prop :=
  m_chkQ (zK S x0 = 2) (
  m_calP (f_X2_skipBlanks x0 S) (fun o1 =>
  m_chkQ (zK o1.2 x0 = 2) (
  m_calP (zP o1.2 2 x0) (fun b2 =>
  m_chkQ (zK o1.2 x0 = 2) (
  m_chkQ (zK o1.2 b2 = 6) (
  m_calP (f_X6_at b2 (zI o1.2 4 x0) o1.2) (fun o3 =>
  m_ifQ (o3.1 = (34 : Int32)) (
  m_chkQ (zK o3.2 x0 = 2) (
  m_calP (zP o3.2 7 x0) (fun b4 =>
  m_chkQ (zK o3.2 b4 = 6) (
  m_calP (f_X6_keep b4 (0 : Int32) o3.2) (fun o5 =>
  m_chkQ (zK o5.2 x0 = 2) (
  m_bndP ((zI o5.2 4 x0) + (1 : Int32)) (fun v6 =>
  m_chkQ (zK o5.2 x0 = 2) (
  m_bndP (zsI o5.2 4 x0 v6) (fun S7 =>
  g_X2_readValue_48 Pw mFuel x0 S7 (C) (T)))))))))
  ) (
  m_chkQ (zK o3.2 x0 = 2) (
  m_chkQ (zK o3.2 x0 = 2) (
  m_calP (f_X2_refuse x0 (1 : Int32) (zI o3.2 4 x0) o3.2) (fun o8 =>
  m_chkQ (vp_nar .boolean o8.1 = o8.1) (Pw o8.1 o8.2))))
  ))))))))

set_option maxRecDepth 100000 in
set_option maxHeartbeats 4000000 in
theorem w_X2_readValue_0 {p : Program} {l : Launch} {e : Env} {s : State} {m : MethodId} {args : Array Value} {below : List Frame} {meth : Method} {c : Code} {Q : State → Prop} {D : va_G} {y : Nat → ClassId} {A0 : Nat → Prop} {kc kt : Nat} {Pw : Int32 → ZS → Prop} (X : CallFix p m c cX2_readValue 2 s args wsX2_readValue RX2) (hret : zQi p l e ({ frames := 2, cells := kc, slots := kt, locals := 82 } : Room) s m args below meth c Q cX2_readValue D y A0 .boolean Pw) {x0 : Nat} {S : ZS} {C T : Nat} {H : Heap} {locs : List Loc} {ls : Array Slot} (hf : g_X2_readValue_0 Pw x0 S C T) (hCT : C ≤ kc ∧ T ≤ kt) (hM : zH D y A0 s H locs S) (hl : lv_has ls 2 [(0, .ref (zh y x0))]) : W p l e ({ frames := 2, cells := kc, slots := kt, locals := 82 } : Room) s m args below meth c H locs (kc - C) (kt - T) Q (F0 m 0 ls []) := by
  obtain ⟨hx, hb, hml, hown, hts⟩ := id X
  unfold g_X2_readValue_0 at hf
  refine lv_aload_n hx hb dX2_readValue_0 rfl (lv_at hl 0 rfl) ?_
  obtain ⟨ca, hf⟩ := m_chkPE hf
  replace ca := z_in hM (by decide) ca
  obtain ⟨o1, ho, hf⟩ := m_calPE hf
  refine z_gcallVv (k := 2) (C := RX2) (T := TX2) (N := 12) (fl := zf_2) X hM rfl zc_2 ca (c_X2_skipBlanks ho) gX2_readValue_X2_skipBlanks rfl ⟨rfl, rfl⟩ hd_X2_skipBlanks ⟨Nat.le_of_ble_eq_true rfl, Nat.le_of_ble_eq_true rfl⟩ rfl hl.1 rfl ⟨Nat.sub_le _ _, Nat.sub_le _ _⟩ (Nat.le_of_ble_eq_true rfl) dX2_readValue_1 (fun H locs hM => ?_)
  clear ho
  refine lv_aload_n hx hb dX2_readValue_4 rfl (lv_at hl 0 rfl) ?_
  obtain ⟨ca, hf⟩ := m_chkPE hf
  replace ca := z_in hM (by decide) ca
  refine z_get (k := 2) (j := 2) (C := RX2) (T := TX2) (N := 12) (fl := zf_2) (v := va_rf ((zP o1.2 2 x0).map (zh y))) X hw_X2_readValue_2 hM rfl zc_2 ca (by decide) fl_X2_readValue_2_2 rfl dX2_readValue_5 ?_
  clear ca
  obtain ⟨b2, hb9, hf⟩ := m_calPE hf
  refine z_topr hb9 ?_
  clear hb9
  refine lv_aload_n hx hb dX2_readValue_8 rfl (lv_at hl 0 rfl) ?_
  obtain ⟨ca, hf⟩ := m_chkPE hf
  replace ca := z_in hM (by decide) ca
  refine z_get (k := 2) (j := 4) (C := RX2) (T := TX2) (N := 12) (fl := zf_2) (v := .int (zI o1.2 4 x0)) X hw_X2_readValue_2 hM rfl zc_2 ca (by decide) fl_X2_readValue_2_4 rfl dX2_readValue_9 ?_
  clear ca
  obtain ⟨ca, hf⟩ := m_chkPE hf
  replace ca := z_in hM (by decide) ca
  obtain ⟨o3, ho, hf⟩ := m_calPE hf
  refine z_gcallVi (k := 6) (C := RX6) (T := TX6) (N := 2) (fl := zf_6) X hM rfl zc_6 ca (c_X6_at ho) gX2_readValue_X6_at rfl ⟨rfl, rfl⟩ hd_X6_at ⟨Nat.le_of_ble_eq_true rfl, Nat.le_of_ble_eq_true rfl⟩ rfl hl.1 rfl ⟨Nat.sub_le _ _, Nat.sub_le _ _⟩ (Nat.le_of_ble_eq_true rfl) dX2_readValue_12 (fun H locs hM => ?_)
  clear ho
  refine lv_bipush (v := (34 : Int32)) hx hb dX2_readValue_15 (by decide) ?_
  refine lv_icmp_eq (tgt := 30) hx hb dX2_readValue_17 (by decide) (fun cc1 => ?_) (fun cc1 => ?_)
  · replace hf := m_ifPT hf cc1
    refine lv_aload_n hx hb dX2_readValue_30 rfl (lv_at hl 0 rfl) ?_
    obtain ⟨ca, hf⟩ := m_chkPE hf
    replace ca := z_in hM (by decide) ca
    refine z_get (k := 2) (j := 7) (C := RX2) (T := TX2) (N := 12) (fl := zf_2) (v := va_rf ((zP o3.2 7 x0).map (zh y))) X hw_X2_readValue_2 hM rfl zc_2 ca (by decide) fl_X2_readValue_2_7 rfl dX2_readValue_31 ?_
    clear ca
    obtain ⟨b4, hb9, hf⟩ := m_calPE hf
    refine z_topr hb9 ?_
    clear hb9
    refine lv_iconst (v := (0 : Int32)) hx hb dX2_readValue_34 (by decide) ?_
    obtain ⟨ca, hf⟩ := m_chkPE hf
    replace ca := z_in hM (by decide) ca
    obtain ⟨o5, ho, hf⟩ := m_calPE hf
    refine z_gcallVv (k := 6) (C := RX6) (T := TX6) (N := 2) (fl := zf_6) X hM rfl zc_6 ca (c_X6_keep ho) gX2_readValue_X6_keep rfl ⟨rfl, rfl⟩ hd_X6_keep ⟨Nat.le_of_ble_eq_true rfl, Nat.le_of_ble_eq_true rfl⟩ rfl hl.1 rfl ⟨Nat.sub_le _ _, Nat.sub_le _ _⟩ (Nat.le_of_ble_eq_true rfl) dX2_readValue_35 (fun H locs hM => ?_)
    clear ho
    refine lv_aload_n hx hb dX2_readValue_38 rfl (lv_at hl 0 rfl) ?_
    refine lv_dup hx hb dX2_readValue_39 rfl ?_
    obtain ⟨ca, hf⟩ := m_chkPE hf
    replace ca := z_in hM (by decide) ca
    refine z_get (k := 2) (j := 4) (C := RX2) (T := TX2) (N := 12) (fl := zf_2) (v := .int (zI o5.2 4 x0)) X hw_X2_readValue_2 hM rfl zc_2 ca (by decide) fl_X2_readValue_2_4 rfl dX2_readValue_40 ?_
    clear ca
    refine lv_iconst (v := (1 : Int32)) hx hb dX2_readValue_43 (by decide) ?_
    refine lv_iadd hx hb dX2_readValue_44 ?_
    obtain ⟨v6, ev, hf⟩ := m_bndPE hf
    refine m_top ev ?_
    clear ev
    obtain ⟨ca, hf⟩ := m_chkPE hf
    replace ca := z_in hM (by decide) ca
    refine z_putI (k := 2) (j := 4) (C := RX2) (T := TX2) (N := 12) (fl := zf_2) (ty := .int) X hw_X2_readValue_2 tyX2_ok nmX2 hM rfl zc_2 ca (by decide) fl_X2_readValue_2_4 rfl (tyX2_ok 4 (by decide)) rfl rfl zi_2_4 (Nat.le_of_ble_eq_true rfl) dX2_readValue_45 (fun H locs hM => ?_)
    clear ca
    obtain ⟨S7, ev, hf⟩ := m_bndPE hf
    replace hM := z_hS hM ev
    clear ev
    exact w_X2_readValue_48 X hret _ x0 _ _ _ _ _ _ hf hCT hM (lv_sub hl [0] rfl)
  · replace hf := m_ifPF hf cc1
    refine lv_aload_n hx hb dX2_readValue_20 rfl (lv_at hl 0 rfl) ?_
    refine lv_iconst (v := (1 : Int32)) hx hb dX2_readValue_21 (by decide) ?_
    refine lv_aload_n hx hb dX2_readValue_22 rfl (lv_at hl 0 rfl) ?_
    obtain ⟨ca, hf⟩ := m_chkPE hf
    replace ca := z_in hM (by decide) ca
    refine z_get (k := 2) (j := 4) (C := RX2) (T := TX2) (N := 12) (fl := zf_2) (v := .int (zI o3.2 4 x0)) X hw_X2_readValue_2 hM rfl zc_2 ca (by decide) fl_X2_readValue_2_4 rfl dX2_readValue_23 ?_
    clear ca
    obtain ⟨ca, hf⟩ := m_chkPE hf
    replace ca := z_in hM (by decide) ca
    obtain ⟨o8, ho, hf⟩ := m_calPE hf
    refine z_gcallVi (k := 2) (C := RX2) (T := TX2) (N := 12) (fl := zf_2) X hM rfl zc_2 ca (c_X2_refuse ho) gX2_readValue_X2_refuse rfl ⟨rfl, rfl⟩ hd_X2_refuse ⟨Nat.le_of_ble_eq_true rfl, Nat.le_of_ble_eq_true rfl⟩ rfl hl.1 rfl ⟨Nat.sub_le _ _, Nat.sub_le _ _⟩ (Nat.le_of_ble_eq_true rfl) dX2_readValue_26 (fun H locs hM => ?_)
    clear ho
    obtain ⟨cd, hf⟩ := m_chkPE hf
    exact hret _ _ _ _ H locs _ ls hf hM (m_nb cd) dX2_readValue_29
noncomputable def g_X2_readValue (x0 : Nat) (S : ZS) (mc ms : Nat) (Pw : Int32 → ZS → Prop) : Prop := g_X2_readValue_0 Pw x0 S mc ms
theorem c_X2_readValue {l : Launch} {D : va_G} {y : Nat → ClassId} {x0 : Nat} {S : ZS} {kc kt : Nat} {Pw : Int32 → ZS → Prop} (hf : g_X2_readValue x0 S kc kt Pw) : zWi l yX2_readValue wsX2_readValue ({ frames := 2, cells := kc, slots := kt, locals := 82 } : Room) [.ref (zh y x0)] D y S kc kt Pw :=
  z_wentI (own := RX2) (cc := cX2_readValue) (maxL := 2) (by decide) rfl rfl (Nat.le_of_ble_eq_true rfl) ⟨rfl, rfl⟩ (fun p e s m args below meth c A0 Q H locs ls X hret hM hl => w_X2_readValue_0 X hret hf ⟨Nat.le_refl _, Nat.le_refl _⟩ hM (lv_sub hl [0] rfl))
theorem hd_X5_skip : yX5_skip.cls = RX5 ∧ yX5_skip.cls ≠ "java/lang/invoke/MethodHandle" ∧ yX5_skip.cls ≠ "java/lang/invoke/VarHandle" ∧ (parseMethodDescriptor yX5_skip.desc).map (fun d => d.parameters.length) = some 1 := by decide +kernel
theorem fl_X5_skip_5_0 : Cond.fieldLink RX5 12 "MoveTexts$PositionReader" "text" "LMoveTexts$Row;" ∈ wsX5_skip := by decide +kernel
theorem fl_X5_skip_5_1 : Cond.fieldLink RX5 18 "MoveTexts$PositionReader" "at" "I" ∈ wsX5_skip := by decide +kernel
theorem hw_X5_skip_5 : ∀ w ∈ wsX50, w ∈ wsX5_skip := by decide +kernel
noncomputable def f_X5_skip_0 (x0 : Nat) (x1 : Int32) (S : ZS) : Option (Int32 × ZS) :=
  m_chk (zK S x0 = 5) (
  m_cal (zP S 0 x0) (fun b1 =>
  m_chk (zK S x0 = 5) (
  m_chk (zK S b1 = 6) (
  m_cal (f_X6_at b1 (zI S 1 x0) S) (fun o2 =>
  m_if (o2.1 = x1) (
  m_chk (zK o2.2 x0 = 5) (
  m_bnd ((zI o2.2 1 x0) + (1 : Int32)) (fun v3 =>
  m_chk (zK o2.2 x0 = 5) (
  m_bnd (zsI o2.2 1 x0 v3) (fun S4 =>
  m_chk (vp_nar .boolean (1 : Int32) = (1 : Int32)) (some ((1 : Int32), S4))))))
  ) (
  m_chk (vp_nar .boolean (0 : Int32) = (0 : Int32)) (some ((0 : Int32), o2.2))
  ))))))

set_option maxRecDepth 100000 in
set_option maxHeartbeats 4000000 in
theorem w_X5_skip_0 {p : Program} {l : Launch} {e : Env} {s : State} {m : MethodId} {args : Array Value} {below : List Frame} {meth : Method} {c : Code} {Q : State → Prop} {D : va_G} {y : Nat → ClassId} {A0 : Nat → Prop} {o : Int32 × ZS} (X : CallFix p m c cX5_skip 2 s args wsX5_skip RX5) (hret : zRi p l e ({ frames := 1, cells := 0, slots := 0, locals := 21 } : Room) s m args below meth c Q cX5_skip D y A0 .boolean o) {x0 : Nat} {x1 : Int32} {S : ZS} {H : Heap} {locs : List Loc} {ls : Array Slot} (hf : f_X5_skip_0 x0 x1 S = some o) (hM : zH D y A0 s H locs S) (hl : lv_has ls 2 [(0, .ref (zh y x0)), (1, .int x1)]) : W p l e ({ frames := 1, cells := 0, slots := 0, locals := 21 } : Room) s m args below meth c H locs 0 0 Q (F0 m 0 ls []) := by
  obtain ⟨hx, hb, hml, hown, hts⟩ := id X
  unfold f_X5_skip_0 at hf
  refine lv_aload_n hx hb dX5_skip_0 rfl (lv_at hl 0 rfl) ?_
  obtain ⟨ca, hf⟩ := m_chkE hf
  replace ca := z_in hM (by decide) ca
  refine z_get (k := 5) (j := 0) (C := RX5) (T := TX5) (N := 2) (fl := zf_5) (v := va_rf ((zP S 0 x0).map (zh y))) X hw_X5_skip_5 hM rfl zc_5 ca (by decide) fl_X5_skip_5_0 rfl dX5_skip_1 ?_
  clear ca
  obtain ⟨b1, hb9, hf⟩ := m_calE hf
  refine z_topr hb9 ?_
  clear hb9
  refine lv_aload_n hx hb dX5_skip_4 rfl (lv_at hl 0 rfl) ?_
  obtain ⟨ca, hf⟩ := m_chkE hf
  replace ca := z_in hM (by decide) ca
  refine z_get (k := 5) (j := 1) (C := RX5) (T := TX5) (N := 2) (fl := zf_5) (v := .int (zI S 1 x0)) X hw_X5_skip_5 hM rfl zc_5 ca (by decide) fl_X5_skip_5_1 rfl dX5_skip_5 ?_
  clear ca
  obtain ⟨ca, hf⟩ := m_chkE hf
  replace ca := z_in hM (by decide) ca
  obtain ⟨o2, ho, hf⟩ := m_calE hf
  refine z_callVi (k := 6) (C := RX6) (T := TX6) (N := 2) (fl := zf_6) X hM rfl zc_6 ca (c_X6_at ho) gX5_skip_X6_at rfl ⟨rfl, rfl⟩ hd_X6_at ⟨Nat.le_of_ble_eq_true rfl, Nat.le_of_ble_eq_true rfl⟩ rfl hl.1 rfl (Nat.le_of_ble_eq_true rfl) dX5_skip_8 (fun H locs hM => ?_)
  clear ho
  refine lv_iload_n hx hb dX5_skip_11 rfl (lv_at hl 1 rfl) ?_
  refine lv_icmp_eq (tgt := 17) hx hb dX5_skip_12 (by decide) (fun cc1 => ?_) (fun cc1 => ?_)
  · replace hf := m_ifT hf cc1
    refine lv_aload_n hx hb dX5_skip_17 rfl (lv_at hl 0 rfl) ?_
    refine lv_dup hx hb dX5_skip_18 rfl ?_
    obtain ⟨ca, hf⟩ := m_chkE hf
    replace ca := z_in hM (by decide) ca
    refine z_get (k := 5) (j := 1) (C := RX5) (T := TX5) (N := 2) (fl := zf_5) (v := .int (zI o2.2 1 x0)) X hw_X5_skip_5 hM rfl zc_5 ca (by decide) fl_X5_skip_5_1 rfl dX5_skip_19 ?_
    clear ca
    refine lv_iconst (v := (1 : Int32)) hx hb dX5_skip_22 (by decide) ?_
    refine lv_iadd hx hb dX5_skip_23 ?_
    obtain ⟨v3, ev, hf⟩ := m_bndE hf
    refine m_top ev ?_
    clear ev
    obtain ⟨ca, hf⟩ := m_chkE hf
    replace ca := z_in hM (by decide) ca
    refine z_putI (k := 5) (j := 1) (C := RX5) (T := TX5) (N := 2) (fl := zf_5) (ty := .int) X hw_X5_skip_5 tyX5_ok nmX5 hM rfl zc_5 ca (by decide) fl_X5_skip_5_1 rfl (tyX5_ok 1 (by decide)) rfl rfl zi_5_1 (Nat.le_of_ble_eq_true rfl) dX5_skip_24 (fun H locs hM => ?_)
    clear ca
    obtain ⟨S4, ev, hf⟩ := m_bndE hf
    replace hM := z_hS hM ev
    clear ev
    refine lv_iconst (v := (1 : Int32)) hx hb dX5_skip_27 (by decide) ?_
    obtain ⟨cd, hf⟩ := m_chkE hf
    cases hf
    exact hret H locs _ ls hM (m_nb cd) dX5_skip_28
  · replace hf := m_ifF hf cc1
    refine lv_iconst (v := (0 : Int32)) hx hb dX5_skip_15 (by decide) ?_
    obtain ⟨cd, hf⟩ := m_chkE hf
    cases hf
    exact hret H locs _ ls hM (m_nb cd) dX5_skip_16
noncomputable def f_X5_skip (x0 : Nat) (x1 : Int32) (S : ZS) : Option (Int32 × ZS) := f_X5_skip_0 x0 x1 S
theorem c_X5_skip {l : Launch} {D : va_G} {y : Nat → ClassId} {x0 : Nat} {x1 : Int32} {S : ZS} {o : Int32 × ZS} (hf : f_X5_skip x0 x1 S = some o) : zMi l yX5_skip wsX5_skip ({ frames := 1, cells := 0, slots := 0, locals := 21 } : Room) [.ref (zh y x0), .int x1] D y S o :=
  z_entryI (own := RX5) (cc := cX5_skip) (maxL := 2) (by decide) rfl rfl (Nat.le_of_ble_eq_true rfl) (fun p e s m args below meth c A0 Q H locs ls X hret hM hl => w_X5_skip_0 X hret hf hM (lv_sub hl [0, 1] rfl))
theorem hd_X11_isRank : yX11_isRank.cls ≠ "java/lang/invoke/MethodHandle" ∧ yX11_isRank.cls ≠ "java/lang/invoke/VarHandle" ∧ (parseMethodDescriptor yX11_isRank.desc).map (fun d => d.parameters.length) = some 1 := by decide +kernel
noncomputable def f_X11_isRank_17 (t0 : Int32) (S : ZS) : Option (Int32 × ZS) :=
  m_chk (vp_nar .boolean t0 = t0) (some (t0, S))

set_option maxRecDepth 100000 in
set_option maxHeartbeats 4000000 in
theorem w_X11_isRank_17 {p : Program} {l : Launch} {e : Env} {s : State} {m : MethodId} {args : Array Value} {below : List Frame} {meth : Method} {c : Code} {Q : State → Prop} {D : va_G} {y : Nat → ClassId} {A0 : Nat → Prop} {o : Int32 × ZS} (X : CallFix p m c cX11_isRank 1 s args wsX11_isRank RX11) (hret : zRi p l e ({ frames := 0, cells := 0, slots := 0, locals := 0 } : Room) s m args below meth c Q cX11_isRank D y A0 .boolean o) {t0 : Int32} {S : ZS} {H : Heap} {locs : List Loc} {ls : Array Slot} (hf : f_X11_isRank_17 t0 S = some o) (hM : zH D y A0 s H locs S) (hl : lv_has ls 1 []) : W p l e ({ frames := 0, cells := 0, slots := 0, locals := 0 } : Room) s m args below meth c H locs 0 0 Q (F0 m 17 ls [.int t0]) := by
  obtain ⟨hx, hb, hml, hown, hts⟩ := id X
  unfold f_X11_isRank_17 at hf
  obtain ⟨cd, hf⟩ := m_chkE hf
  cases hf
  exact hret H locs _ ls hM (m_nb cd) dX11_isRank_17
noncomputable def f_X11_isRank_16 (S : ZS) : Option (Int32 × ZS) :=
  f_X11_isRank_17 (0 : Int32) S

set_option maxRecDepth 100000 in
set_option maxHeartbeats 4000000 in
theorem w_X11_isRank_16 {p : Program} {l : Launch} {e : Env} {s : State} {m : MethodId} {args : Array Value} {below : List Frame} {meth : Method} {c : Code} {Q : State → Prop} {D : va_G} {y : Nat → ClassId} {A0 : Nat → Prop} {o : Int32 × ZS} (X : CallFix p m c cX11_isRank 1 s args wsX11_isRank RX11) (hret : zRi p l e ({ frames := 0, cells := 0, slots := 0, locals := 0 } : Room) s m args below meth c Q cX11_isRank D y A0 .boolean o) {S : ZS} {H : Heap} {locs : List Loc} {ls : Array Slot} (hf : f_X11_isRank_16  S = some o) (hM : zH D y A0 s H locs S) (hl : lv_has ls 1 []) : W p l e ({ frames := 0, cells := 0, slots := 0, locals := 0 } : Room) s m args below meth c H locs 0 0 Q (F0 m 16 ls []) := by
  obtain ⟨hx, hb, hml, hown, hts⟩ := id X
  unfold f_X11_isRank_16 at hf
  refine lv_iconst (v := (0 : Int32)) hx hb dX11_isRank_16 (by decide) ?_
  exact w_X11_isRank_17 (t0 := (0 : Int32)) X hret hf hM (lv_sub hl [] rfl)
noncomputable def f_X11_isRank_0 (x0 : Int32) (S : ZS) : Option (Int32 × ZS) :=
  m_if (x0 < (49 : Int32)) (
  f_X11_isRank_16  S
  ) (
  m_if ((56 : Int32) < x0) (
  f_X11_isRank_16  S
  ) (
  f_X11_isRank_17 (1 : Int32) S
  )
  )

set_option maxRecDepth 100000 in
set_option maxHeartbeats 4000000 in
theorem w_X11_isRank_0 {p : Program} {l : Launch} {e : Env} {s : State} {m : MethodId} {args : Array Value} {below : List Frame} {meth : Method} {c : Code} {Q : State → Prop} {D : va_G} {y : Nat → ClassId} {A0 : Nat → Prop} {o : Int32 × ZS} (X : CallFix p m c cX11_isRank 1 s args wsX11_isRank RX11) (hret : zRi p l e ({ frames := 0, cells := 0, slots := 0, locals := 0 } : Room) s m args below meth c Q cX11_isRank D y A0 .boolean o) {x0 : Int32} {S : ZS} {H : Heap} {locs : List Loc} {ls : Array Slot} (hf : f_X11_isRank_0 x0 S = some o) (hM : zH D y A0 s H locs S) (hl : lv_has ls 1 [(0, .int x0)]) : W p l e ({ frames := 0, cells := 0, slots := 0, locals := 0 } : Room) s m args below meth c H locs 0 0 Q (F0 m 0 ls []) := by
  obtain ⟨hx, hb, hml, hown, hts⟩ := id X
  unfold f_X11_isRank_0 at hf
  refine lv_iload_n hx hb dX11_isRank_0 rfl (lv_at hl 0 rfl) ?_
  refine lv_bipush (v := (49 : Int32)) hx hb dX11_isRank_1 (by decide) ?_
  refine lv_icmp_lt (tgt := 16) hx hb dX11_isRank_3 (by decide) (fun cc1 => ?_) (fun cc1 => ?_)
  · replace hf := m_ifT hf cc1
    exact w_X11_isRank_16 X hret hf hM (lv_sub hl [] rfl)
  · replace hf := m_ifF hf cc1
    refine lv_iload_n hx hb dX11_isRank_6 rfl (lv_at hl 0 rfl) ?_
    refine lv_bipush (v := (56 : Int32)) hx hb dX11_isRank_7 (by decide) ?_
    refine lv_icmp_gt (tgt := 16) hx hb dX11_isRank_9 (by decide) (fun cc1 => ?_) (fun cc1 => ?_)
    · replace hf := m_ifT hf cc1
      exact w_X11_isRank_16 X hret hf hM (lv_sub hl [] rfl)
    · replace hf := m_ifF hf cc1
      refine lv_iconst (v := (1 : Int32)) hx hb dX11_isRank_12 (by decide) ?_
      refine lv_goto (tgt := 17) hx hb dX11_isRank_13 (by decide) ?_
      exact w_X11_isRank_17 (t0 := (1 : Int32)) X hret hf hM (lv_sub hl [] rfl)
noncomputable def f_X11_isRank (x0 : Int32) (S : ZS) : Option (Int32 × ZS) := f_X11_isRank_0 x0 S
theorem c_X11_isRank {l : Launch} {D : va_G} {y : Nat → ClassId} {x0 : Int32} {S : ZS} {o : Int32 × ZS} (hf : f_X11_isRank x0 S = some o) : zMi l yX11_isRank wsX11_isRank ({ frames := 0, cells := 0, slots := 0, locals := 0 } : Room) [.int x0] D y S o :=
  z_entryI (own := RX11) (cc := cX11_isRank) (maxL := 1) (by decide) rfl rfl (Nat.le_of_ble_eq_true rfl) (fun p e s m args below meth c A0 Q H locs ls X hret hM hl => w_X11_isRank_0 X hret hf hM (lv_sub hl [0] rfl))
theorem hd_J1_canEncode_9a6ad : yJ1_canEncode_9a6ad.cls ≠ "java/lang/invoke/MethodHandle" ∧ yJ1_canEncode_9a6ad.cls ≠ "java/lang/invoke/VarHandle" ∧ (parseMethodDescriptor yJ1_canEncode_9a6ad.desc).map (fun d => d.parameters.length) = some 1 := by decide +kernel
noncomputable def f_J1_canEncode_9a6ad_16 (t0 : Int32) (S : ZS) : Option (Int32 × ZS) :=
  m_chk (vp_nar .boolean t0 = t0) (some (t0, S))

set_option maxRecDepth 100000 in
set_option maxHeartbeats 4000000 in
theorem w_J1_canEncode_9a6ad_16 {p : Program} {l : Launch} {e : Env} {s : State} {m : MethodId} {args : Array Value} {below : List Frame} {meth : Method} {c : Code} {Q : State → Prop} {D : va_G} {y : Nat → ClassId} {A0 : Nat → Prop} {o : Int32 × ZS} (X : CallFix p m c cJ1_canEncode_9a6ad 1 s args wsJ1_canEncode_9a6ad RJ1) (hret : zRi p l e ({ frames := 0, cells := 0, slots := 0, locals := 0 } : Room) s m args below meth c Q cJ1_canEncode_9a6ad D y A0 .boolean o) {t0 : Int32} {S : ZS} {H : Heap} {locs : List Loc} {ls : Array Slot} (hf : f_J1_canEncode_9a6ad_16 t0 S = some o) (hM : zH D y A0 s H locs S) (hl : lv_has ls 1 []) : W p l e ({ frames := 0, cells := 0, slots := 0, locals := 0 } : Room) s m args below meth c H locs 0 0 Q (F0 m 16 ls [.int t0]) := by
  obtain ⟨hx, hb, hml, hown, hts⟩ := id X
  unfold f_J1_canEncode_9a6ad_16 at hf
  obtain ⟨cd, hf⟩ := m_chkE hf
  cases hf
  exact hret H locs _ ls hM (m_nb cd) dJ1_canEncode_9a6ad_16
noncomputable def f_J1_canEncode_9a6ad_15 (S : ZS) : Option (Int32 × ZS) :=
  f_J1_canEncode_9a6ad_16 (0 : Int32) S

set_option maxRecDepth 100000 in
set_option maxHeartbeats 4000000 in
theorem w_J1_canEncode_9a6ad_15 {p : Program} {l : Launch} {e : Env} {s : State} {m : MethodId} {args : Array Value} {below : List Frame} {meth : Method} {c : Code} {Q : State → Prop} {D : va_G} {y : Nat → ClassId} {A0 : Nat → Prop} {o : Int32 × ZS} (X : CallFix p m c cJ1_canEncode_9a6ad 1 s args wsJ1_canEncode_9a6ad RJ1) (hret : zRi p l e ({ frames := 0, cells := 0, slots := 0, locals := 0 } : Room) s m args below meth c Q cJ1_canEncode_9a6ad D y A0 .boolean o) {S : ZS} {H : Heap} {locs : List Loc} {ls : Array Slot} (hf : f_J1_canEncode_9a6ad_15  S = some o) (hM : zH D y A0 s H locs S) (hl : lv_has ls 1 []) : W p l e ({ frames := 0, cells := 0, slots := 0, locals := 0 } : Room) s m args below meth c H locs 0 0 Q (F0 m 15 ls []) := by
  obtain ⟨hx, hb, hml, hown, hts⟩ := id X
  unfold f_J1_canEncode_9a6ad_15 at hf
  refine lv_iconst (v := (0 : Int32)) hx hb dJ1_canEncode_9a6ad_15 (by decide) ?_
  exact w_J1_canEncode_9a6ad_16 (t0 := (0 : Int32)) X hret hf hM (lv_sub hl [] rfl)
noncomputable def f_J1_canEncode_9a6ad_0 (x0 : Int32) (S : ZS) : Option (Int32 × ZS) :=
  m_if (x0 < 0) (
  f_J1_canEncode_9a6ad_15  S
  ) (
  m_if ((255 : Int32) < x0) (
  f_J1_canEncode_9a6ad_15  S
  ) (
  f_J1_canEncode_9a6ad_16 (1 : Int32) S
  )
  )

set_option maxRecDepth 100000 in
set_option maxHeartbeats 4000000 in
theorem w_J1_canEncode_9a6ad_0 {p : Program} {l : Launch} {e : Env} {s : State} {m : MethodId} {args : Array Value} {below : List Frame} {meth : Method} {c : Code} {Q : State → Prop} {D : va_G} {y : Nat → ClassId} {A0 : Nat → Prop} {o : Int32 × ZS} (X : CallFix p m c cJ1_canEncode_9a6ad 1 s args wsJ1_canEncode_9a6ad RJ1) (hret : zRi p l e ({ frames := 0, cells := 0, slots := 0, locals := 0 } : Room) s m args below meth c Q cJ1_canEncode_9a6ad D y A0 .boolean o) {x0 : Int32} {S : ZS} {H : Heap} {locs : List Loc} {ls : Array Slot} (hf : f_J1_canEncode_9a6ad_0 x0 S = some o) (hM : zH D y A0 s H locs S) (hl : lv_has ls 1 [(0, .int x0)]) : W p l e ({ frames := 0, cells := 0, slots := 0, locals := 0 } : Room) s m args below meth c H locs 0 0 Q (F0 m 0 ls []) := by
  obtain ⟨hx, hb, hml, hown, hts⟩ := id X
  unfold f_J1_canEncode_9a6ad_0 at hf
  refine lv_iload_n hx hb dJ1_canEncode_9a6ad_0 rfl (lv_at hl 0 rfl) ?_
  refine lv_if_lt (tgt := 15) hx hb dJ1_canEncode_9a6ad_1 (by decide) (fun cc1 => ?_) (fun cc1 => ?_)
  · replace hf := m_ifT hf cc1
    exact w_J1_canEncode_9a6ad_15 X hret hf hM (lv_sub hl [] rfl)
  · replace hf := m_ifF hf cc1
    refine lv_iload_n hx hb dJ1_canEncode_9a6ad_4 rfl (lv_at hl 0 rfl) ?_
    refine lv_sipush (v := (255 : Int32)) hx hb dJ1_canEncode_9a6ad_5 (by decide) ?_
    refine lv_icmp_gt (tgt := 15) hx hb dJ1_canEncode_9a6ad_8 (by decide) (fun cc1 => ?_) (fun cc1 => ?_)
    · replace hf := m_ifT hf cc1
      exact w_J1_canEncode_9a6ad_15 X hret hf hM (lv_sub hl [] rfl)
    · replace hf := m_ifF hf cc1
      refine lv_iconst (v := (1 : Int32)) hx hb dJ1_canEncode_9a6ad_11 (by decide) ?_
      refine lv_goto (tgt := 16) hx hb dJ1_canEncode_9a6ad_12 (by decide) ?_
      exact w_J1_canEncode_9a6ad_16 (t0 := (1 : Int32)) X hret hf hM (lv_sub hl [] rfl)
noncomputable def f_J1_canEncode_9a6ad (x0 : Int32) (S : ZS) : Option (Int32 × ZS) := f_J1_canEncode_9a6ad_0 x0 S
theorem c_J1_canEncode_9a6ad {l : Launch} {D : va_G} {y : Nat → ClassId} {x0 : Int32} {S : ZS} {o : Int32 × ZS} (hf : f_J1_canEncode_9a6ad x0 S = some o) : zMi l yJ1_canEncode_9a6ad wsJ1_canEncode_9a6ad ({ frames := 0, cells := 0, slots := 0, locals := 0 } : Room) [.int x0] D y S o :=
  z_entryI (own := RJ1) (cc := cJ1_canEncode_9a6ad) (maxL := 1) (by decide) rfl rfl (Nat.le_of_ble_eq_true rfl) (fun p e s m args below meth c A0 Q H locs ls X hret hM hl => w_J1_canEncode_9a6ad_0 X hret hf hM (lv_sub hl [0] rfl))
theorem hd_J1_indexOfChar_4cfef : yJ1_indexOfChar_4cfef.cls ≠ "java/lang/invoke/MethodHandle" ∧ yJ1_indexOfChar_4cfef.cls ≠ "java/lang/invoke/VarHandle" ∧ (parseMethodDescriptor yJ1_indexOfChar_4cfef.desc).map (fun d => d.parameters.length) = some 4 := by decide +kernel
noncomputable def f_J1_indexOfChar_4cfef_7s (self7 : Nat → Int32 → Int32 → Int32 → ZS → Option (Int32 × ZS)) (x0 : Nat) (x3 : Int32) (x4 : Int32) (x5 : Int32) (S : ZS) : Option (Int32 × ZS) :=
  m_if (x3 ≤ x5) (
  some ((-1 : Int32), S)
  ) (
  m_chk (x0 < zSn) (
  m_chk (¬ (x5 < 0 ∨ zSl.getD x0 0 ≤ (x5).toNatClampNeg)) (
  m_bnd ((zSb.getD x0 []).getD (x5).toNatClampNeg 0) (fun v1 =>
  m_if (v1 = x4) (
  some (x5, S)
  ) (
  m_bnd (x5 + (1 : Int32)) (fun v2 =>
  self7 x0 x3 x4 v2 S)
  ))))
  )

set_option maxRecDepth 100000 in
set_option maxHeartbeats 4000000 in
theorem ws_J1_indexOfChar_4cfef_7 {p : Program} {l : Launch} {e : Env} {s : State} {m : MethodId} {args : Array Value} {below : List Frame} {meth : Method} {c : Code} {Q : State → Prop} {D : va_G} {y : Nat → ClassId} {A0 : Nat → Prop} {o : Int32 × ZS} (X : CallFix p m c cJ1_indexOfChar_4cfef 6 s args wsJ1_indexOfChar_4cfef RJ1) (hret : zRi p l e ({ frames := 0, cells := 0, slots := 0, locals := 0 } : Room) s m args below meth c Q cJ1_indexOfChar_4cfef D y A0 .int o) {self7 : Nat → Int32 → Int32 → Int32 → ZS → Option (Int32 × ZS)} (hself7 : ∀ (x0 : Nat) (x3 : Int32) (x4 : Int32) (x5 : Int32) (S : ZS) (H : Heap) (locs : List Loc) (ls : Array Slot), self7 x0 x3 x4 x5 S = some o → zH D y A0 s H locs S → lv_has ls 6 [(0, .ref (y (200 + x0))), (3, .int x3), (4, .int x4), (5, .int x5)] → W p l e ({ frames := 0, cells := 0, slots := 0, locals := 0 } : Room) s m args below meth c H locs 0 0 Q (F0 m 7 ls [])) {x0 : Nat} {x3 : Int32} {x4 : Int32} {x5 : Int32} {S : ZS} {H : Heap} {locs : List Loc} {ls : Array Slot} (hf : f_J1_indexOfChar_4cfef_7s self7 x0 x3 x4 x5 S = some o) (hM : zH D y A0 s H locs S) (hl : lv_has ls 6 [(0, .ref (y (200 + x0))), (3, .int x3), (4, .int x4), (5, .int x5)]) : W p l e ({ frames := 0, cells := 0, slots := 0, locals := 0 } : Room) s m args below meth c H locs 0 0 Q (F0 m 7 ls []) := by
  obtain ⟨hx, hb, hml, hown, hts⟩ := id X
  unfold f_J1_indexOfChar_4cfef_7s at hf
  refine lv_iload hx hb dJ1_indexOfChar_4cfef_7 (lv_at hl 3 rfl) ?_
  refine lv_iload_n hx hb dJ1_indexOfChar_4cfef_9 rfl (lv_at hl 1 rfl) ?_
  refine lv_icmp_ge (tgt := 31) hx hb dJ1_indexOfChar_4cfef_10 (by decide) (fun cc1 => ?_) (fun cc1 => ?_)
  · replace hf := m_ifT hf cc1
    refine lv_iconst (v := (-1 : Int32)) hx hb dJ1_indexOfChar_4cfef_31 (by decide) ?_
    cases hf
    exact hret H locs _ ls hM rfl dJ1_indexOfChar_4cfef_32
  · replace hf := m_ifF hf cc1
    refine lv_aload_n hx hb dJ1_indexOfChar_4cfef_13 rfl (lv_at hl 0 rfl) ?_
    refine lv_iload hx hb dJ1_indexOfChar_4cfef_14 (lv_at hl 3 rfl) ?_
    obtain ⟨ca, hf⟩ := m_chkE hf
    obtain ⟨cd, hf⟩ := m_chkE hf
    refine z_sbyt X hM ca cd dJ1_indexOfChar_4cfef_16 ?_
    clear ca cd
    obtain ⟨v1, ev, hf⟩ := m_bndE hf
    refine m_top ev ?_
    clear ev
    refine lv_iload hx hb dJ1_indexOfChar_4cfef_17 (lv_at hl 2 rfl) ?_
    refine lv_icmp_ne (tgt := 25) hx hb dJ1_indexOfChar_4cfef_19 (by decide) (fun cc1 => ?_) (fun cc1 => ?_)
    · replace hf := m_ifF hf cc1
      obtain ⟨v2, ev, hf⟩ := m_bndE hf
      refine lv_iinc (v := v2) (lv' := [(5, .int v2), (0, .ref (y (200 + x0))), (3, .int x3), (4, .int x4)]) hx hb dJ1_indexOfChar_4cfef_25 hl (k := 3) rfl (by rw [ev]; rfl) (by decide) rfl (fun ls hl => ?_)
      clear ev
      refine lv_goto (tgt := 7) hx hb dJ1_indexOfChar_4cfef_28 (by decide) ?_
      exact hself7 x0 x3 x4 v2 _ _ _ _ hf hM (lv_sub hl [1, 2, 3, 0] rfl)
    · replace hf := m_ifT hf cc1
      refine lv_iload hx hb dJ1_indexOfChar_4cfef_22 (lv_at hl 3 rfl) ?_
      cases hf
      exact hret H locs _ ls hM rfl dJ1_indexOfChar_4cfef_24
noncomputable def f_J1_indexOfChar_4cfef_7 : Nat → Nat → Int32 → Int32 → Int32 → ZS → Option (Int32 × ZS)
  | 0 => fun _ _ _ _ _ => none
  | n + 1 => f_J1_indexOfChar_4cfef_7s (f_J1_indexOfChar_4cfef_7 n)
theorem w_J1_indexOfChar_4cfef_7 {p : Program} {l : Launch} {e : Env} {s : State} {m : MethodId} {args : Array Value} {below : List Frame} {meth : Method} {c : Code} {Q : State → Prop} {D : va_G} {y : Nat → ClassId} {A0 : Nat → Prop} {o : Int32 × ZS} (X : CallFix p m c cJ1_indexOfChar_4cfef 6 s args wsJ1_indexOfChar_4cfef RJ1) (hret : zRi p l e ({ frames := 0, cells := 0, slots := 0, locals := 0 } : Room) s m args below meth c Q cJ1_indexOfChar_4cfef D y A0 .int o) (n : Nat) : ∀ (x0 : Nat) (x3 : Int32) (x4 : Int32) (x5 : Int32) (S : ZS) (H : Heap) (locs : List Loc) (ls : Array Slot), f_J1_indexOfChar_4cfef_7 n x0 x3 x4 x5 S = some o → zH D y A0 s H locs S → lv_has ls 6 [(0, .ref (y (200 + x0))), (3, .int x3), (4, .int x4), (5, .int x5)] → W p l e ({ frames := 0, cells := 0, slots := 0, locals := 0 } : Room) s m args below meth c H locs 0 0 Q (F0 m 7 ls []) := by
  induction n with
  | zero => intro x0 x3 x4 x5 S H locs ls hf; cases hf
  | succ n ih => intro x0 x3 x4 x5 S H locs ls hf hM hl; exact ws_J1_indexOfChar_4cfef_7 X hret (self7 := f_J1_indexOfChar_4cfef_7 n) ih hf hM hl
noncomputable def f_J1_indexOfChar_4cfef_0 (x0 : Nat) (x1 : Int32) (x2 : Int32) (x3 : Int32) (S : ZS) : Option (Int32 × ZS) :=
  m_bnd ((x1).toInt8.toInt32) (fun v1 =>
  f_J1_indexOfChar_4cfef_7 mFuel x0 x3 v1 x2 S)

set_option maxRecDepth 100000 in
set_option maxHeartbeats 4000000 in
theorem w_J1_indexOfChar_4cfef_0 {p : Program} {l : Launch} {e : Env} {s : State} {m : MethodId} {args : Array Value} {below : List Frame} {meth : Method} {c : Code} {Q : State → Prop} {D : va_G} {y : Nat → ClassId} {A0 : Nat → Prop} {o : Int32 × ZS} (X : CallFix p m c cJ1_indexOfChar_4cfef 6 s args wsJ1_indexOfChar_4cfef RJ1) (hret : zRi p l e ({ frames := 0, cells := 0, slots := 0, locals := 0 } : Room) s m args below meth c Q cJ1_indexOfChar_4cfef D y A0 .int o) {x0 : Nat} {x1 : Int32} {x2 : Int32} {x3 : Int32} {S : ZS} {H : Heap} {locs : List Loc} {ls : Array Slot} (hf : f_J1_indexOfChar_4cfef_0 x0 x1 x2 x3 S = some o) (hM : zH D y A0 s H locs S) (hl : lv_has ls 6 [(0, .ref (y (200 + x0))), (1, .int x1), (2, .int x2), (3, .int x3)]) : W p l e ({ frames := 0, cells := 0, slots := 0, locals := 0 } : Room) s m args below meth c H locs 0 0 Q (F0 m 0 ls []) := by
  obtain ⟨hx, hb, hml, hown, hts⟩ := id X
  unfold f_J1_indexOfChar_4cfef_0 at hf
  refine lv_iload_n hx hb dJ1_indexOfChar_4cfef_0 rfl (lv_at hl 1 rfl) ?_
  refine lv_i2b (v := (x1).toInt8.toInt32) hx hb dJ1_indexOfChar_4cfef_1 rfl ?_
  obtain ⟨v1, ev, hf⟩ := m_bndE hf
  refine m_top ev ?_
  clear ev
  refine lv_istore (lv' := [(4, .int v1), (0, .ref (y (200 + x0))), (1, .int x1), (2, .int x2), (3, .int x3)]) hx hb dJ1_indexOfChar_4cfef_2 hl (by decide) rfl (fun ls hl => ?_)
  refine lv_iload_n hx hb dJ1_indexOfChar_4cfef_4 rfl (lv_at hl 3 rfl) ?_
  refine lv_istore (lv' := [(5, .int x2), (4, .int v1), (0, .ref (y (200 + x0))), (1, .int x1), (2, .int x2), (3, .int x3)]) hx hb dJ1_indexOfChar_4cfef_5 hl (by decide) rfl (fun ls hl => ?_)
  exact w_J1_indexOfChar_4cfef_7 X hret _ x0 x3 v1 x2 _ _ _ _ hf hM (lv_sub hl [2, 5, 1, 0] rfl)
noncomputable def f_J1_indexOfChar_4cfef (x0 : Nat) (x1 : Int32) (x2 : Int32) (x3 : Int32) (S : ZS) : Option (Int32 × ZS) := f_J1_indexOfChar_4cfef_0 x0 x1 x2 x3 S
theorem c_J1_indexOfChar_4cfef {l : Launch} {D : va_G} {y : Nat → ClassId} {x0 : Nat} {x1 : Int32} {x2 : Int32} {x3 : Int32} {S : ZS} {o : Int32 × ZS} (hf : f_J1_indexOfChar_4cfef x0 x1 x2 x3 S = some o) : zMi l yJ1_indexOfChar_4cfef wsJ1_indexOfChar_4cfef ({ frames := 0, cells := 0, slots := 0, locals := 0 } : Room) [.ref (y (200 + x0)), .int x1, .int x2, .int x3] D y S o :=
  z_entryI (own := RJ1) (cc := cJ1_indexOfChar_4cfef) (maxL := 6) (by decide) rfl rfl (Nat.le_of_ble_eq_true rfl) (fun p e s m args below meth c A0 Q H locs ls X hret hM hl => w_J1_indexOfChar_4cfef_0 X hret hf hM (lv_sub hl [0, 1, 2, 3] rfl))
theorem hd_J1_indexOf_4cfef : yJ1_indexOf_4cfef.cls ≠ "java/lang/invoke/MethodHandle" ∧ yJ1_indexOf_4cfef.cls ≠ "java/lang/invoke/VarHandle" ∧ (parseMethodDescriptor yJ1_indexOf_4cfef.desc).map (fun d => d.parameters.length) = some 4 := by decide +kernel
theorem lm_J1_indexOf_4cfef_max : (Cond.methodLink RJ1 92 Lib.Math.max.name ∈ wsJ1_indexOf_4cfef ∧ Cond.static Lib.Math.max.name ∈ wsJ1_indexOf_4cfef) ∧ Cond.initialized "java/lang/Math" ∈ wsJ1_indexOf_4cfef ∧ Cond.code Lib.Math.max.name Lib.Math.max.code 2 (some .int) ∈ wsJ1_indexOf_4cfef := by decide +kernel
theorem lm_J1_indexOf_4cfef_min : (Cond.methodLink RJ1 38 Lib.Math.min.name ∈ wsJ1_indexOf_4cfef ∧ Cond.static Lib.Math.min.name ∈ wsJ1_indexOf_4cfef) ∧ Cond.initialized "java/lang/Math" ∈ wsJ1_indexOf_4cfef ∧ Cond.code Lib.Math.min.name Lib.Math.min.code 2 (some .int) ∈ wsJ1_indexOf_4cfef := by decide +kernel
noncomputable def f_J1_indexOf_4cfef_0 (x0 : Nat) (x1 : Int32) (x2 : Int32) (x3 : Int32) (S : ZS) : Option (Int32 × ZS) :=
  m_cal (f_J1_canEncode_9a6ad x1 S) (fun o1 =>
  m_if (o1.1 = 0) (
  some ((-1 : Int32), o1.2)
  ) (
  m_bnd (if x2 < (0 : Int32) then (0 : Int32) else x2) (fun v2 =>
  m_chk (x0 < zSn) (
  m_bnd (Int32.ofNat (zSl.getD x0 0)) (fun v3 =>
  m_bnd (if v3 < x3 then v3 else x3) (fun v4 =>
  m_if (v2 < v4) (
  m_cal (f_J1_indexOfChar_4cfef x0 x1 v2 v4 o1.2) (fun o5 =>
  some (o5.1, o5.2))
  ) (
  some ((-1 : Int32), o1.2)
  )))))
  ))

set_option maxRecDepth 100000 in
set_option maxHeartbeats 4000000 in
theorem w_J1_indexOf_4cfef_0 {p : Program} {l : Launch} {e : Env} {s : State} {m : MethodId} {args : Array Value} {below : List Frame} {meth : Method} {c : Code} {Q : State → Prop} {D : va_G} {y : Nat → ClassId} {A0 : Nat → Prop} {o : Int32 × ZS} (X : CallFix p m c cJ1_indexOf_4cfef 4 s args wsJ1_indexOf_4cfef RJ1) (hret : zRi p l e ({ frames := 1, cells := 0, slots := 0, locals := 25 } : Room) s m args below meth c Q cJ1_indexOf_4cfef D y A0 .int o) {x0 : Nat} {x1 : Int32} {x2 : Int32} {x3 : Int32} {S : ZS} {H : Heap} {locs : List Loc} {ls : Array Slot} (hf : f_J1_indexOf_4cfef_0 x0 x1 x2 x3 S = some o) (hM : zH D y A0 s H locs S) (hl : lv_has ls 4 [(0, .ref (y (200 + x0))), (1, .int x1), (2, .int x2), (3, .int x3)]) : W p l e ({ frames := 1, cells := 0, slots := 0, locals := 25 } : Room) s m args below meth c H locs 0 0 Q (F0 m 0 ls []) := by
  obtain ⟨hx, hb, hml, hown, hts⟩ := id X
  unfold f_J1_indexOf_4cfef_0 at hf
  refine lv_iload_n hx hb dJ1_indexOf_4cfef_0 rfl (lv_at hl 1 rfl) ?_
  obtain ⟨o1, ho, hf⟩ := m_calE hf
  refine z_callSi X hM (c_J1_canEncode_9a6ad ho) gJ1_indexOf_4cfef_J1_canEncode_9a6ad rfl ⟨rfl, rfl⟩ hd_J1_canEncode_9a6ad ⟨Nat.le_of_ble_eq_true rfl, Nat.le_of_ble_eq_true rfl⟩ rfl hl.1 rfl (Nat.le_of_ble_eq_true rfl) dJ1_indexOf_4cfef_1 (fun H locs hM => ?_)
  clear ho
  refine lv_if_ne (tgt := 9) hx hb dJ1_indexOf_4cfef_4 (by decide) (fun cc1 => ?_) (fun cc1 => ?_)
  · replace hf := m_ifF hf cc1
    refine lv_iload_n hx hb dJ1_indexOf_4cfef_9 rfl (lv_at hl 2 rfl) ?_
    refine lv_iconst (v := (0 : Int32)) hx hb dJ1_indexOf_4cfef_10 (by decide) ?_
    refine z_mmax X (by rw [hml]; exact hl.1.symm) lm_J1_indexOf_4cfef_max.1 lm_J1_indexOf_4cfef_max.2 (Nat.le_of_ble_eq_true rfl) (Nat.le_of_ble_eq_true rfl) ⟨Nat.zero_le _, Nat.zero_le _⟩ dJ1_indexOf_4cfef_11 ?_
    obtain ⟨v2, ev, hf⟩ := m_bndE hf
    refine m_top ev ?_
    clear ev
    refine lv_istore_n (lv' := [(2, .int v2), (0, .ref (y (200 + x0))), (1, .int x1), (3, .int x3)]) hx hb dJ1_indexOf_4cfef_14 rfl hl (by decide) rfl (fun ls hl => ?_)
    refine lv_iload_n hx hb dJ1_indexOf_4cfef_15 rfl (lv_at hl 3 rfl) ?_
    refine lv_aload_n hx hb dJ1_indexOf_4cfef_16 rfl (lv_at hl 1 rfl) ?_
    obtain ⟨cd, hf⟩ := m_chkE hf
    refine z_slen X hM cd dJ1_indexOf_4cfef_17 ?_
    clear cd
    obtain ⟨v3, ev, hf⟩ := m_bndE hf
    refine m_top ev ?_
    clear ev
    refine z_mmin X (by rw [hml]; exact hl.1.symm) lm_J1_indexOf_4cfef_min.1 lm_J1_indexOf_4cfef_min.2 (Nat.le_of_ble_eq_true rfl) (Nat.le_of_ble_eq_true rfl) ⟨Nat.zero_le _, Nat.zero_le _⟩ dJ1_indexOf_4cfef_18 ?_
    obtain ⟨v4, ev, hf⟩ := m_bndE hf
    refine m_top ev ?_
    clear ev
    refine lv_istore_n (lv' := [(3, .int v4), (2, .int v2), (0, .ref (y (200 + x0))), (1, .int x1)]) hx hb dJ1_indexOf_4cfef_21 rfl hl (by decide) rfl (fun ls hl => ?_)
    refine lv_iload_n hx hb dJ1_indexOf_4cfef_22 rfl (lv_at hl 1 rfl) ?_
    refine lv_iload_n hx hb dJ1_indexOf_4cfef_23 rfl (lv_at hl 0 rfl) ?_
    refine lv_icmp_lt (tgt := 29) hx hb dJ1_indexOf_4cfef_24 (by decide) (fun cc1 => ?_) (fun cc1 => ?_)
    · replace hf := m_ifT hf cc1
      refine lv_aload_n hx hb dJ1_indexOf_4cfef_29 rfl (lv_at hl 2 rfl) ?_
      refine lv_iload_n hx hb dJ1_indexOf_4cfef_30 rfl (lv_at hl 3 rfl) ?_
      refine lv_iload_n hx hb dJ1_indexOf_4cfef_31 rfl (lv_at hl 1 rfl) ?_
      refine lv_iload_n hx hb dJ1_indexOf_4cfef_32 rfl (lv_at hl 0 rfl) ?_
      obtain ⟨o5, ho, hf⟩ := m_calE hf
      refine z_callSi X hM (c_J1_indexOfChar_4cfef ho) gJ1_indexOf_4cfef_J1_indexOfChar_4cfef rfl ⟨rfl, rfl⟩ hd_J1_indexOfChar_4cfef ⟨Nat.le_of_ble_eq_true rfl, Nat.le_of_ble_eq_true rfl⟩ rfl hl.1 rfl (Nat.le_of_ble_eq_true rfl) dJ1_indexOf_4cfef_33 (fun H locs hM => ?_)
      clear ho
      cases hf
      exact hret H locs _ ls hM rfl dJ1_indexOf_4cfef_36
    · replace hf := m_ifF hf cc1
      refine lv_iconst (v := (-1 : Int32)) hx hb dJ1_indexOf_4cfef_27 (by decide) ?_
      cases hf
      exact hret H locs _ ls hM rfl dJ1_indexOf_4cfef_28
  · replace hf := m_ifT hf cc1
    refine lv_iconst (v := (-1 : Int32)) hx hb dJ1_indexOf_4cfef_7 (by decide) ?_
    cases hf
    exact hret H locs _ ls hM rfl dJ1_indexOf_4cfef_8
noncomputable def f_J1_indexOf_4cfef (x0 : Nat) (x1 : Int32) (x2 : Int32) (x3 : Int32) (S : ZS) : Option (Int32 × ZS) := f_J1_indexOf_4cfef_0 x0 x1 x2 x3 S
theorem c_J1_indexOf_4cfef {l : Launch} {D : va_G} {y : Nat → ClassId} {x0 : Nat} {x1 : Int32} {x2 : Int32} {x3 : Int32} {S : ZS} {o : Int32 × ZS} (hf : f_J1_indexOf_4cfef x0 x1 x2 x3 S = some o) : zMi l yJ1_indexOf_4cfef wsJ1_indexOf_4cfef ({ frames := 1, cells := 0, slots := 0, locals := 25 } : Room) [.ref (y (200 + x0)), .int x1, .int x2, .int x3] D y S o :=
  z_entryI (own := RJ1) (cc := cJ1_indexOf_4cfef) (maxL := 4) (by decide) rfl rfl (Nat.le_of_ble_eq_true rfl) (fun p e s m args below meth c A0 Q H locs ls X hret hM hl => w_J1_indexOf_4cfef_0 X hret hf hM (lv_sub hl [0, 1, 2, 3] rfl))
theorem hd_J0_indexOf_7cf53 : yJ0_indexOf_7cf53.cls = RJ0 ∧ yJ0_indexOf_7cf53.cls ≠ "java/lang/invoke/MethodHandle" ∧ yJ0_indexOf_7cf53.cls ≠ "java/lang/invoke/VarHandle" ∧ (parseMethodDescriptor yJ0_indexOf_7cf53.desc).map (fun d => d.parameters.length) = some 2 := by decide +kernel
theorem sl_J0_indexOf_7cf53_value : Cond.fieldLink RJ0 9 "java/lang/String" "value" "[B" ∈ wsJ0_indexOf_7cf53 := by decide +kernel
noncomputable def f_J0_indexOf_7cf53_0 (x0 : Nat) (x1 : Int32) (x2 : Int32) (S : ZS) : Option (Int32 × ZS) :=
  m_chk (x0 < zSn) (
  m_cal (f_J0_isLatin1_aae02 x0 S) (fun o1 =>
  m_if (o1.1 = 0) (
  none
  ) (
  m_chk (x0 < zSn) (
  m_chk (x0 < zSn) (
  m_cal (f_J0_length_8abf5 x0 o1.2) (fun o2 =>
  m_cal (f_J1_indexOf_4cfef x0 x1 x2 o2.1 o2.2) (fun o3 =>
  some (o3.1, o3.2)))))
  )))

set_option maxRecDepth 100000 in
set_option maxHeartbeats 4000000 in
theorem w_J0_indexOf_7cf53_0 {p : Program} {l : Launch} {e : Env} {s : State} {m : MethodId} {args : Array Value} {below : List Frame} {meth : Method} {c : Code} {Q : State → Prop} {D : va_G} {y : Nat → ClassId} {A0 : Nat → Prop} {o : Int32 × ZS} (X : CallFix p m c cJ0_indexOf_7cf53 3 s args wsJ0_indexOf_7cf53 RJ0) (hret : zRi p l e ({ frames := 2, cells := 0, slots := 0, locals := 48 } : Room) s m args below meth c Q cJ0_indexOf_7cf53 D y A0 .int o) {x0 : Nat} {x1 : Int32} {x2 : Int32} {S : ZS} {H : Heap} {locs : List Loc} {ls : Array Slot} (hf : f_J0_indexOf_7cf53_0 x0 x1 x2 S = some o) (hM : zH D y A0 s H locs S) (hl : lv_has ls 3 [(0, .ref (y (100 + x0))), (1, .int x1), (2, .int x2)]) : W p l e ({ frames := 2, cells := 0, slots := 0, locals := 48 } : Room) s m args below meth c H locs 0 0 Q (F0 m 0 ls []) := by
  obtain ⟨hx, hb, hml, hown, hts⟩ := id X
  unfold f_J0_indexOf_7cf53_0 at hf
  refine lv_aload_n hx hb dJ0_indexOf_7cf53_0 rfl (lv_at hl 0 rfl) ?_
  obtain ⟨ca, hf⟩ := m_chkE hf
  obtain ⟨o1, ho, hf⟩ := m_calE hf
  refine z_callTi X hM ca (c_J0_isLatin1_aae02 ho) gJ0_indexOf_7cf53_J0_isLatin1_aae02 rfl ⟨rfl, rfl⟩ hd_J0_isLatin1_aae02 ⟨Nat.le_of_ble_eq_true rfl, Nat.le_of_ble_eq_true rfl⟩ rfl hl.1 rfl (Nat.le_of_ble_eq_true rfl) dJ0_indexOf_7cf53_1 (fun H locs hM => ?_)
  clear ho
  refine lv_if_eq (tgt := 23) hx hb dJ0_indexOf_7cf53_4 (by decide) (fun cc1 => ?_) (fun cc1 => ?_)
  · replace hf := m_ifT hf cc1
    cases hf
  · replace hf := m_ifF hf cc1
    refine lv_aload_n hx hb dJ0_indexOf_7cf53_7 rfl (lv_at hl 0 rfl) ?_
    obtain ⟨cd, hf⟩ := m_chkE hf
    refine z_sval X hM cd sl_J0_indexOf_7cf53_value dJ0_indexOf_7cf53_8 ?_
    clear cd
    refine lv_iload_n hx hb dJ0_indexOf_7cf53_11 rfl (lv_at hl 1 rfl) ?_
    refine lv_iload_n hx hb dJ0_indexOf_7cf53_12 rfl (lv_at hl 2 rfl) ?_
    refine lv_aload_n hx hb dJ0_indexOf_7cf53_13 rfl (lv_at hl 0 rfl) ?_
    obtain ⟨ca, hf⟩ := m_chkE hf
    obtain ⟨o2, ho, hf⟩ := m_calE hf
    refine z_callTi X hM ca (c_J0_length_8abf5 ho) gJ0_indexOf_7cf53_J0_length_8abf5 rfl ⟨rfl, rfl⟩ hd_J0_length_8abf5 ⟨Nat.le_of_ble_eq_true rfl, Nat.le_of_ble_eq_true rfl⟩ rfl hl.1 rfl (Nat.le_of_ble_eq_true rfl) dJ0_indexOf_7cf53_14 (fun H locs hM => ?_)
    clear ho
    obtain ⟨o3, ho, hf⟩ := m_calE hf
    refine z_callSi X hM (c_J1_indexOf_4cfef ho) gJ0_indexOf_7cf53_J1_indexOf_4cfef rfl ⟨rfl, rfl⟩ hd_J1_indexOf_4cfef ⟨Nat.le_of_ble_eq_true rfl, Nat.le_of_ble_eq_true rfl⟩ rfl hl.1 rfl (Nat.le_of_ble_eq_true rfl) dJ0_indexOf_7cf53_17 (fun H locs hM => ?_)
    clear ho
    refine lv_goto (tgt := 36) hx hb dJ0_indexOf_7cf53_20 (by decide) ?_
    cases hf
    exact hret H locs _ ls hM rfl dJ0_indexOf_7cf53_36
noncomputable def f_J0_indexOf_7cf53 (x0 : Nat) (x1 : Int32) (x2 : Int32) (S : ZS) : Option (Int32 × ZS) := f_J0_indexOf_7cf53_0 x0 x1 x2 S
theorem c_J0_indexOf_7cf53 {l : Launch} {D : va_G} {y : Nat → ClassId} {x0 : Nat} {x1 : Int32} {x2 : Int32} {S : ZS} {o : Int32 × ZS} (hf : f_J0_indexOf_7cf53 x0 x1 x2 S = some o) : zMi l yJ0_indexOf_7cf53 wsJ0_indexOf_7cf53 ({ frames := 2, cells := 0, slots := 0, locals := 48 } : Room) [.ref (y (100 + x0)), .int x1, .int x2] D y S o :=
  z_entryI (own := RJ0) (cc := cJ0_indexOf_7cf53) (maxL := 3) (by decide) rfl rfl (Nat.le_of_ble_eq_true rfl) (fun p e s m args below meth c A0 Q H locs ls X hret hM hl => w_J0_indexOf_7cf53_0 X hret hf hM (lv_sub hl [0, 1, 2] rfl))
end
