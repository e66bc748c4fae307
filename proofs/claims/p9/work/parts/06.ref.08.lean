theorem hw_remark : ∀ w ∈ wsX120, w ∈ wsX12_remark := by decide +kernel
theorem fl_remark_0 : Cond.fieldLink RX12 99 "MoveTextsModel" "thrown" "I" ∈ wsX12_remark := by decide +kernel
theorem fl_remark_5 : Cond.fieldLink RX12 347 "MoveTextsModel" "game" "I" ∈ wsX12_remark := by decide +kernel
theorem fl_remark_14 : Cond.fieldLink RX12 39 "MoveTextsModel" "remarkSize" "[I" ∈ wsX12_remark := by decide +kernel
theorem fl_remark_15 : Cond.fieldLink RX12 43 "MoveTextsModel" "remarks" "[C" ∈ wsX12_remark := by decide +kernel
theorem hd_remark : yX12_remark.cls = RX12 ∧ yX12_remark.cls ≠ "java/lang/invoke/MethodHandle" ∧ yX12_remark.cls ≠ "java/lang/invoke/VarHandle" ∧ (parseMethodDescriptor yX12_remark.desc).map (fun d => d.parameters.length) = some 2 := by decide +kernel
def f_remark_72 (t0 : Int32) (I : Nat → Int32) (A : Nat → Nat → Int32) : Option (Int32 × MS) :=
  some (t0, (I, A))

set_option maxRecDepth 100000 in
set_option maxHeartbeats 4000000 in
theorem w_remark_72 {p : Program} {l : Launch} {e : Env} {s : State} {m : MethodId} {args : Array Value} {below : List Frame} {meth : Method} {c : Code} {Q : State → Prop} {D : va_G} {cy ci : ClassId} {h : Nat → Nat} {A0 : Nat → Prop} {o : Int32 × MS} (X : CallFix p m c cX12_remark 3 s args wsX12_remark RX12) (hret : mRi p l e ({ frames := 1, cells := 0, slots := 0, locals := 21 } : Room) s m args below meth c Q cX12_remark D cy ci h A0 .int o) {t0 : Int32} {I : Nat → Int32} {A : Nat → Nat → Int32} {H : Heap} {locs : List Loc} {ls : Array Slot} (hf : f_remark_72 t0 I A = some o) (hM : mH D cy ci h A0 s H locs I A) (hl : lv_has ls 3 []) : W p l e ({ frames := 1, cells := 0, slots := 0, locals := 21 } : Room) s m args below meth c H locs 0 0 Q (F0 m 72 ls [.int t0]) := by
  obtain ⟨hx, hb, hml, hown, hts⟩ := id X
  unfold f_remark_72 at hf
  cases hf
  exact hret H locs _ ls hM rfl dX12_remark_72
def f_remark_37 (x1 : Int32) (x2 : Int32) (t0 : Int32) (I : Nat → Int32) (A : Nat → Nat → Int32) : Option (Int32 × MS) :=
  m_bnd (upd I 0 t0) (fun I1 =>
  m_if ((I1 0) ≤ 0) (
  m_bnd ((301 : Int32) * (I1 5)) (fun v2 =>
  m_bnd (v2 + x1) (fun v3 =>
  m_bnd ((200 : Int32) * v3) (fun v4 =>
  m_bnd (v4 + x2) (fun v5 =>
  m_chk (¬ (v5 < 0 ∨ 120400 ≤ (v5).toNatClampNeg)) (
  m_bnd (A 15 (v5).toNatClampNeg) (fun v6 =>
  f_remark_72 v6 I1 A))))))
  ) (
  f_remark_72 (0 : Int32) I1 A
  ))

set_option maxRecDepth 100000 in
set_option maxHeartbeats 4000000 in
theorem w_remark_37 {p : Program} {l : Launch} {e : Env} {s : State} {m : MethodId} {args : Array Value} {below : List Frame} {meth : Method} {c : Code} {Q : State → Prop} {D : va_G} {cy ci : ClassId} {h : Nat → Nat} {A0 : Nat → Prop} {o : Int32 × MS} (X : CallFix p m c cX12_remark 3 s args wsX12_remark RX12) (hret : mRi p l e ({ frames := 1, cells := 0, slots := 0, locals := 21 } : Room) s m args below meth c Q cX12_remark D cy ci h A0 .int o) {x1 : Int32} {x2 : Int32} {t0 : Int32} {I : Nat → Int32} {A : Nat → Nat → Int32} {H : Heap} {locs : List Loc} {ls : Array Slot} (hf : f_remark_37 x1 x2 t0 I A = some o) (hM : mH D cy ci h A0 s H locs I A) (hl : lv_has ls 3 [(0, .ref (h 0)), (1, .int x1), (2, .int x2)]) : W p l e ({ frames := 1, cells := 0, slots := 0, locals := 21 } : Room) s m args below meth c H locs 0 0 Q (F0 m 37 ls [.int t0, .ref (h 0)]) := by
  obtain ⟨hx, hb, hml, hown, hts⟩ := id X
  unfold f_remark_37 at hf
  refine m_put X hw_remark hM 0 (by decide) fl_remark_0 mi_0 rfl (tyX12_ok 0 (by decide)) dX12_remark_37 (fun H locs hM => ?_)
  obtain ⟨I1, ev, hf⟩ := m_bndE hf
  replace hM := m_hI hM ev
  clear ev
  refine lv_aload_n hx hb dX12_remark_40 rfl (lv_at hl 0 rfl) ?_
  refine m_get (v := .int (I1 0)) X hw_remark hM 0 (by decide) fl_remark_0 rfl dX12_remark_41 ?_
  refine lv_if_le (tgt := 51) hx hb dX12_remark_44 (by decide) (fun cc1 => ?_) (fun cc1 => ?_)
  · replace hf := m_ifT hf cc1
    refine lv_aload_n hx hb dX12_remark_51 rfl (lv_at hl 0 rfl) ?_
    refine m_get (v := .ref (h 15)) X hw_remark hM 15 (by decide) fl_remark_15 rfl dX12_remark_52 ?_
    refine lv_sipush (v := (200 : Int32)) hx hb dX12_remark_55 (by decide) ?_
    refine lv_sipush (v := (301 : Int32)) hx hb dX12_remark_58 (by decide) ?_
    refine lv_aload_n hx hb dX12_remark_61 rfl (lv_at hl 0 rfl) ?_
    refine m_get (v := .int (I1 5)) X hw_remark hM 5 (by decide) fl_remark_5 rfl dX12_remark_62 ?_
    refine lv_imul hx hb dX12_remark_65 ?_
    obtain ⟨v2, ev, hf⟩ := m_bndE hf
    refine m_top ev ?_
    clear ev
    refine lv_iload_n hx hb dX12_remark_66 rfl (lv_at hl 1 rfl) ?_
    refine lv_iadd hx hb dX12_remark_67 ?_
    obtain ⟨v3, ev, hf⟩ := m_bndE hf
    refine m_top ev ?_
    clear ev
    refine lv_imul hx hb dX12_remark_68 ?_
    obtain ⟨v4, ev, hf⟩ := m_bndE hf
    refine m_top ev ?_
    clear ev
    refine lv_iload_n hx hb dX12_remark_69 rfl (lv_at hl 2 rfl) ?_
    refine lv_iadd hx hb dX12_remark_70 ?_
    obtain ⟨v5, ev, hf⟩ := m_bndE hf
    refine m_top ev ?_
    clear ev
    obtain ⟨cd, hf⟩ := m_chkE hf
    refine m_cald X hM 15 11 120400 rfl cd dX12_remark_71 ?_
    clear cd
    obtain ⟨v6, ev, hf⟩ := m_bndE hf
    refine m_top ev ?_
    clear ev
    exact w_remark_72 X hret hf hM (lv_sub hl [] rfl)
  · replace hf := m_ifF hf cc1
    refine lv_iconst (v := (0 : Int32)) hx hb dX12_remark_47 (by decide) ?_
    refine lv_goto (tgt := 72) hx hb dX12_remark_48 (by decide) ?_
    exact w_remark_72 X hret hf hM (lv_sub hl [] rfl)
def f_remark_32 (x1 : Int32) (x2 : Int32) (I : Nat → Int32) (A : Nat → Nat → Int32) : Option (Int32 × MS) :=
  f_remark_37 x1 x2 (1 : Int32) I A

set_option maxRecDepth 100000 in
set_option maxHeartbeats 4000000 in
theorem w_remark_32 {p : Program} {l : Launch} {e : Env} {s : State} {m : MethodId} {args : Array Value} {below : List Frame} {meth : Method} {c : Code} {Q : State → Prop} {D : va_G} {cy ci : ClassId} {h : Nat → Nat} {A0 : Nat → Prop} {o : Int32 × MS} (X : CallFix p m c cX12_remark 3 s args wsX12_remark RX12) (hret : mRi p l e ({ frames := 1, cells := 0, slots := 0, locals := 21 } : Room) s m args below meth c Q cX12_remark D cy ci h A0 .int o) {x1 : Int32} {x2 : Int32} {I : Nat → Int32} {A : Nat → Nat → Int32} {H : Heap} {locs : List Loc} {ls : Array Slot} (hf : f_remark_32 x1 x2 I A = some o) (hM : mH D cy ci h A0 s H locs I A) (hl : lv_has ls 3 [(0, .ref (h 0)), (1, .int x1), (2, .int x2)]) : W p l e ({ frames := 1, cells := 0, slots := 0, locals := 21 } : Room) s m args below meth c H locs 0 0 Q (F0 m 32 ls [.ref (h 0)]) := by
  obtain ⟨hx, hb, hml, hown, hts⟩ := id X
  unfold f_remark_32 at hf
  refine lv_iconst (v := (1 : Int32)) hx hb dX12_remark_32 (by decide) ?_
  refine lv_goto (tgt := 37) hx hb dX12_remark_33 (by decide) ?_
  exact w_remark_37 X hret hf hM (lv_sub hl [0, 1, 2] rfl)
def f_remark_0 (x1 : Int32) (x2 : Int32) (I : Nat → Int32) (A : Nat → Nat → Int32) : Option (Int32 × MS) :=
  m_cl (f_isNode x1 I A) (fun r1 Ic1 Ac1 =>
  m_if (r1 = 0) (
  f_remark_32 x1 x2 Ic1 Ac1
  ) (
  m_if (x2 < 0) (
  f_remark_32 x1 x2 Ic1 Ac1
  ) (
  m_bnd ((301 : Int32) * (Ic1 5)) (fun v2 =>
  m_bnd (v2 + x1) (fun v3 =>
  m_chk (¬ (v3 < 0 ∨ 602 ≤ (v3).toNatClampNeg)) (
  m_bnd (Ac1 14 (v3).toNatClampNeg) (fun v4 =>
  m_if (x2 < v4) (
  f_remark_37 x1 x2 (0 : Int32) Ic1 Ac1
  ) (
  f_remark_32 x1 x2 Ic1 Ac1
  )))))
  )
  ))

set_option maxRecDepth 100000 in
set_option maxHeartbeats 4000000 in
theorem w_remark_0 {p : Program} {l : Launch} {e : Env} {s : State} {m : MethodId} {args : Array Value} {below : List Frame} {meth : Method} {c : Code} {Q : State → Prop} {D : va_G} {cy ci : ClassId} {h : Nat → Nat} {A0 : Nat → Prop} {o : Int32 × MS} (X : CallFix p m c cX12_remark 3 s args wsX12_remark RX12) (hret : mRi p l e ({ frames := 1, cells := 0, slots := 0, locals := 21 } : Room) s m args below meth c Q cX12_remark D cy ci h A0 .int o) {x1 : Int32} {x2 : Int32} {I : Nat → Int32} {A : Nat → Nat → Int32} {H : Heap} {locs : List Loc} {ls : Array Slot} (hf : f_remark_0 x1 x2 I A = some o) (hM : mH D cy ci h A0 s H locs I A) (hl : lv_has ls 3 [(0, .ref (h 0)), (1, .int x1), (2, .int x2)]) : W p l e ({ frames := 1, cells := 0, slots := 0, locals := 21 } : Room) s m args below meth c H locs 0 0 Q (F0 m 0 ls []) := by
  obtain ⟨hx, hb, hml, hown, hts⟩ := id X
  unfold f_remark_0 at hf
  refine lv_aload_n hx hb dX12_remark_0 rfl (lv_at hl 0 rfl) ?_
  refine lv_aload_n hx hb dX12_remark_1 rfl (lv_at hl 0 rfl) ?_
  refine lv_iload_n hx hb dX12_remark_2 rfl (lv_at hl 1 rfl) ?_
  obtain ⟨o1, ho, hf⟩ := m_clE hf
  refine m_callVi X hM (c_isNode ho) gX12_remark_X12_isNode rfl ⟨rfl, rfl⟩ hd_isNode ⟨Nat.le_of_ble_eq_true rfl, Nat.le_of_ble_eq_true rfl⟩ rfl hl.1 rfl (Nat.le_of_ble_eq_true rfl) dX12_remark_3 (fun H locs hM => ?_)
  clear ho
  refine lv_if_eq (tgt := 32) hx hb dX12_remark_6 (by decide) (fun cc1 => ?_) (fun cc1 => ?_)
  · replace hf := m_ifT hf cc1
    exact w_remark_32 X hret hf hM (lv_sub hl [0, 1, 2] rfl)
  · replace hf := m_ifF hf cc1
    refine lv_iload_n hx hb dX12_remark_9 rfl (lv_at hl 2 rfl) ?_
    refine lv_if_lt (tgt := 32) hx hb dX12_remark_10 (by decide) (fun cc1 => ?_) (fun cc1 => ?_)
    · replace hf := m_ifT hf cc1
      exact w_remark_32 X hret hf hM (lv_sub hl [0, 1, 2] rfl)
    · replace hf := m_ifF hf cc1
      refine lv_iload_n hx hb dX12_remark_13 rfl (lv_at hl 2 rfl) ?_
      refine lv_aload_n hx hb dX12_remark_14 rfl (lv_at hl 0 rfl) ?_
      refine m_get (v := .ref (h 14)) X hw_remark hM 14 (by decide) fl_remark_14 rfl dX12_remark_15 ?_
      refine lv_sipush (v := (301 : Int32)) hx hb dX12_remark_18 (by decide) ?_
      refine lv_aload_n hx hb dX12_remark_21 rfl (lv_at hl 0 rfl) ?_
      refine m_get (v := .int (o1.2.1 5)) X hw_remark hM 5 (by decide) fl_remark_5 rfl dX12_remark_22 ?_
      refine lv_imul hx hb dX12_remark_25 ?_
      obtain ⟨v2, ev, hf⟩ := m_bndE hf
      refine m_top ev ?_
      clear ev
      refine lv_iload_n hx hb dX12_remark_26 rfl (lv_at hl 1 rfl) ?_
      refine lv_iadd hx hb dX12_remark_27 ?_
      obtain ⟨v3, ev, hf⟩ := m_bndE hf
      refine m_top ev ?_
      clear ev
      obtain ⟨cd, hf⟩ := m_chkE hf
      refine m_iald X hM 14 10 602 rfl cd dX12_remark_28 ?_
      clear cd
      obtain ⟨v4, ev, hf⟩ := m_bndE hf
      refine m_top ev ?_
      clear ev
      refine lv_icmp_lt (tgt := 36) hx hb dX12_remark_29 (by decide) (fun cc1 => ?_) (fun cc1 => ?_)
      · replace hf := m_ifT hf cc1
        refine lv_iconst (v := (0 : Int32)) hx hb dX12_remark_36 (by decide) ?_
        exact w_remark_37 X hret hf hM (lv_sub hl [0, 1, 2] rfl)
      · replace hf := m_ifF hf cc1
        exact w_remark_32 X hret hf hM (lv_sub hl [0, 1, 2] rfl)
def f_remark (x1 : Int32) (x2 : Int32) (I : Nat → Int32) (A : Nat → Nat → Int32) : Option (Int32 × MS) := f_remark_0 x1 x2 I A
theorem c_remark {l : Launch} {D : va_G} {cy ci : ClassId} {h : Nat → Nat} {x1 : Int32} {x2 : Int32} {I : Nat → Int32} {A : Nat → Nat → Int32} {o : Int32 × MS} (hf : f_remark x1 x2 I A = some o) : mMi l yX12_remark wsX12_remark ({ frames := 1, cells := 0, slots := 0, locals := 21 } : Room) [.ref (h 0), .int x1, .int x2] D cy ci h I A o :=
  m_entryI (cc := cX12_remark) (maxL := 3) (by decide) rfl rfl (Nat.le_of_ble_eq_true rfl) (fun p e s m args below meth c A0 Q H locs ls X hret hM hl => w_remark_0 X hret hf hM (lv_sub hl [0, 1, 2] rfl))
theorem hw_here : ∀ w ∈ wsX120, w ∈ wsX12_here := by decide +kernel
theorem fl_here_0 : Cond.fieldLink RX12 99 "MoveTextsModel" "thrown" "I" ∈ wsX12_here := by decide +kernel
theorem fl_here_6 : Cond.fieldLink RX12 353 "MoveTextsModel" "here" "I" ∈ wsX12_here := by decide +kernel
theorem hd_here : yX12_here.cls = RX12 ∧ yX12_here.cls ≠ "java/lang/invoke/MethodHandle" ∧ yX12_here.cls ≠ "java/lang/invoke/VarHandle" ∧ (parseMethodDescriptor yX12_here.desc).map (fun d => d.parameters.length) = some 0 := by decide +kernel
def f_here_0 (I : Nat → Int32) (A : Nat → Nat → Int32) : Option (Int32 × MS) :=
  m_bnd (upd I 0 (0 : Int32)) (fun I1 =>
  some ((I1 6), (I1, A)))

set_option maxRecDepth 100000 in
set_option maxHeartbeats 4000000 in
theorem w_here_0 {p : Program} {l : Launch} {e : Env} {s : State} {m : MethodId} {args : Array Value} {below : List Frame} {meth : Method} {c : Code} {Q : State → Prop} {D : va_G} {cy ci : ClassId} {h : Nat → Nat} {A0 : Nat → Prop} {o : Int32 × MS} (X : CallFix p m c cX12_here 1 s args wsX12_here RX12) (hret : mRi p l e ({ frames := 0, cells := 0, slots := 0, locals := 0 } : Room) s m args below meth c Q cX12_here D cy ci h A0 .int o) {I : Nat → Int32} {A : Nat → Nat → Int32} {H : Heap} {locs : List Loc} {ls : Array Slot} (hf : f_here_0  I A = some o) (hM : mH D cy ci h A0 s H locs I A) (hl : lv_has ls 1 [(0, .ref (h 0))]) : W p l e ({ frames := 0, cells := 0, slots := 0, locals := 0 } : Room) s m args below meth c H locs 0 0 Q (F0 m 0 ls []) := by
  obtain ⟨hx, hb, hml, hown, hts⟩ := id X
  unfold f_here_0 at hf
  refine lv_aload_n hx hb dX12_here_0 rfl (lv_at hl 0 rfl) ?_
  refine lv_iconst (v := (0 : Int32)) hx hb dX12_here_1 (by decide) ?_
  refine m_put X hw_here hM 0 (by decide) fl_here_0 mi_0 rfl (tyX12_ok 0 (by decide)) dX12_here_2 (fun H locs hM => ?_)
  obtain ⟨I1, ev, hf⟩ := m_bndE hf
  replace hM := m_hI hM ev
  clear ev
  refine lv_aload_n hx hb dX12_here_5 rfl (lv_at hl 0 rfl) ?_
  refine m_get (v := .int (I1 6)) X hw_here hM 6 (by decide) fl_here_6 rfl dX12_here_6 ?_
  cases hf
  exact hret H locs _ ls hM rfl dX12_here_9
def f_here (I : Nat → Int32) (A : Nat → Nat → Int32) : Option (Int32 × MS) := f_here_0  I A
theorem c_here {l : Launch} {D : va_G} {cy ci : ClassId} {h : Nat → Nat} {I : Nat → Int32} {A : Nat → Nat → Int32} {o : Int32 × MS} (hf : f_here  I A = some o) : mMi l yX12_here wsX12_here ({ frames := 0, cells := 0, slots := 0, locals := 0 } : Room) [.ref (h 0)] D cy ci h I A o :=
  m_entryI (cc := cX12_here) (maxL := 1) (by decide) rfl rfl (Nat.le_of_ble_eq_true rfl) (fun p e s m args below meth c A0 Q H locs ls X hret hM hl => w_here_0 X hret hf hM (lv_sub hl [0] rfl))
theorem hw_go : ∀ w ∈ wsX120, w ∈ wsX12_go := by decide +kernel
theorem fl_go_0 : Cond.fieldLink RX12 99 "MoveTextsModel" "thrown" "I" ∈ wsX12_go := by decide +kernel
theorem fl_go_5 : Cond.fieldLink RX12 347 "MoveTextsModel" "game" "I" ∈ wsX12_go := by decide +kernel
theorem fl_go_6 : Cond.fieldLink RX12 353 "MoveTextsModel" "here" "I" ∈ wsX12_go := by decide +kernel
theorem hd_go : yX12_go.cls = RX12 ∧ yX12_go.cls ≠ "java/lang/invoke/MethodHandle" ∧ yX12_go.cls ≠ "java/lang/invoke/VarHandle" ∧ (parseMethodDescriptor yX12_go.desc).map (fun d => d.parameters.length) = some 1 := by decide +kernel
def f_go_41 (I : Nat → Int32) (A : Nat → Nat → Int32) : Option (Int32 × MS) :=
  some (0, (I, A))

set_option maxRecDepth 100000 in
set_option maxHeartbeats 4000000 in
theorem w_go_41 {p : Program} {l : Launch} {e : Env} {s : State} {m : MethodId} {args : Array Value} {below : List Frame} {meth : Method} {c : Code} {Q : State → Prop} {D : va_G} {cy ci : ClassId} {h : Nat → Nat} {A0 : Nat → Prop} {o : Int32 × MS} (X : CallFix p m c cX12_go 2 s args wsX12_go RX12) (hret : mRv p l e ({ frames := 7, cells := 0, slots := 0, locals := 181 } : Room) s m args below meth c Q cX12_go D cy ci h A0 o) {I : Nat → Int32} {A : Nat → Nat → Int32} {H : Heap} {locs : List Loc} {ls : Array Slot} (hf : f_go_41  I A = some o) (hM : mH D cy ci h A0 s H locs I A) (hl : lv_has ls 2 []) : W p l e ({ frames := 7, cells := 0, slots := 0, locals := 181 } : Room) s m args below meth c H locs 0 0 Q (F0 m 41 ls []) := by
  obtain ⟨hx, hb, hml, hown, hts⟩ := id X
  unfold f_go_41 at hf
  cases hf
  exact hret H locs _ ls hM dX12_go_41
def f_go_14 (x1 : Int32) (t0 : Int32) (I : Nat → Int32) (A : Nat → Nat → Int32) : Option (Int32 × MS) :=
  m_bnd (upd I 0 t0) (fun I1 =>
  m_if ((I1 0) = 0) (
  m_bnd (upd I1 6 x1) (fun I2 =>
  m_cl (f_place (I2 5) (I2 6) I2 A) (fun r3 Ic3 Ac3 =>
  f_go_41  Ic3 Ac3))
  ) (
  f_go_41  I1 A
  ))

set_option maxRecDepth 100000 in
set_option maxHeartbeats 4000000 in
theorem w_go_14 {p : Program} {l : Launch} {e : Env} {s : State} {m : MethodId} {args : Array Value} {below : List Frame} {meth : Method} {c : Code} {Q : State → Prop} {D : va_G} {cy ci : ClassId} {h : Nat → Nat} {A0 : Nat → Prop} {o : Int32 × MS} (X : CallFix p m c cX12_go 2 s args wsX12_go RX12) (hret : mRv p l e ({ frames := 7, cells := 0, slots := 0, locals := 181 } : Room) s m args below meth c Q cX12_go D cy ci h A0 o) {x1 : Int32} {t0 : Int32} {I : Nat → Int32} {A : Nat → Nat → Int32} {H : Heap} {locs : List Loc} {ls : Array Slot} (hf : f_go_14 x1 t0 I A = some o) (hM : mH D cy ci h A0 s H locs I A) (hl : lv_has ls 2 [(0, .ref (h 0)), (1, .int x1)]) : W p l e ({ frames := 7, cells := 0, slots := 0, locals := 181 } : Room) s m args below meth c H locs 0 0 Q (F0 m 14 ls [.int t0, .ref (h 0)]) := by
  obtain ⟨hx, hb, hml, hown, hts⟩ := id X
  unfold f_go_14 at hf
  refine m_put X hw_go hM 0 (by decide) fl_go_0 mi_0 rfl (tyX12_ok 0 (by decide)) dX12_go_14 (fun H locs hM => ?_)
  obtain ⟨I1, ev, hf⟩ := m_bndE hf
  replace hM := m_hI hM ev
  clear ev
  refine lv_aload_n hx hb dX12_go_17 rfl (lv_at hl 0 rfl) ?_
  refine m_get (v := .int (I1 0)) X hw_go hM 0 (by decide) fl_go_0 rfl dX12_go_18 ?_
  refine lv_if_ne (tgt := 41) hx hb dX12_go_21 (by decide) (fun cc1 => ?_) (fun cc1 => ?_)
  · replace hf := m_ifF hf cc1
    exact w_go_41 X hret hf hM (lv_sub hl [] rfl)
  · replace hf := m_ifT hf cc1
    refine lv_aload_n hx hb dX12_go_24 rfl (lv_at hl 0 rfl) ?_
    refine lv_iload_n hx hb dX12_go_25 rfl (lv_at hl 1 rfl) ?_
    refine m_put X hw_go hM 6 (by decide) fl_go_6 mi_6 rfl (tyX12_ok 6 (by decide)) dX12_go_26 (fun H locs hM => ?_)
    obtain ⟨I2, ev, hf⟩ := m_bndE hf
    replace hM := m_hI hM ev
    clear ev
    refine lv_aload_n hx hb dX12_go_29 rfl (lv_at hl 0 rfl) ?_
    refine lv_aload_n hx hb dX12_go_30 rfl (lv_at hl 0 rfl) ?_
    refine m_get (v := .int (I2 5)) X hw_go hM 5 (by decide) fl_go_5 rfl dX12_go_31 ?_
    refine lv_aload_n hx hb dX12_go_34 rfl (lv_at hl 0 rfl) ?_
    refine m_get (v := .int (I2 6)) X hw_go hM 6 (by decide) fl_go_6 rfl dX12_go_35 ?_
    obtain ⟨o3, ho, hf⟩ := m_clE hf
    refine m_callVv X hM (c_place ho) gX12_go_X12_place rfl ⟨rfl, rfl⟩ hd_place ⟨Nat.le_of_ble_eq_true rfl, Nat.le_of_ble_eq_true rfl⟩ rfl hl.1 rfl (Nat.le_of_ble_eq_true rfl) dX12_go_38 (fun H locs hM => ?_)
    clear ho
    exact w_go_41 X hret hf hM (lv_sub hl [] rfl)
def f_go_0 (x1 : Int32) (I : Nat → Int32) (A : Nat → Nat → Int32) : Option (Int32 × MS) :=
  m_cl (f_isNode x1 I A) (fun r1 Ic1 Ac1 =>
  m_if (r1 = 0) (
  f_go_14 x1 (1 : Int32) Ic1 Ac1
  ) (
  f_go_14 x1 (0 : Int32) Ic1 Ac1
  ))

set_option maxRecDepth 100000 in
set_option maxHeartbeats 4000000 in
theorem w_go_0 {p : Program} {l : Launch} {e : Env} {s : State} {m : MethodId} {args : Array Value} {below : List Frame} {meth : Method} {c : Code} {Q : State → Prop} {D : va_G} {cy ci : ClassId} {h : Nat → Nat} {A0 : Nat → Prop} {o : Int32 × MS} (X : CallFix p m c cX12_go 2 s args wsX12_go RX12) (hret : mRv p l e ({ frames := 7, cells := 0, slots := 0, locals := 181 } : Room) s m args below meth c Q cX12_go D cy ci h A0 o) {x1 : Int32} {I : Nat → Int32} {A : Nat → Nat → Int32} {H : Heap} {locs : List Loc} {ls : Array Slot} (hf : f_go_0 x1 I A = some o) (hM : mH D cy ci h A0 s H locs I A) (hl : lv_has ls 2 [(0, .ref (h 0)), (1, .int x1)]) : W p l e ({ frames := 7, cells := 0, slots := 0, locals := 181 } : Room) s m args below meth c H locs 0 0 Q (F0 m 0 ls []) := by
  obtain ⟨hx, hb, hml, hown, hts⟩ := id X
  unfold f_go_0 at hf
  refine lv_aload_n hx hb dX12_go_0 rfl (lv_at hl 0 rfl) ?_
  refine lv_aload_n hx hb dX12_go_1 rfl (lv_at hl 0 rfl) ?_
  refine lv_iload_n hx hb dX12_go_2 rfl (lv_at hl 1 rfl) ?_
  obtain ⟨o1, ho, hf⟩ := m_clE hf
  refine m_callVi X hM (c_isNode ho) gX12_go_X12_isNode rfl ⟨rfl, rfl⟩ hd_isNode ⟨Nat.le_of_ble_eq_true rfl, Nat.le_of_ble_eq_true rfl⟩ rfl hl.1 rfl (Nat.le_of_ble_eq_true rfl) dX12_go_3 (fun H locs hM => ?_)
  clear ho
  refine lv_if_eq (tgt := 13) hx hb dX12_go_6 (by decide) (fun cc1 => ?_) (fun cc1 => ?_)
  · replace hf := m_ifT hf cc1
    refine lv_iconst (v := (1 : Int32)) hx hb dX12_go_13 (by decide) ?_
    exact w_go_14 X hret hf hM (lv_sub hl [0, 1] rfl)
  · replace hf := m_ifF hf cc1
    refine lv_iconst (v := (0 : Int32)) hx hb dX12_go_9 (by decide) ?_
    refine lv_goto (tgt := 14) hx hb dX12_go_10 (by decide) ?_
    exact w_go_14 X hret hf hM (lv_sub hl [0, 1] rfl)
def f_go (x1 : Int32) (I : Nat → Int32) (A : Nat → Nat → Int32) : Option (Int32 × MS) := f_go_0 x1 I A
theorem c_go {l : Launch} {D : va_G} {cy ci : ClassId} {h : Nat → Nat} {x1 : Int32} {I : Nat → Int32} {A : Nat → Nat → Int32} {o : Int32 × MS} (hf : f_go x1 I A = some o) : mMv l yX12_go wsX12_go ({ frames := 7, cells := 0, slots := 0, locals := 181 } : Room) [.ref (h 0), .int x1] D cy ci h I A o :=
  m_entryV (cc := cX12_go) (maxL := 2) (by decide) rfl rfl (Nat.le_of_ble_eq_true rfl) (fun p e s m args below meth c A0 Q H locs ls X hret hM hl => w_go_0 X hret hf hM (lv_sub hl [0, 1] rfl))
theorem hw_man : ∀ w ∈ wsX120, w ∈ wsX12_man := by decide +kernel
theorem fl_man_0 : Cond.fieldLink RX12 99 "MoveTextsModel" "thrown" "I" ∈ wsX12_man := by decide +kernel
theorem fl_man_24 : Cond.fieldLink RX12 70 "MoveTextsModel" "men" "[I" ∈ wsX12_man := by decide +kernel
theorem hd_man : yX12_man.cls = RX12 ∧ yX12_man.cls ≠ "java/lang/invoke/MethodHandle" ∧ yX12_man.cls ≠ "java/lang/invoke/VarHandle" ∧ (parseMethodDescriptor yX12_man.desc).map (fun d => d.parameters.length) = some 1 := by decide +kernel
def f_man_36 (t0 : Int32) (I : Nat → Int32) (A : Nat → Nat → Int32) : Option (Int32 × MS) :=
  some (t0, (I, A))

set_option maxRecDepth 100000 in
set_option maxHeartbeats 4000000 in
theorem w_man_36 {p : Program} {l : Launch} {e : Env} {s : State} {m : MethodId} {args : Array Value} {below : List Frame} {meth : Method} {c : Code} {Q : State → Prop} {D : va_G} {cy ci : ClassId} {h : Nat → Nat} {A0 : Nat → Prop} {o : Int32 × MS} (X : CallFix p m c cX12_man 2 s args wsX12_man RX12) (hret : mRi p l e ({ frames := 0, cells := 0, slots := 0, locals := 0 } : Room) s m args below meth c Q cX12_man D cy ci h A0 .int o) {t0 : Int32} {I : Nat → Int32} {A : Nat → Nat → Int32} {H : Heap} {locs : List Loc} {ls : Array Slot} (hf : f_man_36 t0 I A = some o) (hM : mH D cy ci h A0 s H locs I A) (hl : lv_has ls 2 []) : W p l e ({ frames := 0, cells := 0, slots := 0, locals := 0 } : Room) s m args below meth c H locs 0 0 Q (F0 m 36 ls [.int t0]) := by
  obtain ⟨hx, hb, hml, hown, hts⟩ := id X
  unfold f_man_36 at hf
  cases hf
  exact hret H locs _ ls hM rfl dX12_man_36
def f_man_16 (x1 : Int32) (t0 : Int32) (I : Nat → Int32) (A : Nat → Nat → Int32) : Option (Int32 × MS) :=
  m_bnd (upd I 0 t0) (fun I1 =>
  m_if ((I1 0) ≤ 0) (
  m_chk (¬ (x1 < 0 ∨ 64 ≤ (x1).toNatClampNeg)) (
  m_bnd (A 24 (x1).toNatClampNeg) (fun v2 =>
  f_man_36 v2 I1 A))
  ) (
  f_man_36 (0 : Int32) I1 A
  ))

set_option maxRecDepth 100000 in
set_option maxHeartbeats 4000000 in
theorem w_man_16 {p : Program} {l : Launch} {e : Env} {s : State} {m : MethodId} {args : Array Value} {below : List Frame} {meth : Method} {c : Code} {Q : State → Prop} {D : va_G} {cy ci : ClassId} {h : Nat → Nat} {A0 : Nat → Prop} {o : Int32 × MS} (X : CallFix p m c cX12_man 2 s args wsX12_man RX12) (hret : mRi p l e ({ frames := 0, cells := 0, slots := 0, locals := 0 } : Room) s m args below meth c Q cX12_man D cy ci h A0 .int o) {x1 : Int32} {t0 : Int32} {I : Nat → Int32} {A : Nat → Nat → Int32} {H : Heap} {locs : List Loc} {ls : Array Slot} (hf : f_man_16 x1 t0 I A = some o) (hM : mH D cy ci h A0 s H locs I A) (hl : lv_has ls 2 [(0, .ref (h 0)), (1, .int x1)]) : W p l e ({ frames := 0, cells := 0, slots := 0, locals := 0 } : Room) s m args below meth c H locs 0 0 Q (F0 m 16 ls [.int t0, .ref (h 0)]) := by
  obtain ⟨hx, hb, hml, hown, hts⟩ := id X
  unfold f_man_16 at hf
  refine m_put X hw_man hM 0 (by decide) fl_man_0 mi_0 rfl (tyX12_ok 0 (by decide)) dX12_man_16 (fun H locs hM => ?_)
  obtain ⟨I1, ev, hf⟩ := m_bndE hf
  replace hM := m_hI hM ev
  clear ev
  refine lv_aload_n hx hb dX12_man_19 rfl (lv_at hl 0 rfl) ?_
  refine m_get (v := .int (I1 0)) X hw_man hM 0 (by decide) fl_man_0 rfl dX12_man_20 ?_
  refine lv_if_le (tgt := 30) hx hb dX12_man_23 (by decide) (fun cc1 => ?_) (fun cc1 => ?_)
  · replace hf := m_ifT hf cc1
    refine lv_aload_n hx hb dX12_man_30 rfl (lv_at hl 0 rfl) ?_
    refine m_get (v := .ref (h 24)) X hw_man hM 24 (by decide) fl_man_24 rfl dX12_man_31 ?_
    refine lv_iload_n hx hb dX12_man_34 rfl (lv_at hl 1 rfl) ?_
    obtain ⟨cd, hf⟩ := m_chkE hf
    refine m_iald X hM 24 20 64 rfl cd dX12_man_35 ?_
    clear cd
    obtain ⟨v2, ev, hf⟩ := m_bndE hf
    refine m_top ev ?_
    clear ev
    exact w_man_36 X hret hf hM (lv_sub hl [] rfl)
  · replace hf := m_ifF hf cc1
    refine lv_iconst (v := (0 : Int32)) hx hb dX12_man_26 (by decide) ?_
    refine lv_goto (tgt := 36) hx hb dX12_man_27 (by decide) ?_
    exact w_man_36 X hret hf hM (lv_sub hl [] rfl)
def f_man_11 (x1 : Int32) (I : Nat → Int32) (A : Nat → Nat → Int32) : Option (Int32 × MS) :=
  f_man_16 x1 (1 : Int32) I A

set_option maxRecDepth 100000 in
set_option maxHeartbeats 4000000 in
theorem w_man_11 {p : Program} {l : Launch} {e : Env} {s : State} {m : MethodId} {args : Array Value} {below : List Frame} {meth : Method} {c : Code} {Q : State → Prop} {D : va_G} {cy ci : ClassId} {h : Nat → Nat} {A0 : Nat → Prop} {o : Int32 × MS} (X : CallFix p m c cX12_man 2 s args wsX12_man RX12) (hret : mRi p l e ({ frames := 0, cells := 0, slots := 0, locals := 0 } : Room) s m args below meth c Q cX12_man D cy ci h A0 .int o) {x1 : Int32} {I : Nat → Int32} {A : Nat → Nat → Int32} {H : Heap} {locs : List Loc} {ls : Array Slot} (hf : f_man_11 x1 I A = some o) (hM : mH D cy ci h A0 s H locs I A) (hl : lv_has ls 2 [(0, .ref (h 0)), (1, .int x1)]) : W p l e ({ frames := 0, cells := 0, slots := 0, locals := 0 } : Room) s m args below meth c H locs 0 0 Q (F0 m 11 ls [.ref (h 0)]) := by
  obtain ⟨hx, hb, hml, hown, hts⟩ := id X
  unfold f_man_11 at hf
  refine lv_iconst (v := (1 : Int32)) hx hb dX12_man_11 (by decide) ?_
  refine lv_goto (tgt := 16) hx hb dX12_man_12 (by decide) ?_
  exact w_man_16 X hret hf hM (lv_sub hl [0, 1] rfl)
def f_man_0 (x1 : Int32) (I : Nat → Int32) (A : Nat → Nat → Int32) : Option (Int32 × MS) :=
  m_if (x1 < 0) (
  f_man_11 x1 I A
  ) (
  m_if (x1 ≤ (63 : Int32)) (
  f_man_16 x1 (0 : Int32) I A
  ) (
  f_man_11 x1 I A
  )
  )

set_option maxRecDepth 100000 in
set_option maxHeartbeats 4000000 in
theorem w_man_0 {p : Program} {l : Launch} {e : Env} {s : State} {m : MethodId} {args : Array Value} {below : List Frame} {meth : Method} {c : Code} {Q : State → Prop} {D : va_G} {cy ci : ClassId} {h : Nat → Nat} {A0 : Nat → Prop} {o : Int32 × MS} (X : CallFix p m c cX12_man 2 s args wsX12_man RX12) (hret : mRi p l e ({ frames := 0, cells := 0, slots := 0, locals := 0 } : Room) s m args below meth c Q cX12_man D cy ci h A0 .int o) {x1 : Int32} {I : Nat → Int32} {A : Nat → Nat → Int32} {H : Heap} {locs : List Loc} {ls : Array Slot} (hf : f_man_0 x1 I A = some o) (hM : mH D cy ci h A0 s H locs I A) (hl : lv_has ls 2 [(0, .ref (h 0)), (1, .int x1)]) : W p l e ({ frames := 0, cells := 0, slots := 0, locals := 0 } : Room) s m args below meth c H locs 0 0 Q (F0 m 0 ls []) := by
  obtain ⟨hx, hb, hml, hown, hts⟩ := id X
  unfold f_man_0 at hf
  refine lv_aload_n hx hb dX12_man_0 rfl (lv_at hl 0 rfl) ?_
  refine lv_iload_n hx hb dX12_man_1 rfl (lv_at hl 1 rfl) ?_
  refine lv_if_lt (tgt := 11) hx hb dX12_man_2 (by decide) (fun cc1 => ?_) (fun cc1 => ?_)
  · replace hf := m_ifT hf cc1
    exact w_man_11 X hret hf hM (lv_sub hl [0, 1] rfl)
  · replace hf := m_ifF hf cc1
    refine lv_iload_n hx hb dX12_man_5 rfl (lv_at hl 1 rfl) ?_
    refine lv_bipush (v := (63 : Int32)) hx hb dX12_man_6 (by decide) ?_
    refine lv_icmp_le (tgt := 15) hx hb dX12_man_8 (by decide) (fun cc1 => ?_) (fun cc1 => ?_)
    · replace hf := m_ifT hf cc1
      refine lv_iconst (v := (0 : Int32)) hx hb dX12_man_15 (by decide) ?_
      exact w_man_16 X hret hf hM (lv_sub hl [0, 1] rfl)
    · replace hf := m_ifF hf cc1
      exact w_man_11 X hret hf hM (lv_sub hl [0, 1] rfl)
def f_man (x1 : Int32) (I : Nat → Int32) (A : Nat → Nat → Int32) : Option (Int32 × MS) := f_man_0 x1 I A
theorem c_man {l : Launch} {D : va_G} {cy ci : ClassId} {h : Nat → Nat} {x1 : Int32} {I : Nat → Int32} {A : Nat → Nat → Int32} {o : Int32 × MS} (hf : f_man x1 I A = some o) : mMi l yX12_man wsX12_man ({ frames := 0, cells := 0, slots := 0, locals := 0 } : Room) [.ref (h 0), .int x1] D cy ci h I A o :=
  m_entryI (cc := cX12_man) (maxL := 2) (by decide) rfl rfl (Nat.le_of_ble_eq_true rfl) (fun p e s m args below meth c A0 Q H locs ls X hret hM hl => w_man_0 X hret hf hM (lv_sub hl [0, 1] rfl))
theorem hw_move : ∀ w ∈ wsX120, w ∈ wsX12_move := by decide +kernel
theorem fl_move_0 : Cond.fieldLink RX12 99 "MoveTextsModel" "thrown" "I" ∈ wsX12_move := by decide +kernel
theorem fl_move_32 : Cond.fieldLink RX12 79 "MoveTextsModel" "list" "[I" ∈ wsX12_move := by decide +kernel
theorem fl_move_33 : Cond.fieldLink RX12 170 "MoveTextsModel" "moves" "I" ∈ wsX12_move := by decide +kernel
theorem hd_move : yX12_move.cls = RX12 ∧ yX12_move.cls ≠ "java/lang/invoke/MethodHandle" ∧ yX12_move.cls ≠ "java/lang/invoke/VarHandle" ∧ (parseMethodDescriptor yX12_move.desc).map (fun d => d.parameters.length) = some 1 := by decide +kernel
def f_move_27 (t0 : Int32) (I : Nat → Int32) (A : Nat → Nat → Int32) : Option (Int32 × MS) :=
  some (t0, (I, A))

set_option maxRecDepth 100000 in
set_option maxHeartbeats 4000000 in
theorem w_move_27 {p : Program} {l : Launch} {e : Env} {s : State} {m : MethodId} {args : Array Value} {below : List Frame} {meth : Method} {c : Code} {Q : State → Prop} {D : va_G} {cy ci : ClassId} {h : Nat → Nat} {A0 : Nat → Prop} {o : Int32 × MS} (X : CallFix p m c cX12_move 2 s args wsX12_move RX12) (hret : mRi p l e ({ frames := 0, cells := 0, slots := 0, locals := 0 } : Room) s m args below meth c Q cX12_move D cy ci h A0 .int o) {t0 : Int32} {I : Nat → Int32} {A : Nat → Nat → Int32} {H : Heap} {locs : List Loc} {ls : Array Slot} (hf : f_move_27 t0 I A = some o) (hM : mH D cy ci h A0 s H locs I A) (hl : lv_has ls 2 []) : W p l e ({ frames := 0, cells := 0, slots := 0, locals := 0 } : Room) s m args below meth c H locs 0 0 Q (F0 m 27 ls [.int t0]) := by
  obtain ⟨hx, hb, hml, hown, hts⟩ := id X
  unfold f_move_27 at hf
  cases hf
  exact hret H locs _ ls hM rfl dX12_move_27
def f_move_17 (I : Nat → Int32) (A : Nat → Nat → Int32) : Option (Int32 × MS) :=
  f_move_27 (-1 : Int32) I A

set_option maxRecDepth 100000 in
set_option maxHeartbeats 4000000 in
theorem w_move_17 {p : Program} {l : Launch} {e : Env} {s : State} {m : MethodId} {args : Array Value} {below : List Frame} {meth : Method} {c : Code} {Q : State → Prop} {D : va_G} {cy ci : ClassId} {h : Nat → Nat} {A0 : Nat → Prop} {o : Int32 × MS} (X : CallFix p m c cX12_move 2 s args wsX12_move RX12) (hret : mRi p l e ({ frames := 0, cells := 0, slots := 0, locals := 0 } : Room) s m args below meth c Q cX12_move D cy ci h A0 .int o) {I : Nat → Int32} {A : Nat → Nat → Int32} {H : Heap} {locs : List Loc} {ls : Array Slot} (hf : f_move_17  I A = some o) (hM : mH D cy ci h A0 s H locs I A) (hl : lv_has ls 2 []) : W p l e ({ frames := 0, cells := 0, slots := 0, locals := 0 } : Room) s m args below meth c H locs 0 0 Q (F0 m 17 ls []) := by
  obtain ⟨hx, hb, hml, hown, hts⟩ := id X
  unfold f_move_17 at hf
  refine lv_iconst (v := (-1 : Int32)) hx hb dX12_move_17 (by decide) ?_
  refine lv_goto (tgt := 27) hx hb dX12_move_18 (by decide) ?_
  exact w_move_27 X hret hf hM (lv_sub hl [] rfl)
def f_move_0 (x1 : Int32) (I : Nat → Int32) (A : Nat → Nat → Int32) : Option (Int32 × MS) :=
  m_bnd (upd I 0 (0 : Int32)) (fun I1 =>
  m_if (x1 < 0) (
  f_move_17  I1 A
  ) (
  m_if (x1 < (I1 33)) (
  m_chk (¬ (x1 < 0 ∨ 2048 ≤ (x1).toNatClampNeg)) (
  m_bnd (A 32 (x1).toNatClampNeg) (fun v2 =>
  f_move_27 v2 I1 A))
  ) (
  f_move_17  I1 A
  )
  ))

set_option maxRecDepth 100000 in
set_option maxHeartbeats 4000000 in
theorem w_move_0 {p : Program} {l : Launch} {e : Env} {s : State} {m : MethodId} {args : Array Value} {below : List Frame} {meth : Method} {c : Code} {Q : State → Prop} {D : va_G} {cy ci : ClassId} {h : Nat → Nat} {A0 : Nat → Prop} {o : Int32 × MS} (X : CallFix p m c cX12_move 2 s args wsX12_move RX12) (hret : mRi p l e ({ frames := 0, cells := 0, slots := 0, locals := 0 } : Room) s m args below meth c Q cX12_move D cy ci h A0 .int o) {x1 : Int32} {I : Nat → Int32} {A : Nat → Nat → Int32} {H : Heap} {locs : List Loc} {ls : Array Slot} (hf : f_move_0 x1 I A = some o) (hM : mH D cy ci h A0 s H locs I A) (hl : lv_has ls 2 [(0, .ref (h 0)), (1, .int x1)]) : W p l e ({ frames := 0, cells := 0, slots := 0, locals := 0 } : Room) s m args below meth c H locs 0 0 Q (F0 m 0 ls []) := by
  obtain ⟨hx, hb, hml, hown, hts⟩ := id X
  unfold f_move_0 at hf
  refine lv_aload_n hx hb dX12_move_0 rfl (lv_at hl 0 rfl) ?_
  refine lv_iconst (v := (0 : Int32)) hx hb dX12_move_1 (by decide) ?_
  refine m_put X hw_move hM 0 (by decide) fl_move_0 mi_0 rfl (tyX12_ok 0 (by decide)) dX12_move_2 (fun H locs hM => ?_)
  obtain ⟨I1, ev, hf⟩ := m_bndE hf
  replace hM := m_hI hM ev
  clear ev
  refine lv_iload_n hx hb dX12_move_5 rfl (lv_at hl 1 rfl) ?_
  refine lv_if_lt (tgt := 17) hx hb dX12_move_6 (by decide) (fun cc1 => ?_) (fun cc1 => ?_)
  · replace hf := m_ifT hf cc1
    exact w_move_17 X hret hf hM (lv_sub hl [] rfl)
  · replace hf := m_ifF hf cc1
    refine lv_iload_n hx hb dX12_move_9 rfl (lv_at hl 1 rfl) ?_
    refine lv_aload_n hx hb dX12_move_10 rfl (lv_at hl 0 rfl) ?_
    refine m_get (v := .int (I1 33)) X hw_move hM 33 (by decide) fl_move_33 rfl dX12_move_11 ?_
    refine lv_icmp_lt (tgt := 21) hx hb dX12_move_14 (by decide) (fun cc1 => ?_) (fun cc1 => ?_)
    · replace hf := m_ifT hf cc1
      refine lv_aload_n hx hb dX12_move_21 rfl (lv_at hl 0 rfl) ?_
      refine m_get (v := .ref (h 32)) X hw_move hM 32 (by decide) fl_move_32 rfl dX12_move_22 ?_
      refine lv_iload_n hx hb dX12_move_25 rfl (lv_at hl 1 rfl) ?_
      obtain ⟨cd, hf⟩ := m_chkE hf
      refine m_iald X hM 32 23 2048 rfl cd dX12_move_26 ?_
      clear cd
      obtain ⟨v2, ev, hf⟩ := m_bndE hf
      refine m_top ev ?_
      clear ev
      exact w_move_27 X hret hf hM (lv_sub hl [] rfl)
    · replace hf := m_ifF hf cc1
      exact w_move_17 X hret hf hM (lv_sub hl [] rfl)
def f_move (x1 : Int32) (I : Nat → Int32) (A : Nat → Nat → Int32) : Option (Int32 × MS) := f_move_0 x1 I A
theorem c_move {l : Launch} {D : va_G} {cy ci : ClassId} {h : Nat → Nat} {x1 : Int32} {I : Nat → Int32} {A : Nat → Nat → Int32} {o : Int32 × MS} (hf : f_move x1 I A = some o) : mMi l yX12_move wsX12_move ({ frames := 0, cells := 0, slots := 0, locals := 0 } : Room) [.ref (h 0), .int x1] D cy ci h I A o :=
  m_entryI (cc := cX12_move) (maxL := 2) (by decide) rfl rfl (Nat.le_of_ble_eq_true rfl) (fun p e s m args below meth c A0 Q H locs ls X hret hM hl => w_move_0 X hret hf hM (lv_sub hl [0, 1] rfl))
theorem hw_add : ∀ w ∈ wsX120, w ∈ wsX12_add := by decide +kernel
theorem fl_add_0 : Cond.fieldLink RX12 99 "MoveTextsModel" "thrown" "I" ∈ wsX12_add := by decide +kernel
theorem fl_add_5 : Cond.fieldLink RX12 347 "MoveTextsModel" "game" "I" ∈ wsX12_add := by decide +kernel
theorem fl_add_6 : Cond.fieldLink RX12 353 "MoveTextsModel" "here" "I" ∈ wsX12_add := by decide +kernel
theorem fl_add_7 : Cond.fieldLink RX12 17 "MoveTextsModel" "count" "[I" ∈ wsX12_add := by decide +kernel
theorem fl_add_10 : Cond.fieldLink RX12 27 "MoveTextsModel" "child" "[I" ∈ wsX12_add := by decide +kernel
theorem hd_add : yX12_add.cls = RX12 ∧ yX12_add.cls ≠ "java/lang/invoke/MethodHandle" ∧ yX12_add.cls ≠ "java/lang/invoke/VarHandle" ∧ (parseMethodDescriptor yX12_add.desc).map (fun d => d.parameters.length) = some 1 := by decide +kernel
def f_add_137 (x2 : Int32) (I : Nat → Int32) (A : Nat → Nat → Int32) : Option (Int32 × MS) :=
  m_bnd (upd I 6 x2) (fun I1 =>
  m_cl (f_place (I1 5) (I1 6) I1 A) (fun r2 Ic2 Ac2 =>
  some (x2, (Ic2, Ac2))))

set_option maxRecDepth 100000 in
set_option maxHeartbeats 4000000 in
theorem w_add_137 {p : Program} {l : Launch} {e : Env} {s : State} {m : MethodId} {args : Array Value} {below : List Frame} {meth : Method} {c : Code} {Q : State → Prop} {D : va_G} {cy ci : ClassId} {h : Nat → Nat} {A0 : Nat → Prop} {o : Int32 × MS} (X : CallFix p m c cX12_add 4 s args wsX12_add RX12) (hret : mRi p l e ({ frames := 7, cells := 0, slots := 0, locals := 181 } : Room) s m args below meth c Q cX12_add D cy ci h A0 .int o) {x2 : Int32} {I : Nat → Int32} {A : Nat → Nat → Int32} {H : Heap} {locs : List Loc} {ls : Array Slot} (hf : f_add_137 x2 I A = some o) (hM : mH D cy ci h A0 s H locs I A) (hl : lv_has ls 4 [(0, .ref (h 0)), (2, .int x2)]) : W p l e ({ frames := 7, cells := 0, slots := 0, locals := 181 } : Room) s m args below meth c H locs 0 0 Q (F0 m 137 ls []) := by
  obtain ⟨hx, hb, hml, hown, hts⟩ := id X
  unfold f_add_137 at hf
  refine lv_aload_n hx hb dX12_add_137 rfl (lv_at hl 0 rfl) ?_
  refine lv_iload_n hx hb dX12_add_138 rfl (lv_at hl 1 rfl) ?_
  refine m_put X hw_add hM 6 (by decide) fl_add_6 mi_6 rfl (tyX12_ok 6 (by decide)) dX12_add_139 (fun H locs hM => ?_)
  obtain ⟨I1, ev, hf⟩ := m_bndE hf
  replace hM := m_hI hM ev
  clear ev
  refine lv_aload_n hx hb dX12_add_142 rfl (lv_at hl 0 rfl) ?_
  refine lv_aload_n hx hb dX12_add_143 rfl (lv_at hl 0 rfl) ?_
  refine m_get (v := .int (I1 5)) X hw_add hM 5 (by decide) fl_add_5 rfl dX12_add_144 ?_
  refine lv_aload_n hx hb dX12_add_147 rfl (lv_at hl 0 rfl) ?_
  refine m_get (v := .int (I1 6)) X hw_add hM 6 (by decide) fl_add_6 rfl dX12_add_148 ?_
  obtain ⟨o2, ho, hf⟩ := m_clE hf
  refine m_callVv X hM (c_place ho) gX12_add_X12_place rfl ⟨rfl, rfl⟩ hd_place ⟨Nat.le_of_ble_eq_true rfl, Nat.le_of_ble_eq_true rfl⟩ rfl hl.1 rfl (Nat.le_of_ble_eq_true rfl) dX12_add_151 (fun H locs hM => ?_)
  clear ho
  refine lv_iload_n hx hb dX12_add_154 rfl (lv_at hl 1 rfl) ?_
  cases hf
  exact hret H locs _ ls hM rfl dX12_add_155
def f_add_111 (x1 : Int32) (t0 : Int32) (I : Nat → Int32) (A : Nat → Nat → Int32) : Option (Int32 × MS) :=
  m_bnd (upd I 0 t0) (fun I1 =>
  m_if ((I1 0) ≤ 0) (
  m_cl (f_append (I1 5) (I1 6) x1 I1 A) (fun r2 Ic2 Ac2 =>
  f_add_137 r2 Ic2 Ac2)
  ) (
  some ((0 : Int32), (I1, A))
  ))

set_option maxRecDepth 100000 in
set_option maxHeartbeats 4000000 in
theorem w_add_111 {p : Program} {l : Launch} {e : Env} {s : State} {m : MethodId} {args : Array Value} {below : List Frame} {meth : Method} {c : Code} {Q : State → Prop} {D : va_G} {cy ci : ClassId} {h : Nat → Nat} {A0 : Nat → Prop} {o : Int32 × MS} (X : CallFix p m c cX12_add 4 s args wsX12_add RX12) (hret : mRi p l e ({ frames := 7, cells := 0, slots := 0, locals := 181 } : Room) s m args below meth c Q cX12_add D cy ci h A0 .int o) {x1 : Int32} {t0 : Int32} {I : Nat → Int32} {A : Nat → Nat → Int32} {H : Heap} {locs : List Loc} {ls : Array Slot} (hf : f_add_111 x1 t0 I A = some o) (hM : mH D cy ci h A0 s H locs I A) (hl : lv_has ls 4 [(0, .ref (h 0)), (1, .int x1)]) : W p l e ({ frames := 7, cells := 0, slots := 0, locals := 181 } : Room) s m args below meth c H locs 0 0 Q (F0 m 111 ls [.int t0, .ref (h 0)]) := by
  obtain ⟨hx, hb, hml, hown, hts⟩ := id X
  unfold f_add_111 at hf
  refine m_put X hw_add hM 0 (by decide) fl_add_0 mi_0 rfl (tyX12_ok 0 (by decide)) dX12_add_111 (fun H locs hM => ?_)
  obtain ⟨I1, ev, hf⟩ := m_bndE hf
  replace hM := m_hI hM ev
  clear ev
  refine lv_aload_n hx hb dX12_add_114 rfl (lv_at hl 0 rfl) ?_
  refine m_get (v := .int (I1 0)) X hw_add hM 0 (by decide) fl_add_0 rfl dX12_add_115 ?_
  refine lv_if_le (tgt := 123) hx hb dX12_add_118 (by decide) (fun cc1 => ?_) (fun cc1 => ?_)
  · replace hf := m_ifT hf cc1
    refine lv_aload_n hx hb dX12_add_123 rfl (lv_at hl 0 rfl) ?_
    refine lv_aload_n hx hb dX12_add_124 rfl (lv_at hl 0 rfl) ?_
    refine m_get (v := .int (I1 5)) X hw_add hM 5 (by decide) fl_add_5 rfl dX12_add_125 ?_
    refine lv_aload_n hx hb dX12_add_128 rfl (lv_at hl 0 rfl) ?_
    refine m_get (v := .int (I1 6)) X hw_add hM 6 (by decide) fl_add_6 rfl dX12_add_129 ?_
    refine lv_iload_n hx hb dX12_add_132 rfl (lv_at hl 1 rfl) ?_
    obtain ⟨o2, ho, hf⟩ := m_clE hf
    refine m_callVi X hM (c_append ho) gX12_add_X12_append rfl ⟨rfl, rfl⟩ hd_append ⟨Nat.le_of_ble_eq_true rfl, Nat.le_of_ble_eq_true rfl⟩ rfl hl.1 rfl (Nat.le_of_ble_eq_true rfl) dX12_add_133 (fun H locs hM => ?_)
    clear ho
    refine lv_istore_n (lv' := [(2, .int o2.1), (0, .ref (h 0)), (1, .int x1)]) hx hb dX12_add_136 rfl hl (by decide) rfl (fun ls hl => ?_)
    exact w_add_137 X hret hf hM (lv_sub hl [1, 0] rfl)
  · replace hf := m_ifF hf cc1
    refine lv_iconst (v := (0 : Int32)) hx hb dX12_add_121 (by decide) ?_
    cases hf
    exact hret H locs _ ls hM rfl dX12_add_122
def f_add_106 (x1 : Int32) (I : Nat → Int32) (A : Nat → Nat → Int32) : Option (Int32 × MS) :=
  f_add_111 x1 (2 : Int32) I A

set_option maxRecDepth 100000 in
set_option maxHeartbeats 4000000 in
theorem w_add_106 {p : Program} {l : Launch} {e : Env} {s : State} {m : MethodId} {args : Array Value} {below : List Frame} {meth : Method} {c : Code} {Q : State → Prop} {D : va_G} {cy ci : ClassId} {h : Nat → Nat} {A0 : Nat → Prop} {o : Int32 × MS} (X : CallFix p m c cX12_add 4 s args wsX12_add RX12) (hret : mRi p l e ({ frames := 7, cells := 0, slots := 0, locals := 181 } : Room) s m args below meth c Q cX12_add D cy ci h A0 .int o) {x1 : Int32} {I : Nat → Int32} {A : Nat → Nat → Int32} {H : Heap} {locs : List Loc} {ls : Array Slot} (hf : f_add_106 x1 I A = some o) (hM : mH D cy ci h A0 s H locs I A) (hl : lv_has ls 4 [(0, .ref (h 0)), (1, .int x1)]) : W p l e ({ frames := 7, cells := 0, slots := 0, locals := 181 } : Room) s m args below meth c H locs 0 0 Q (F0 m 106 ls [.ref (h 0)]) := by
  obtain ⟨hx, hb, hml, hown, hts⟩ := id X
  unfold f_add_106 at hf
  refine lv_iconst (v := (2 : Int32)) hx hb dX12_add_106 (by decide) ?_
  refine lv_goto (tgt := 111) hx hb dX12_add_107 (by decide) ?_
  exact w_add_111 X hret hf hM (lv_sub hl [0, 1] rfl)
def f_add_82 (x1 : Int32) (t0 : Int32) (t1 : Int32) (I : Nat → Int32) (A : Nat → Nat → Int32) : Option (Int32 × MS) :=
  m_bnd (t1 + t0) (fun v1 =>
  m_chk (¬ ((I 5) < 0 ∨ 2 ≤ ((I 5)).toNatClampNeg)) (
  m_bnd (A 7 ((I 5)).toNatClampNeg) (fun v2 =>
  m_if (v2 = (300 : Int32)) (
  f_add_106 x1 I A
  ) (
  m_if (v1 ≤ (6 : Int32)) (
  f_add_111 x1 (0 : Int32) I A
  ) (
  f_add_106 x1 I A
  )
  ))))

set_option maxRecDepth 100000 in
set_option maxHeartbeats 4000000 in
theorem w_add_82 {p : Program} {l : Launch} {e : Env} {s : State} {m : MethodId} {args : Array Value} {below : List Frame} {meth : Method} {c : Code} {Q : State → Prop} {D : va_G} {cy ci : ClassId} {h : Nat → Nat} {A0 : Nat → Prop} {o : Int32 × MS} (X : CallFix p m c cX12_add 4 s args wsX12_add RX12) (hret : mRi p l e ({ frames := 7, cells := 0, slots := 0, locals := 181 } : Room) s m args below meth c Q cX12_add D cy ci h A0 .int o) {x1 : Int32} {t0 : Int32} {t1 : Int32} {I : Nat → Int32} {A : Nat → Nat → Int32} {H : Heap} {locs : List Loc} {ls : Array Slot} (hf : f_add_82 x1 t0 t1 I A = some o) (hM : mH D cy ci h A0 s H locs I A) (hl : lv_has ls 4 [(0, .ref (h 0)), (1, .int x1)]) : W p l e ({ frames := 7, cells := 0, slots := 0, locals := 181 } : Room) s m args below meth c H locs 0 0 Q (F0 m 82 ls [.int t0, .int t1]) := by
  obtain ⟨hx, hb, hml, hown, hts⟩ := id X
  unfold f_add_82 at hf
  refine lv_iadd hx hb dX12_add_82 ?_
  obtain ⟨v1, ev, hf⟩ := m_bndE hf
  refine m_top ev ?_
  clear ev
  refine lv_istore_n (lv' := [(3, .int v1), (0, .ref (h 0)), (1, .int x1)]) hx hb dX12_add_83 rfl hl (by decide) rfl (fun ls hl => ?_)
  refine lv_aload_n hx hb dX12_add_84 rfl (lv_at hl 1 rfl) ?_
  refine lv_aload_n hx hb dX12_add_85 rfl (lv_at hl 1 rfl) ?_
  refine m_get (v := .ref (h 7)) X hw_add hM 7 (by decide) fl_add_7 rfl dX12_add_86 ?_
  refine lv_aload_n hx hb dX12_add_89 rfl (lv_at hl 1 rfl) ?_
  refine m_get (v := .int (I 5)) X hw_add hM 5 (by decide) fl_add_5 rfl dX12_add_90 ?_
  obtain ⟨cd, hf⟩ := m_chkE hf
  refine m_iald X hM 7 3 2 rfl cd dX12_add_93 ?_
  clear cd
  obtain ⟨v2, ev, hf⟩ := m_bndE hf
  refine m_top ev ?_
  clear ev
  refine lv_sipush (v := (300 : Int32)) hx hb dX12_add_94 (by decide) ?_
  refine lv_icmp_eq (tgt := 106) hx hb dX12_add_97 (by decide) (fun cc1 => ?_) (fun cc1 => ?_)
  · replace hf := m_ifT hf cc1
    exact w_add_106 X hret hf hM (lv_sub hl [1, 2] rfl)
  · replace hf := m_ifF hf cc1
    refine lv_iload_n hx hb dX12_add_100 rfl (lv_at hl 0 rfl) ?_
    refine lv_bipush (v := (6 : Int32)) hx hb dX12_add_101 (by decide) ?_
    refine lv_icmp_le (tgt := 110) hx hb dX12_add_103 (by decide) (fun cc1 => ?_) (fun cc1 => ?_)
    · replace hf := m_ifT hf cc1
      refine lv_iconst (v := (0 : Int32)) hx hb dX12_add_110 (by decide) ?_
      exact w_add_111 X hret hf hM (lv_sub hl [1, 2] rfl)
    · replace hf := m_ifF hf cc1
      exact w_add_106 X hret hf hM (lv_sub hl [1, 2] rfl)
def f_add_14 (x1 : Int32) (t0 : Int32) (I : Nat → Int32) (A : Nat → Nat → Int32) : Option (Int32 × MS) :=
  m_bnd (upd I 0 t0) (fun I1 =>
  m_if ((I1 0) ≤ 0) (
  m_cl (f_childWith (I1 5) (I1 6) x1 I1 A) (fun r2 Ic2 Ac2 =>
  m_if (0 ≤ r2) (
  f_add_137 r2 Ic2 Ac2
  ) (
  m_cl (f_deepOf (Ic2 5) (Ic2 6) Ic2 Ac2) (fun r3 Ic3 Ac3 =>
  m_bnd ((301 : Int32) * (Ic3 5)) (fun v4 =>
  m_bnd (v4 + (Ic3 6)) (fun v5 =>
  m_chk (¬ (v5 < 0 ∨ 602 ≤ (v5).toNatClampNeg)) (
  m_bnd (Ac3 10 (v5).toNatClampNeg) (fun v6 =>
  m_if (v6 < 0) (
  f_add_82 x1 (0 : Int32) r3 Ic3 Ac3
  ) (
  f_add_82 x1 (1 : Int32) r3 Ic3 Ac3
  ))))))
  ))
  ) (
  some ((0 : Int32), (I1, A))
  ))

set_option maxRecDepth 100000 in
set_option maxHeartbeats 4000000 in
theorem w_add_14 {p : Program} {l : Launch} {e : Env} {s : State} {m : MethodId} {args : Array Value} {below : List Frame} {meth : Method} {c : Code} {Q : State → Prop} {D : va_G} {cy ci : ClassId} {h : Nat → Nat} {A0 : Nat → Prop} {o : Int32 × MS} (X : CallFix p m c cX12_add 4 s args wsX12_add RX12) (hret : mRi p l e ({ frames := 7, cells := 0, slots := 0, locals := 181 } : Room) s m args below meth c Q cX12_add D cy ci h A0 .int o) {x1 : Int32} {t0 : Int32} {I : Nat → Int32} {A : Nat → Nat → Int32} {H : Heap} {locs : List Loc} {ls : Array Slot} (hf : f_add_14 x1 t0 I A = some o) (hM : mH D cy ci h A0 s H locs I A) (hl : lv_has ls 4 [(0, .ref (h 0)), (1, .int x1)]) : W p l e ({ frames := 7, cells := 0, slots := 0, locals := 181 } : Room) s m args below meth c H locs 0 0 Q (F0 m 14 ls [.int t0, .ref (h 0)]) := by
  obtain ⟨hx, hb, hml, hown, hts⟩ := id X
  unfold f_add_14 at hf
  refine m_put X hw_add hM 0 (by decide) fl_add_0 mi_0 rfl (tyX12_ok 0 (by decide)) dX12_add_14 (fun H locs hM => ?_)
  obtain ⟨I1, ev, hf⟩ := m_bndE hf
  replace hM := m_hI hM ev
  clear ev
  refine lv_aload_n hx hb dX12_add_17 rfl (lv_at hl 0 rfl) ?_
  refine m_get (v := .int (I1 0)) X hw_add hM 0 (by decide) fl_add_0 rfl dX12_add_18 ?_
  refine lv_if_le (tgt := 26) hx hb dX12_add_21 (by decide) (fun cc1 => ?_) (fun cc1 => ?_)
  · replace hf := m_ifT hf cc1
    refine lv_aload_n hx hb dX12_add_26 rfl (lv_at hl 0 rfl) ?_
    refine lv_aload_n hx hb dX12_add_27 rfl (lv_at hl 0 rfl) ?_
    refine m_get (v := .int (I1 5)) X hw_add hM 5 (by decide) fl_add_5 rfl dX12_add_28 ?_
    refine lv_aload_n hx hb dX12_add_31 rfl (lv_at hl 0 rfl) ?_
    refine m_get (v := .int (I1 6)) X hw_add hM 6 (by decide) fl_add_6 rfl dX12_add_32 ?_
    refine lv_iload_n hx hb dX12_add_35 rfl (lv_at hl 1 rfl) ?_
    obtain ⟨o2, ho, hf⟩ := m_clE hf
    refine m_callVi X hM (c_childWith ho) gX12_add_X12_childWith rfl ⟨rfl, rfl⟩ hd_childWith ⟨Nat.le_of_ble_eq_true rfl, Nat.le_of_ble_eq_true rfl⟩ rfl hl.1 rfl (Nat.le_of_ble_eq_true rfl) dX12_add_36 (fun H locs hM => ?_)
    clear ho
    refine lv_istore_n (lv' := [(2, .int o2.1), (0, .ref (h 0)), (1, .int x1)]) hx hb dX12_add_39 rfl hl (by decide) rfl (fun ls hl => ?_)
    refine lv_iload_n hx hb dX12_add_40 rfl (lv_at hl 0 rfl) ?_
    refine lv_if_ge (tgt := 137) hx hb dX12_add_41 (by decide) (fun cc1 => ?_) (fun cc1 => ?_)
    · replace hf := m_ifT hf cc1
      exact w_add_137 X hret hf hM (lv_sub hl [1, 0] rfl)
    · replace hf := m_ifF hf cc1
      refine lv_aload_n hx hb dX12_add_44 rfl (lv_at hl 1 rfl) ?_
      refine lv_aload_n hx hb dX12_add_45 rfl (lv_at hl 1 rfl) ?_
      refine m_get (v := .int (o2.2.1 5)) X hw_add hM 5 (by decide) fl_add_5 rfl dX12_add_46 ?_
      refine lv_aload_n hx hb dX12_add_49 rfl (lv_at hl 1 rfl) ?_
      refine m_get (v := .int (o2.2.1 6)) X hw_add hM 6 (by decide) fl_add_6 rfl dX12_add_50 ?_
      obtain ⟨o3, ho, hf⟩ := m_clE hf
      refine m_callVi X hM (c_deepOf ho) gX12_add_X12_deepOf rfl ⟨rfl, rfl⟩ hd_deepOf ⟨Nat.le_of_ble_eq_true rfl, Nat.le_of_ble_eq_true rfl⟩ rfl hl.1 rfl (Nat.le_of_ble_eq_true rfl) dX12_add_53 (fun H locs hM => ?_)
      clear ho
      refine lv_aload_n hx hb dX12_add_56 rfl (lv_at hl 1 rfl) ?_
      refine m_get (v := .ref (h 10)) X hw_add hM 10 (by decide) fl_add_10 rfl dX12_add_57 ?_
      refine lv_sipush (v := (301 : Int32)) hx hb dX12_add_60 (by decide) ?_
      refine lv_aload_n hx hb dX12_add_63 rfl (lv_at hl 1 rfl) ?_
      refine m_get (v := .int (o3.2.1 5)) X hw_add hM 5 (by decide) fl_add_5 rfl dX12_add_64 ?_
      refine lv_imul hx hb dX12_add_67 ?_
      obtain ⟨v4, ev, hf⟩ := m_bndE hf
      refine m_top ev ?_
      clear ev
      refine lv_aload_n hx hb dX12_add_68 rfl (lv_at hl 1 rfl) ?_
      refine m_get (v := .int (o3.2.1 6)) X hw_add hM 6 (by decide) fl_add_6 rfl dX12_add_69 ?_
      refine lv_iadd hx hb dX12_add_72 ?_
      obtain ⟨v5, ev, hf⟩ := m_bndE hf
      refine m_top ev ?_
      clear ev
      obtain ⟨cd, hf⟩ := m_chkE hf
      refine m_iald X hM 10 6 602 rfl cd dX12_add_73 ?_
      clear cd
      obtain ⟨v6, ev, hf⟩ := m_bndE hf
      refine m_top ev ?_
      clear ev
      refine lv_if_lt (tgt := 81) hx hb dX12_add_74 (by decide) (fun cc1 => ?_) (fun cc1 => ?_)
      · replace hf := m_ifT hf cc1
        refine lv_iconst (v := (0 : Int32)) hx hb dX12_add_81 (by decide) ?_
        exact w_add_82 X hret hf hM (lv_sub hl [1, 2] rfl)
      · replace hf := m_ifF hf cc1
        refine lv_iconst (v := (1 : Int32)) hx hb dX12_add_77 (by decide) ?_
        refine lv_goto (tgt := 82) hx hb dX12_add_78 (by decide) ?_
        exact w_add_82 X hret hf hM (lv_sub hl [1, 2] rfl)
  · replace hf := m_ifF hf cc1
    refine lv_iconst (v := (0 : Int32)) hx hb dX12_add_24 (by decide) ?_
    cases hf
    exact hret H locs _ ls hM rfl dX12_add_25
def f_add_0 (x1 : Int32) (I : Nat → Int32) (A : Nat → Nat → Int32) : Option (Int32 × MS) :=
  m_cl (f_isLegal x1 I A) (fun r1 Ic1 Ac1 =>
  m_if (r1 = 0) (
  f_add_14 x1 (1 : Int32) Ic1 Ac1
  ) (
  f_add_14 x1 (0 : Int32) Ic1 Ac1
  ))

set_option maxRecDepth 100000 in
set_option maxHeartbeats 4000000 in
theorem w_add_0 {p : Program} {l : Launch} {e : Env} {s : State} {m : MethodId} {args : Array Value} {below : List Frame} {meth : Method} {c : Code} {Q : State → Prop} {D : va_G} {cy ci : ClassId} {h : Nat → Nat} {A0 : Nat → Prop} {o : Int32 × MS} (X : CallFix p m c cX12_add 4 s args wsX12_add RX12) (hret : mRi p l e ({ frames := 7, cells := 0, slots := 0, locals := 181 } : Room) s m args below meth c Q cX12_add D cy ci h A0 .int o) {x1 : Int32} {I : Nat → Int32} {A : Nat → Nat → Int32} {H : Heap} {locs : List Loc} {ls : Array Slot} (hf : f_add_0 x1 I A = some o) (hM : mH D cy ci h A0 s H locs I A) (hl : lv_has ls 4 [(0, .ref (h 0)), (1, .int x1)]) : W p l e ({ frames := 7, cells := 0, slots := 0, locals := 181 } : Room) s m args below meth c H locs 0 0 Q (F0 m 0 ls []) := by
  obtain ⟨hx, hb, hml, hown, hts⟩ := id X
  unfold f_add_0 at hf
  refine lv_aload_n hx hb dX12_add_0 rfl (lv_at hl 0 rfl) ?_
  refine lv_aload_n hx hb dX12_add_1 rfl (lv_at hl 0 rfl) ?_
  refine lv_iload_n hx hb dX12_add_2 rfl (lv_at hl 1 rfl) ?_
  obtain ⟨o1, ho, hf⟩ := m_clE hf
  refine m_callVi X hM (c_isLegal ho) gX12_add_X12_isLegal rfl ⟨rfl, rfl⟩ hd_isLegal ⟨Nat.le_of_ble_eq_true rfl, Nat.le_of_ble_eq_true rfl⟩ rfl hl.1 rfl (Nat.le_of_ble_eq_true rfl) dX12_add_3 (fun H locs hM => ?_)
  clear ho
  refine lv_if_eq (tgt := 13) hx hb dX12_add_6 (by decide) (fun cc1 => ?_) (fun cc1 => ?_)
  · replace hf := m_ifT hf cc1
    refine lv_iconst (v := (1 : Int32)) hx hb dX12_add_13 (by decide) ?_
    exact w_add_14 X hret hf hM (lv_sub hl [0, 1] rfl)
  · replace hf := m_ifF hf cc1
    refine lv_iconst (v := (0 : Int32)) hx hb dX12_add_9 (by decide) ?_
    refine lv_goto (tgt := 14) hx hb dX12_add_10 (by decide) ?_
    exact w_add_14 X hret hf hM (lv_sub hl [0, 1] rfl)
def f_add (x1 : Int32) (I : Nat → Int32) (A : Nat → Nat → Int32) : Option (Int32 × MS) := f_add_0 x1 I A
theorem c_add {l : Launch} {D : va_G} {cy ci : ClassId} {h : Nat → Nat} {x1 : Int32} {I : Nat → Int32} {A : Nat → Nat → Int32} {o : Int32 × MS} (hf : f_add x1 I A = some o) : mMi l yX12_add wsX12_add ({ frames := 7, cells := 0, slots := 0, locals := 181 } : Room) [.ref (h 0), .int x1] D cy ci h I A o :=
  m_entryI (cc := cX12_add) (maxL := 4) (by decide) rfl rfl (Nat.le_of_ble_eq_true rfl) (fun p e s m args below meth c A0 Q H locs ls X hret hM hl => w_add_0 X hret hf hM (lv_sub hl [0, 1] rfl))
theorem hw_addMark : ∀ w ∈ wsX120, w ∈ wsX12_addMark := by decide +kernel
theorem fl_addMark_0 : Cond.fieldLink RX12 99 "MoveTextsModel" "thrown" "I" ∈ wsX12_addMark := by decide +kernel
theorem fl_addMark_5 : Cond.fieldLink RX12 347 "MoveTextsModel" "game" "I" ∈ wsX12_addMark := by decide +kernel
theorem fl_addMark_6 : Cond.fieldLink RX12 353 "MoveTextsModel" "here" "I" ∈ wsX12_addMark := by decide +kernel
theorem fl_addMark_12 : Cond.fieldLink RX12 33 "MoveTextsModel" "markCount" "[I" ∈ wsX12_addMark := by decide +kernel
theorem hd_addMark : yX12_addMark.cls = RX12 ∧ yX12_addMark.cls ≠ "java/lang/invoke/MethodHandle" ∧ yX12_addMark.cls ≠ "java/lang/invoke/VarHandle" ∧ (parseMethodDescriptor yX12_addMark.desc).map (fun d => d.parameters.length) = some 1 := by decide +kernel
def f_addMark_50 (x1 : Int32) (t0 : Int32) (I : Nat → Int32) (A : Nat → Nat → Int32) : Option (Int32 × MS) :=
  m_bnd (upd I 0 t0) (fun I1 =>
  m_if ((I1 0) ≤ 0) (
  m_cl (f_addMarkTo (I1 5) (I1 6) x1 I1 A) (fun r2 Ic2 Ac2 =>
  m_bnd ((301 : Int32) * (Ic2 5)) (fun v3 =>
  m_bnd (v3 + (Ic2 6)) (fun v4 =>
  m_chk (¬ (v4 < 0 ∨ 602 ≤ (v4).toNatClampNeg)) (
  m_bnd (Ac2 12 (v4).toNatClampNeg) (fun v5 =>
  some (v5, (Ic2, Ac2)))))))
  ) (
  some ((0 : Int32), (I1, A))
  ))

set_option maxRecDepth 100000 in
set_option maxHeartbeats 4000000 in
theorem w_addMark_50 {p : Program} {l : Launch} {e : Env} {s : State} {m : MethodId} {args : Array Value} {below : List Frame} {meth : Method} {c : Code} {Q : State → Prop} {D : va_G} {cy ci : ClassId} {h : Nat → Nat} {A0 : Nat → Prop} {o : Int32 × MS} (X : CallFix p m c cX12_addMark 2 s args wsX12_addMark RX12) (hret : mRi p l e ({ frames := 1, cells := 0, slots := 0, locals := 24 } : Room) s m args below meth c Q cX12_addMark D cy ci h A0 .int o) {x1 : Int32} {t0 : Int32} {I : Nat → Int32} {A : Nat → Nat → Int32} {H : Heap} {locs : List Loc} {ls : Array Slot} (hf : f_addMark_50 x1 t0 I A = some o) (hM : mH D cy ci h A0 s H locs I A) (hl : lv_has ls 2 [(0, .ref (h 0)), (1, .int x1)]) : W p l e ({ frames := 1, cells := 0, slots := 0, locals := 24 } : Room) s m args below meth c H locs 0 0 Q (F0 m 50 ls [.int t0, .ref (h 0)]) := by
  obtain ⟨hx, hb, hml, hown, hts⟩ := id X
  unfold f_addMark_50 at hf
  refine m_put X hw_addMark hM 0 (by decide) fl_addMark_0 mi_0 rfl (tyX12_ok 0 (by decide)) dX12_addMark_50 (fun H locs hM => ?_)
  obtain ⟨I1, ev, hf⟩ := m_bndE hf
  replace hM := m_hI hM ev
  clear ev
  refine lv_aload_n hx hb dX12_addMark_53 rfl (lv_at hl 0 rfl) ?_
  refine m_get (v := .int (I1 0)) X hw_addMark hM 0 (by decide) fl_addMark_0 rfl dX12_addMark_54 ?_
  refine lv_if_le (tgt := 62) hx hb dX12_addMark_57 (by decide) (fun cc1 => ?_) (fun cc1 => ?_)
  · replace hf := m_ifT hf cc1
    refine lv_aload_n hx hb dX12_addMark_62 rfl (lv_at hl 0 rfl) ?_
    refine lv_aload_n hx hb dX12_addMark_63 rfl (lv_at hl 0 rfl) ?_
    refine m_get (v := .int (I1 5)) X hw_addMark hM 5 (by decide) fl_addMark_5 rfl dX12_addMark_64 ?_
    refine lv_aload_n hx hb dX12_addMark_67 rfl (lv_at hl 0 rfl) ?_
    refine m_get (v := .int (I1 6)) X hw_addMark hM 6 (by decide) fl_addMark_6 rfl dX12_addMark_68 ?_
    refine lv_iload_n hx hb dX12_addMark_71 rfl (lv_at hl 1 rfl) ?_
    obtain ⟨o2, ho, hf⟩ := m_clE hf
    refine m_callVv X hM (c_addMarkTo ho) gX12_addMark_X12_addMarkTo rfl ⟨rfl, rfl⟩ hd_addMarkTo ⟨Nat.le_of_ble_eq_true rfl, Nat.le_of_ble_eq_true rfl⟩ rfl hl.1 rfl (Nat.le_of_ble_eq_true rfl) dX12_addMark_72 (fun H locs hM => ?_)
    clear ho
    refine lv_aload_n hx hb dX12_addMark_75 rfl (lv_at hl 0 rfl) ?_
    refine m_get (v := .ref (h 12)) X hw_addMark hM 12 (by decide) fl_addMark_12 rfl dX12_addMark_76 ?_
    refine lv_sipush (v := (301 : Int32)) hx hb dX12_addMark_79 (by decide) ?_
    refine lv_aload_n hx hb dX12_addMark_82 rfl (lv_at hl 0 rfl) ?_
    refine m_get (v := .int (o2.2.1 5)) X hw_addMark hM 5 (by decide) fl_addMark_5 rfl dX12_addMark_83 ?_
    refine lv_imul hx hb dX12_addMark_86 ?_
    obtain ⟨v3, ev, hf⟩ := m_bndE hf
    refine m_top ev ?_
    clear ev
    refine lv_aload_n hx hb dX12_addMark_87 rfl (lv_at hl 0 rfl) ?_
    refine m_get (v := .int (o2.2.1 6)) X hw_addMark hM 6 (by decide) fl_addMark_6 rfl dX12_addMark_88 ?_
    refine lv_iadd hx hb dX12_addMark_91 ?_
    obtain ⟨v4, ev, hf⟩ := m_bndE hf
    refine m_top ev ?_
    clear ev
    obtain ⟨cd, hf⟩ := m_chkE hf
    refine m_iald X hM 12 8 602 rfl cd dX12_addMark_92 ?_
    clear cd
    obtain ⟨v5, ev, hf⟩ := m_bndE hf
    refine m_top ev ?_
    clear ev
    cases hf
    exact hret H locs _ ls hM rfl dX12_addMark_93
  · replace hf := m_ifF hf cc1
    refine lv_iconst (v := (0 : Int32)) hx hb dX12_addMark_60 (by decide) ?_
    cases hf
    exact hret H locs _ ls hM rfl dX12_addMark_61
def f_addMark_12 (x1 : Int32) (I : Nat → Int32) (A : Nat → Nat → Int32) : Option (Int32 × MS) :=
  f_addMark_50 x1 (1 : Int32) I A

set_option maxRecDepth 100000 in
set_option maxHeartbeats 4000000 in
theorem w_addMark_12 {p : Program} {l : Launch} {e : Env} {s : State} {m : MethodId} {args : Array Value} {below : List Frame} {meth : Method} {c : Code} {Q : State → Prop} {D : va_G} {cy ci : ClassId} {h : Nat → Nat} {A0 : Nat → Prop} {o : Int32 × MS} (X : CallFix p m c cX12_addMark 2 s args wsX12_addMark RX12) (hret : mRi p l e ({ frames := 1, cells := 0, slots := 0, locals := 24 } : Room) s m args below meth c Q cX12_addMark D cy ci h A0 .int o) {x1 : Int32} {I : Nat → Int32} {A : Nat → Nat → Int32} {H : Heap} {locs : List Loc} {ls : Array Slot} (hf : f_addMark_12 x1 I A = some o) (hM : mH D cy ci h A0 s H locs I A) (hl : lv_has ls 2 [(0, .ref (h 0)), (1, .int x1)]) : W p l e ({ frames := 1, cells := 0, slots := 0, locals := 24 } : Room) s m args below meth c H locs 0 0 Q (F0 m 12 ls [.ref (h 0)]) := by
  obtain ⟨hx, hb, hml, hown, hts⟩ := id X
  unfold f_addMark_12 at hf
  refine lv_iconst (v := (1 : Int32)) hx hb dX12_addMark_12 (by decide) ?_
  refine lv_goto (tgt := 50) hx hb dX12_addMark_13 (by decide) ?_
  exact w_addMark_50 X hret hf hM (lv_sub hl [0, 1] rfl)
def f_addMark_45 (x1 : Int32) (I : Nat → Int32) (A : Nat → Nat → Int32) : Option (Int32 × MS) :=
  f_addMark_50 x1 (2 : Int32) I A

set_option maxRecDepth 100000 in
set_option maxHeartbeats 4000000 in
theorem w_addMark_45 {p : Program} {l : Launch} {e : Env} {s : State} {m : MethodId} {args : Array Value} {below : List Frame} {meth : Method} {c : Code} {Q : State → Prop} {D : va_G} {cy ci : ClassId} {h : Nat → Nat} {A0 : Nat → Prop} {o : Int32 × MS} (X : CallFix p m c cX12_addMark 2 s args wsX12_addMark RX12) (hret : mRi p l e ({ frames := 1, cells := 0, slots := 0, locals := 24 } : Room) s m args below meth c Q cX12_addMark D cy ci h A0 .int o) {x1 : Int32} {I : Nat → Int32} {A : Nat → Nat → Int32} {H : Heap} {locs : List Loc} {ls : Array Slot} (hf : f_addMark_45 x1 I A = some o) (hM : mH D cy ci h A0 s H locs I A) (hl : lv_has ls 2 [(0, .ref (h 0)), (1, .int x1)]) : W p l e ({ frames := 1, cells := 0, slots := 0, locals := 24 } : Room) s m args below meth c H locs 0 0 Q (F0 m 45 ls [.ref (h 0)]) := by
  obtain ⟨hx, hb, hml, hown, hts⟩ := id X
  unfold f_addMark_45 at hf
  refine lv_iconst (v := (2 : Int32)) hx hb dX12_addMark_45 (by decide) ?_
  refine lv_goto (tgt := 50) hx hb dX12_addMark_46 (by decide) ?_
  exact w_addMark_50 X hret hf hM (lv_sub hl [0, 1] rfl)
def f_addMark_0 (x1 : Int32) (I : Nat → Int32) (A : Nat → Nat → Int32) : Option (Int32 × MS) :=
  m_if (x1 < 0) (
  f_addMark_12 x1 I A
  ) (
  m_if (x1 ≤ (255 : Int32)) (
  m_if ((I 6) = 0) (
  f_addMark_45 x1 I A
  ) (
  m_bnd ((301 : Int32) * (I 5)) (fun v1 =>
  m_bnd (v1 + (I 6)) (fun v2 =>
  m_chk (¬ (v2 < 0 ∨ 602 ≤ (v2).toNatClampNeg)) (
  m_bnd (A 12 (v2).toNatClampNeg) (fun v3 =>
  m_if (v3 = (4 : Int32)) (
  f_addMark_45 x1 I A
  ) (
  f_addMark_50 x1 (0 : Int32) I A
  )))))
  )
  ) (
  f_addMark_12 x1 I A
  )
  )

set_option maxRecDepth 100000 in
set_option maxHeartbeats 4000000 in
theorem w_addMark_0 {p : Program} {l : Launch} {e : Env} {s : State} {m : MethodId} {args : Array Value} {below : List Frame} {meth : Method} {c : Code} {Q : State → Prop} {D : va_G} {cy ci : ClassId} {h : Nat → Nat} {A0 : Nat → Prop} {o : Int32 × MS} (X : CallFix p m c cX12_addMark 2 s args wsX12_addMark RX12) (hret : mRi p l e ({ frames := 1, cells := 0, slots := 0, locals := 24 } : Room) s m args below meth c Q cX12_addMark D cy ci h A0 .int o) {x1 : Int32} {I : Nat → Int32} {A : Nat → Nat → Int32} {H : Heap} {locs : List Loc} {ls : Array Slot} (hf : f_addMark_0 x1 I A = some o) (hM : mH D cy ci h A0 s H locs I A) (hl : lv_has ls 2 [(0, .ref (h 0)), (1, .int x1)]) : W p l e ({ frames := 1, cells := 0, slots := 0, locals := 24 } : Room) s m args below meth c H locs 0 0 Q (F0 m 0 ls []) := by
  obtain ⟨hx, hb, hml, hown, hts⟩ := id X
  unfold f_addMark_0 at hf
  refine lv_aload_n hx hb dX12_addMark_0 rfl (lv_at hl 0 rfl) ?_
  refine lv_iload_n hx hb dX12_addMark_1 rfl (lv_at hl 1 rfl) ?_
  refine lv_if_lt (tgt := 12) hx hb dX12_addMark_2 (by decide) (fun cc1 => ?_) (fun cc1 => ?_)
  · replace hf := m_ifT hf cc1
    exact w_addMark_12 X hret hf hM (lv_sub hl [0, 1] rfl)
  · replace hf := m_ifF hf cc1
    refine lv_iload_n hx hb dX12_addMark_5 rfl (lv_at hl 1 rfl) ?_
    refine lv_sipush (v := (255 : Int32)) hx hb dX12_addMark_6 (by decide) ?_
    refine lv_icmp_le (tgt := 16) hx hb dX12_addMark_9 (by decide) (fun cc1 => ?_) (fun cc1 => ?_)
    · replace hf := m_ifT hf cc1
      refine lv_aload_n hx hb dX12_addMark_16 rfl (lv_at hl 0 rfl) ?_
      refine m_get (v := .int (I 6)) X hw_addMark hM 6 (by decide) fl_addMark_6 rfl dX12_addMark_17 ?_
      refine lv_if_eq (tgt := 45) hx hb dX12_addMark_20 (by decide) (fun cc1 => ?_) (fun cc1 => ?_)
      · replace hf := m_ifT hf cc1
        exact w_addMark_45 X hret hf hM (lv_sub hl [0, 1] rfl)
      · replace hf := m_ifF hf cc1
        refine lv_aload_n hx hb dX12_addMark_23 rfl (lv_at hl 0 rfl) ?_
        refine m_get (v := .ref (h 12)) X hw_addMark hM 12 (by decide) fl_addMark_12 rfl dX12_addMark_24 ?_
        refine lv_sipush (v := (301 : Int32)) hx hb dX12_addMark_27 (by decide) ?_
        refine lv_aload_n hx hb dX12_addMark_30 rfl (lv_at hl 0 rfl) ?_
        refine m_get (v := .int (I 5)) X hw_addMark hM 5 (by decide) fl_addMark_5 rfl dX12_addMark_31 ?_
        refine lv_imul hx hb dX12_addMark_34 ?_
        obtain ⟨v1, ev, hf⟩ := m_bndE hf
        refine m_top ev ?_
        clear ev
        refine lv_aload_n hx hb dX12_addMark_35 rfl (lv_at hl 0 rfl) ?_
        refine m_get (v := .int (I 6)) X hw_addMark hM 6 (by decide) fl_addMark_6 rfl dX12_addMark_36 ?_
        refine lv_iadd hx hb dX12_addMark_39 ?_
        obtain ⟨v2, ev, hf⟩ := m_bndE hf
        refine m_top ev ?_
        clear ev
        obtain ⟨cd, hf⟩ := m_chkE hf
        refine m_iald X hM 12 8 602 rfl cd dX12_addMark_40 ?_
        clear cd
        obtain ⟨v3, ev, hf⟩ := m_bndE hf
        refine m_top ev ?_
        clear ev
        refine lv_iconst (v := (4 : Int32)) hx hb dX12_addMark_41 (by decide) ?_
        refine lv_icmp_ne (tgt := 49) hx hb dX12_addMark_42 (by decide) (fun cc1 => ?_) (fun cc1 => ?_)
        · replace hf := m_ifF hf cc1
          refine lv_iconst (v := (0 : Int32)) hx hb dX12_addMark_49 (by decide) ?_
          exact w_addMark_50 X hret hf hM (lv_sub hl [0, 1] rfl)
        · replace hf := m_ifT hf cc1
          exact w_addMark_45 X hret hf hM (lv_sub hl [0, 1] rfl)
    · replace hf := m_ifF hf cc1
      exact w_addMark_12 X hret hf hM (lv_sub hl [0, 1] rfl)
def f_addMark (x1 : Int32) (I : Nat → Int32) (A : Nat → Nat → Int32) : Option (Int32 × MS) := f_addMark_0 x1 I A
theorem c_addMark {l : Launch} {D : va_G} {cy ci : ClassId} {h : Nat → Nat} {x1 : Int32} {I : Nat → Int32} {A : Nat → Nat → Int32} {o : Int32 × MS} (hf : f_addMark x1 I A = some o) : mMi l yX12_addMark wsX12_addMark ({ frames := 1, cells := 0, slots := 0, locals := 24 } : Room) [.ref (h 0), .int x1] D cy ci h I A o :=
  m_entryI (cc := cX12_addMark) (maxL := 2) (by decide) rfl rfl (Nat.le_of_ble_eq_true rfl) (fun p e s m args below meth c A0 Q H locs ls X hret hM hl => w_addMark_0 X hret hf hM (lv_sub hl [0, 1] rfl))
theorem hw_say : ∀ w ∈ wsX120, w ∈ wsX12_say := by decide +kernel
theorem fl_say_0 : Cond.fieldLink RX12 99 "MoveTextsModel" "thrown" "I" ∈ wsX12_say := by decide +kernel
theorem fl_say_1 : Cond.fieldLink RX12 270 "MoveTextsModel" "typed" "I" ∈ wsX12_say := by decide +kernel
theorem fl_say_2 : Cond.fieldLink RX12 7 "MoveTextsModel" "text" "[C" ∈ wsX12_say := by decide +kernel
theorem fl_say_5 : Cond.fieldLink RX12 347 "MoveTextsModel" "game" "I" ∈ wsX12_say := by decide +kernel
theorem fl_say_6 : Cond.fieldLink RX12 353 "MoveTextsModel" "here" "I" ∈ wsX12_say := by decide +kernel
theorem fl_say_14 : Cond.fieldLink RX12 39 "MoveTextsModel" "remarkSize" "[I" ∈ wsX12_say := by decide +kernel
theorem fl_say_15 : Cond.fieldLink RX12 43 "MoveTextsModel" "remarks" "[C" ∈ wsX12_say := by decide +kernel
theorem hd_say : yX12_say.cls = RX12 ∧ yX12_say.cls ≠ "java/lang/invoke/MethodHandle" ∧ yX12_say.cls ≠ "java/lang/invoke/VarHandle" ∧ (parseMethodDescriptor yX12_say.desc).map (fun d => d.parameters.length) = some 0 := by decide +kernel
def f_say_102s (self102 : Int32 → Int32 → (Nat → Int32) → (Nat → Nat → Int32) → Option (Int32 × MS)) (x2 : Int32) (x3 : Int32) (I : Nat → Int32) (A : Nat → Nat → Int32) : Option (Int32 × MS) :=
  m_if ((I 1) ≤ x3) (
  m_chk (¬ (x2 < 0 ∨ 602 ≤ (x2).toNatClampNeg)) (
  m_bnd (va_up A 14 (upd (A 14) (x2).toNatClampNeg (I 1))) (fun A1 =>
  m_bnd (upd I 1 (0 : Int32)) (fun I2 =>
  m_chk (¬ (x2 < 0 ∨ 602 ≤ (x2).toNatClampNeg)) (
  m_bnd (A1 14 (x2).toNatClampNeg) (fun v3 =>
  some (v3, (I2, A1)))))))
  ) (
  m_bnd ((200 : Int32) * x2) (fun v4 =>
  m_bnd (v4 + x3) (fun v5 =>
  m_chk (¬ (x3 < 0 ∨ 2000 ≤ (x3).toNatClampNeg)) (
  m_bnd (A 2 (x3).toNatClampNeg) (fun v6 =>
  m_chk (¬ (v5 < 0 ∨ 120400 ≤ (v5).toNatClampNeg)) (
  m_bnd (va_up A 15 (upd (A 15) (v5).toNatClampNeg (vp_nar .char v6))) (fun A7 =>
  m_bnd (x3 + (1 : Int32)) (fun v8 =>
  self102 x2 v8 I A7)))))))
  )

set_option maxRecDepth 100000 in
set_option maxHeartbeats 4000000 in
theorem ws_say_102 {p : Program} {l : Launch} {e : Env} {s : State} {m : MethodId} {args : Array Value} {below : List Frame} {meth : Method} {c : Code} {Q : State → Prop} {D : va_G} {cy ci : ClassId} {h : Nat → Nat} {A0 : Nat → Prop} {o : Int32 × MS} (X : CallFix p m c cX12_say 4 s args wsX12_say RX12) (hret : mRi p l e ({ frames := 0, cells := 0, slots := 0, locals := 0 } : Room) s m args below meth c Q cX12_say D cy ci h A0 .int o) {self102 : Int32 → Int32 → (Nat → Int32) → (Nat → Nat → Int32) → Option (Int32 × MS)} (hself102 : ∀ (x2 : Int32) (x3 : Int32) (I : Nat → Int32) (A : Nat → Nat → Int32) (H : Heap) (locs : List Loc) (ls : Array Slot), self102 x2 x3 I A = some o → mH D cy ci h A0 s H locs I A → lv_has ls 4 [(0, .ref (h 0)), (2, .int x2), (3, .int x3)] → W p l e ({ frames := 0, cells := 0, slots := 0, locals := 0 } : Room) s m args below meth c H locs 0 0 Q (F0 m 102 ls [])) {x2 : Int32} {x3 : Int32} {I : Nat → Int32} {A : Nat → Nat → Int32} {H : Heap} {locs : List Loc} {ls : Array Slot} (hf : f_say_102s self102 x2 x3 I A = some o) (hM : mH D cy ci h A0 s H locs I A) (hl : lv_has ls 4 [(0, .ref (h 0)), (2, .int x2), (3, .int x3)]) : W p l e ({ frames := 0, cells := 0, slots := 0, locals := 0 } : Room) s m args below meth c H locs 0 0 Q (F0 m 102 ls []) := by
  obtain ⟨hx, hb, hml, hown, hts⟩ := id X
  unfold f_say_102s at hf
  refine lv_iload_n hx hb dX12_say_102 rfl (lv_at hl 2 rfl) ?_
  refine lv_aload_n hx hb dX12_say_103 rfl (lv_at hl 0 rfl) ?_
  refine m_get (v := .int (I 1)) X hw_say hM 1 (by decide) fl_say_1 rfl dX12_say_104 ?_
  refine lv_icmp_ge (tgt := 134) hx hb dX12_say_107 (by decide) (fun cc1 => ?_) (fun cc1 => ?_)
  · replace hf := m_ifT hf cc1
    refine lv_aload_n hx hb dX12_say_134 rfl (lv_at hl 0 rfl) ?_
    refine m_get (v := .ref (h 14)) X hw_say hM 14 (by decide) fl_say_14 rfl dX12_say_135 ?_
    refine lv_iload_n hx hb dX12_say_138 rfl (lv_at hl 1 rfl) ?_
    refine lv_aload_n hx hb dX12_say_139 rfl (lv_at hl 0 rfl) ?_
    refine m_get (v := .int (I 1)) X hw_say hM 1 (by decide) fl_say_1 rfl dX12_say_140 ?_
    obtain ⟨cd, hf⟩ := m_chkE hf
    refine m_iast X hM 14 10 602 rfl ma_14 cd dX12_say_143 (fun H locs hM => ?_)
    clear cd
    obtain ⟨A1, ev, hf⟩ := m_bndE hf
    replace hM := m_hA hM ev
    clear ev
    refine lv_aload_n hx hb dX12_say_144 rfl (lv_at hl 0 rfl) ?_
    refine lv_iconst (v := (0 : Int32)) hx hb dX12_say_145 (by decide) ?_
    refine m_put X hw_say hM 1 (by decide) fl_say_1 mi_1 rfl (tyX12_ok 1 (by decide)) dX12_say_146 (fun H locs hM => ?_)
    obtain ⟨I2, ev, hf⟩ := m_bndE hf
    replace hM := m_hI hM ev
    clear ev
    refine lv_aload_n hx hb dX12_say_149 rfl (lv_at hl 0 rfl) ?_
    refine m_get (v := .ref (h 14)) X hw_say hM 14 (by decide) fl_say_14 rfl dX12_say_150 ?_
    refine lv_iload_n hx hb dX12_say_153 rfl (lv_at hl 1 rfl) ?_
    obtain ⟨cd, hf⟩ := m_chkE hf
    refine m_iald X hM 14 10 602 rfl cd dX12_say_154 ?_
    clear cd
    obtain ⟨v3, ev, hf⟩ := m_bndE hf
    refine m_top ev ?_
    clear ev
    cases hf
    exact hret H locs _ ls hM rfl dX12_say_155
  · replace hf := m_ifF hf cc1
    refine lv_aload_n hx hb dX12_say_110 rfl (lv_at hl 0 rfl) ?_
    refine m_get (v := .ref (h 15)) X hw_say hM 15 (by decide) fl_say_15 rfl dX12_say_111 ?_
    refine lv_sipush (v := (200 : Int32)) hx hb dX12_say_114 (by decide) ?_
    refine lv_iload_n hx hb dX12_say_117 rfl (lv_at hl 1 rfl) ?_
    refine lv_imul hx hb dX12_say_118 ?_
    obtain ⟨v4, ev, hf⟩ := m_bndE hf
    refine m_top ev ?_
    clear ev
    refine lv_iload_n hx hb dX12_say_119 rfl (lv_at hl 2 rfl) ?_
    refine lv_iadd hx hb dX12_say_120 ?_
    obtain ⟨v5, ev, hf⟩ := m_bndE hf
    refine m_top ev ?_
    clear ev
    refine lv_aload_n hx hb dX12_say_121 rfl (lv_at hl 0 rfl) ?_
    refine m_get (v := .ref (h 2)) X hw_say hM 2 (by decide) fl_say_2 rfl dX12_say_122 ?_
    refine lv_iload_n hx hb dX12_say_125 rfl (lv_at hl 2 rfl) ?_
    obtain ⟨cd, hf⟩ := m_chkE hf
    refine m_cald X hM 2 1 2000 rfl cd dX12_say_126 ?_
    clear cd
    obtain ⟨v6, ev, hf⟩ := m_bndE hf
    refine m_top ev ?_
    clear ev
    obtain ⟨cd, hf⟩ := m_chkE hf
    refine m_cast X hM 15 11 120400 rfl ma_15 cd dX12_say_127 (fun H locs hM => ?_)
    clear cd
    obtain ⟨A7, ev, hf⟩ := m_bndE hf
    replace hM := m_hA hM ev
    clear ev
    obtain ⟨v8, ev, hf⟩ := m_bndE hf
    refine lv_iinc (v := v8) (lv' := [(3, .int v8), (0, .ref (h 0)), (2, .int x2)]) hx hb dX12_say_128 hl (k := 2) rfl (by rw [ev]; rfl) (by decide) rfl (fun ls hl => ?_)
    clear ev
    refine lv_goto (tgt := 102) hx hb dX12_say_131 (by decide) ?_
    exact hself102 _ _ _ _ _ _ _ hf hM (lv_sub hl [1, 2, 0] rfl)
def f_say_102 : Nat → Int32 → Int32 → (Nat → Int32) → (Nat → Nat → Int32) → Option (Int32 × MS)
  | 0 => fun _ _ _ _ => none
  | n + 1 => f_say_102s (f_say_102 n)
theorem w_say_102 {p : Program} {l : Launch} {e : Env} {s : State} {m : MethodId} {args : Array Value} {below : List Frame} {meth : Method} {c : Code} {Q : State → Prop} {D : va_G} {cy ci : ClassId} {h : Nat → Nat} {A0 : Nat → Prop} {o : Int32 × MS} (X : CallFix p m c cX12_say 4 s args wsX12_say RX12) (hret : mRi p l e ({ frames := 0, cells := 0, slots := 0, locals := 0 } : Room) s m args below meth c Q cX12_say D cy ci h A0 .int o) (n : Nat) : ∀ (x2 : Int32) (x3 : Int32) (I : Nat → Int32) (A : Nat → Nat → Int32) (H : Heap) (locs : List Loc) (ls : Array Slot), f_say_102 n x2 x3 I A = some o → mH D cy ci h A0 s H locs I A → lv_has ls 4 [(0, .ref (h 0)), (2, .int x2), (3, .int x3)] → W p l e ({ frames := 0, cells := 0, slots := 0, locals := 0 } : Room) s m args below meth c H locs 0 0 Q (F0 m 102 ls []) := by
  induction n with
  | zero => intro x2 x3 I A H locs ls hf; cases hf
  | succ n ih => intro x2 x3 I A H locs ls hf hM hl; exact ws_say_102 X hret (self102 := f_say_102 n) ih hf hM hl
def f_say_74 (t0 : Int32) (I : Nat → Int32) (A : Nat → Nat → Int32) : Option (Int32 × MS) :=
  m_bnd (upd I 0 t0) (fun I1 =>
  m_if ((I1 0) ≤ 0) (
  m_bnd ((301 : Int32) * (I1 5)) (fun v2 =>
  m_bnd (v2 + (I1 6)) (fun v3 =>
  f_say_102 mFuel v3 (0 : Int32) I1 A))
  ) (
  some ((0 : Int32), (I1, A))
  ))

set_option maxRecDepth 100000 in
set_option maxHeartbeats 4000000 in
theorem w_say_74 {p : Program} {l : Launch} {e : Env} {s : State} {m : MethodId} {args : Array Value} {below : List Frame} {meth : Method} {c : Code} {Q : State → Prop} {D : va_G} {cy ci : ClassId} {h : Nat → Nat} {A0 : Nat → Prop} {o : Int32 × MS} (X : CallFix p m c cX12_say 4 s args wsX12_say RX12) (hret : mRi p l e ({ frames := 0, cells := 0, slots := 0, locals := 0 } : Room) s m args below meth c Q cX12_say D cy ci h A0 .int o) {t0 : Int32} {I : Nat → Int32} {A : Nat → Nat → Int32} {H : Heap} {locs : List Loc} {ls : Array Slot} (hf : f_say_74 t0 I A = some o) (hM : mH D cy ci h A0 s H locs I A) (hl : lv_has ls 4 [(0, .ref (h 0))]) : W p l e ({ frames := 0, cells := 0, slots := 0, locals := 0 } : Room) s m args below meth c H locs 0 0 Q (F0 m 74 ls [.int t0, .ref (h 0)]) := by
  obtain ⟨hx, hb, hml, hown, hts⟩ := id X
  unfold f_say_74 at hf
  refine m_put X hw_say hM 0 (by decide) fl_say_0 mi_0 rfl (tyX12_ok 0 (by decide)) dX12_say_74 (fun H locs hM => ?_)
  obtain ⟨I1, ev, hf⟩ := m_bndE hf
  replace hM := m_hI hM ev
  clear ev
  refine lv_aload_n hx hb dX12_say_77 rfl (lv_at hl 0 rfl) ?_
  refine m_get (v := .int (I1 0)) X hw_say hM 0 (by decide) fl_say_0 rfl dX12_say_78 ?_
  refine lv_if_le (tgt := 86) hx hb dX12_say_81 (by decide) (fun cc1 => ?_) (fun cc1 => ?_)
  · replace hf := m_ifT hf cc1
    refine lv_sipush (v := (301 : Int32)) hx hb dX12_say_86 (by decide) ?_
    refine lv_aload_n hx hb dX12_say_89 rfl (lv_at hl 0 rfl) ?_
    refine m_get (v := .int (I1 5)) X hw_say hM 5 (by decide) fl_say_5 rfl dX12_say_90 ?_
    refine lv_imul hx hb dX12_say_93 ?_
    obtain ⟨v2, ev, hf⟩ := m_bndE hf
    refine m_top ev ?_
    clear ev
    refine lv_aload_n hx hb dX12_say_94 rfl (lv_at hl 0 rfl) ?_
    refine m_get (v := .int (I1 6)) X hw_say hM 6 (by decide) fl_say_6 rfl dX12_say_95 ?_
    refine lv_iadd hx hb dX12_say_98 ?_
    obtain ⟨v3, ev, hf⟩ := m_bndE hf
    refine m_top ev ?_
    clear ev
    refine lv_istore_n (lv' := [(2, .int v3), (0, .ref (h 0))]) hx hb dX12_say_99 rfl hl (by decide) rfl (fun ls hl => ?_)
    refine lv_iconst (v := (0 : Int32)) hx hb dX12_say_100 (by decide) ?_
    refine lv_istore_n (lv' := [(3, .int (0 : Int32)), (2, .int v3), (0, .ref (h 0))]) hx hb dX12_say_101 rfl hl (by decide) rfl (fun ls hl => ?_)
    exact w_say_102 X hret _ _ _ _ _ _ _ _ hf hM (lv_sub hl [2, 1, 0] rfl)
  · replace hf := m_ifF hf cc1
    refine lv_iconst (v := (0 : Int32)) hx hb dX12_say_84 (by decide) ?_
    cases hf
    exact hret H locs _ ls hM rfl dX12_say_85
def f_say_57 (self18 : Int32 → Int32 → (Nat → Int32) → (Nat → Nat → Int32) → Option (Int32 × MS)) (x2 : Int32) (t0 : Int32) (I : Nat → Int32) (A : Nat → Nat → Int32) : Option (Int32 × MS) :=
  m_bnd (x2 + (1 : Int32)) (fun v1 =>
  self18 t0 v1 I A)

set_option maxRecDepth 100000 in
set_option maxHeartbeats 4000000 in
theorem w_say_57 {p : Program} {l : Launch} {e : Env} {s : State} {m : MethodId} {args : Array Value} {below : List Frame} {meth : Method} {c : Code} {Q : State → Prop} {D : va_G} {cy ci : ClassId} {h : Nat → Nat} {A0 : Nat → Prop} {o : Int32 × MS} (X : CallFix p m c cX12_say 4 s args wsX12_say RX12) (hret : mRi p l e ({ frames := 0, cells := 0, slots := 0, locals := 0 } : Room) s m args below meth c Q cX12_say D cy ci h A0 .int o) {self18 : Int32 → Int32 → (Nat → Int32) → (Nat → Nat → Int32) → Option (Int32 × MS)} (hself18 : ∀ (x1 : Int32) (x2 : Int32) (I : Nat → Int32) (A : Nat → Nat → Int32) (H : Heap) (locs : List Loc) (ls : Array Slot), self18 x1 x2 I A = some o → mH D cy ci h A0 s H locs I A → lv_has ls 4 [(0, .ref (h 0)), (1, .int x1), (2, .int x2)] → W p l e ({ frames := 0, cells := 0, slots := 0, locals := 0 } : Room) s m args below meth c H locs 0 0 Q (F0 m 18 ls [])) {x2 : Int32} {t0 : Int32} {I : Nat → Int32} {A : Nat → Nat → Int32} {H : Heap} {locs : List Loc} {ls : Array Slot} (hf : f_say_57 self18 x2 t0 I A = some o) (hM : mH D cy ci h A0 s H locs I A) (hl : lv_has ls 4 [(0, .ref (h 0)), (2, .int x2)]) : W p l e ({ frames := 0, cells := 0, slots := 0, locals := 0 } : Room) s m args below meth c H locs 0 0 Q (F0 m 57 ls [.int t0]) := by
  obtain ⟨hx, hb, hml, hown, hts⟩ := id X
  unfold f_say_57 at hf
  refine lv_istore_n (lv' := [(1, .int t0), (0, .ref (h 0)), (2, .int x2)]) hx hb dX12_say_57 rfl hl (by decide) rfl (fun ls hl => ?_)
  obtain ⟨v1, ev, hf⟩ := m_bndE hf
  refine lv_iinc (v := v1) (lv' := [(2, .int v1), (1, .int t0), (0, .ref (h 0))]) hx hb dX12_say_58 hl (k := 2) rfl (by rw [ev]; rfl) (by decide) rfl (fun ls hl => ?_)
  clear ev
  refine lv_goto (tgt := 18) hx hb dX12_say_61 (by decide) ?_
  exact hself18 _ _ _ _ _ _ _ hf hM (lv_sub hl [2, 1, 0] rfl)
def f_say_56 (self18 : Int32 → Int32 → (Nat → Int32) → (Nat → Nat → Int32) → Option (Int32 × MS)) (x2 : Int32) (I : Nat → Int32) (A : Nat → Nat → Int32) : Option (Int32 × MS) :=
  f_say_57 self18 x2 (0 : Int32) I A

set_option maxRecDepth 100000 in
set_option maxHeartbeats 4000000 in
theorem w_say_56 {p : Program} {l : Launch} {e : Env} {s : State} {m : MethodId} {args : Array Value} {below : List Frame} {meth : Method} {c : Code} {Q : State → Prop} {D : va_G} {cy ci : ClassId} {h : Nat → Nat} {A0 : Nat → Prop} {o : Int32 × MS} (X : CallFix p m c cX12_say 4 s args wsX12_say RX12) (hret : mRi p l e ({ frames := 0, cells := 0, slots := 0, locals := 0 } : Room) s m args below meth c Q cX12_say D cy ci h A0 .int o) {self18 : Int32 → Int32 → (Nat → Int32) → (Nat → Nat → Int32) → Option (Int32 × MS)} (hself18 : ∀ (x1 : Int32) (x2 : Int32) (I : Nat → Int32) (A : Nat → Nat → Int32) (H : Heap) (locs : List Loc) (ls : Array Slot), self18 x1 x2 I A = some o → mH D cy ci h A0 s H locs I A → lv_has ls 4 [(0, .ref (h 0)), (1, .int x1), (2, .int x2)] → W p l e ({ frames := 0, cells := 0, slots := 0, locals := 0 } : Room) s m args below meth c H locs 0 0 Q (F0 m 18 ls [])) {x2 : Int32} {I : Nat → Int32} {A : Nat → Nat → Int32} {H : Heap} {locs : List Loc} {ls : Array Slot} (hf : f_say_56 self18 x2 I A = some o) (hM : mH D cy ci h A0 s H locs I A) (hl : lv_has ls 4 [(0, .ref (h 0)), (2, .int x2)]) : W p l e ({ frames := 0, cells := 0, slots := 0, locals := 0 } : Room) s m args below meth c H locs 0 0 Q (F0 m 56 ls []) := by
  obtain ⟨hx, hb, hml, hown, hts⟩ := id X
  unfold f_say_56 at hf
  refine lv_iconst (v := (0 : Int32)) hx hb dX12_say_56 (by decide) ?_
  exact w_say_57 X hret hself18 hf hM (lv_sub hl [0, 1] rfl)
def f_say_18s (self18 : Int32 → Int32 → (Nat → Int32) → (Nat → Nat → Int32) → Option (Int32 × MS)) (x1 : Int32) (x2 : Int32) (I : Nat → Int32) (A : Nat → Nat → Int32) : Option (Int32 × MS) :=
  m_if ((I 1) ≤ x2) (
  m_if (x1 = 0) (
  f_say_74 (1 : Int32) I A
  ) (
  f_say_74 (0 : Int32) I A
  )
  ) (
  m_if (x1 = 0) (
  f_say_56 self18 x2 I A
  ) (
  m_chk (¬ (x2 < 0 ∨ 2000 ≤ (x2).toNatClampNeg)) (
  m_bnd (A 2 (x2).toNatClampNeg) (fun v1 =>
  m_if (v1 = (125 : Int32)) (
  f_say_56 self18 x2 I A
  ) (
  m_chk (¬ (x2 < 0 ∨ 2000 ≤ (x2).toNatClampNeg)) (
  m_bnd (A 2 (x2).toNatClampNeg) (fun v2 =>
  m_if (v2 = (10 : Int32)) (
  f_say_56 self18 x2 I A
  ) (
  f_say_57 self18 x2 (1 : Int32) I A
  )))
  )))
  )
  )

set_option maxRecDepth 100000 in
set_option maxHeartbeats 4000000 in
theorem ws_say_18 {p : Program} {l : Launch} {e : Env} {s : State} {m : MethodId} {args : Array Value} {below : List Frame} {meth : Method} {c : Code} {Q : State → Prop} {D : va_G} {cy ci : ClassId} {h : Nat → Nat} {A0 : Nat → Prop} {o : Int32 × MS} (X : CallFix p m c cX12_say 4 s args wsX12_say RX12) (hret : mRi p l e ({ frames := 0, cells := 0, slots := 0, locals := 0 } : Room) s m args below meth c Q cX12_say D cy ci h A0 .int o) {self18 : Int32 → Int32 → (Nat → Int32) → (Nat → Nat → Int32) → Option (Int32 × MS)} (hself18 : ∀ (x1 : Int32) (x2 : Int32) (I : Nat → Int32) (A : Nat → Nat → Int32) (H : Heap) (locs : List Loc) (ls : Array Slot), self18 x1 x2 I A = some o → mH D cy ci h A0 s H locs I A → lv_has ls 4 [(0, .ref (h 0)), (1, .int x1), (2, .int x2)] → W p l e ({ frames := 0, cells := 0, slots := 0, locals := 0 } : Room) s m args below meth c H locs 0 0 Q (F0 m 18 ls [])) {x1 : Int32} {x2 : Int32} {I : Nat → Int32} {A : Nat → Nat → Int32} {H : Heap} {locs : List Loc} {ls : Array Slot} (hf : f_say_18s self18 x1 x2 I A = some o) (hM : mH D cy ci h A0 s H locs I A) (hl : lv_has ls 4 [(0, .ref (h 0)), (1, .int x1), (2, .int x2)]) : W p l e ({ frames := 0, cells := 0, slots := 0, locals := 0 } : Room) s m args below meth c H locs 0 0 Q (F0 m 18 ls []) := by
  obtain ⟨hx, hb, hml, hown, hts⟩ := id X
  unfold f_say_18s at hf
  refine lv_iload_n hx hb dX12_say_18 rfl (lv_at hl 2 rfl) ?_
  refine lv_aload_n hx hb dX12_say_19 rfl (lv_at hl 0 rfl) ?_
  refine m_get (v := .int (I 1)) X hw_say hM 1 (by decide) fl_say_1 rfl dX12_say_20 ?_
  refine lv_icmp_ge (tgt := 64) hx hb dX12_say_23 (by decide) (fun cc1 => ?_) (fun cc1 => ?_)
  · replace hf := m_ifT hf cc1
    refine lv_aload_n hx hb dX12_say_64 rfl (lv_at hl 0 rfl) ?_
    refine lv_iload_n hx hb dX12_say_65 rfl (lv_at hl 1 rfl) ?_
    refine lv_if_eq (tgt := 73) hx hb dX12_say_66 (by decide) (fun cc1 => ?_) (fun cc1 => ?_)
    · replace hf := m_ifT hf cc1
      refine lv_iconst (v := (1 : Int32)) hx hb dX12_say_73 (by decide) ?_
      exact w_say_74 X hret hf hM (lv_sub hl [0] rfl)
    · replace hf := m_ifF hf cc1
      refine lv_iconst (v := (0 : Int32)) hx hb dX12_say_69 (by decide) ?_
      refine lv_goto (tgt := 74) hx hb dX12_say_70 (by decide) ?_
      exact w_say_74 X hret hf hM (lv_sub hl [0] rfl)
  · replace hf := m_ifF hf cc1
    refine lv_iload_n hx hb dX12_say_26 rfl (lv_at hl 1 rfl) ?_
    refine lv_if_eq (tgt := 56) hx hb dX12_say_27 (by decide) (fun cc1 => ?_) (fun cc1 => ?_)
    · replace hf := m_ifT hf cc1
      exact w_say_56 X hret hself18 hf hM (lv_sub hl [0, 2] rfl)
    · replace hf := m_ifF hf cc1
      refine lv_aload_n hx hb dX12_say_30 rfl (lv_at hl 0 rfl) ?_
      refine m_get (v := .ref (h 2)) X hw_say hM 2 (by decide) fl_say_2 rfl dX12_say_31 ?_
      refine lv_iload_n hx hb dX12_say_34 rfl (lv_at hl 2 rfl) ?_
      obtain ⟨cd, hf⟩ := m_chkE hf
      refine m_cald X hM 2 1 2000 rfl cd dX12_say_35 ?_
      clear cd
      obtain ⟨v1, ev, hf⟩ := m_bndE hf
      refine m_top ev ?_
      clear ev
      refine lv_bipush (v := (125 : Int32)) hx hb dX12_say_36 (by decide) ?_
      refine lv_icmp_eq (tgt := 56) hx hb dX12_say_38 (by decide) (fun cc1 => ?_) (fun cc1 => ?_)
      · replace hf := m_ifT hf cc1
        exact w_say_56 X hret hself18 hf hM (lv_sub hl [0, 2] rfl)
      · replace hf := m_ifF hf cc1
        refine lv_aload_n hx hb dX12_say_41 rfl (lv_at hl 0 rfl) ?_
        refine m_get (v := .ref (h 2)) X hw_say hM 2 (by decide) fl_say_2 rfl dX12_say_42 ?_
        refine lv_iload_n hx hb dX12_say_45 rfl (lv_at hl 2 rfl) ?_
        obtain ⟨cd, hf⟩ := m_chkE hf
        refine m_cald X hM 2 1 2000 rfl cd dX12_say_46 ?_
        clear cd
        obtain ⟨v2, ev, hf⟩ := m_bndE hf
        refine m_top ev ?_
        clear ev
        refine lv_bipush (v := (10 : Int32)) hx hb dX12_say_47 (by decide) ?_
        refine lv_icmp_eq (tgt := 56) hx hb dX12_say_49 (by decide) (fun cc1 => ?_) (fun cc1 => ?_)
        · replace hf := m_ifT hf cc1
          exact w_say_56 X hret hself18 hf hM (lv_sub hl [0, 2] rfl)
        · replace hf := m_ifF hf cc1
          refine lv_iconst (v := (1 : Int32)) hx hb dX12_say_52 (by decide) ?_
          refine lv_goto (tgt := 57) hx hb dX12_say_53 (by decide) ?_
          exact w_say_57 X hret hself18 hf hM (lv_sub hl [0, 2] rfl)
def f_say_18 : Nat → Int32 → Int32 → (Nat → Int32) → (Nat → Nat → Int32) → Option (Int32 × MS)
  | 0 => fun _ _ _ _ => none
  | n + 1 => f_say_18s (f_say_18 n)
theorem w_say_18 {p : Program} {l : Launch} {e : Env} {s : State} {m : MethodId} {args : Array Value} {below : List Frame} {meth : Method} {c : Code} {Q : State → Prop} {D : va_G} {cy ci : ClassId} {h : Nat → Nat} {A0 : Nat → Prop} {o : Int32 × MS} (X : CallFix p m c cX12_say 4 s args wsX12_say RX12) (hret : mRi p l e ({ frames := 0, cells := 0, slots := 0, locals := 0 } : Room) s m args below meth c Q cX12_say D cy ci h A0 .int o) (n : Nat) : ∀ (x1 : Int32) (x2 : Int32) (I : Nat → Int32) (A : Nat → Nat → Int32) (H : Heap) (locs : List Loc) (ls : Array Slot), f_say_18 n x1 x2 I A = some o → mH D cy ci h A0 s H locs I A → lv_has ls 4 [(0, .ref (h 0)), (1, .int x1), (2, .int x2)] → W p l e ({ frames := 0, cells := 0, slots := 0, locals := 0 } : Room) s m args below meth c H locs 0 0 Q (F0 m 18 ls []) := by
  induction n with
  | zero => intro x1 x2 I A H locs ls hf; cases hf
  | succ n ih => intro x1 x2 I A H locs ls hf hM hl; exact ws_say_18 X hret (self18 := f_say_18 n) ih hf hM hl
def f_say_15 (t0 : Int32) (I : Nat → Int32) (A : Nat → Nat → Int32) : Option (Int32 × MS) :=
  f_say_18 mFuel t0 (0 : Int32) I A

set_option maxRecDepth 100000 in
set_option maxHeartbeats 4000000 in
theorem w_say_15 {p : Program} {l : Launch} {e : Env} {s : State} {m : MethodId} {args : Array Value} {below : List Frame} {meth : Method} {c : Code} {Q : State → Prop} {D : va_G} {cy ci : ClassId} {h : Nat → Nat} {A0 : Nat → Prop} {o : Int32 × MS} (X : CallFix p m c cX12_say 4 s args wsX12_say RX12) (hret : mRi p l e ({ frames := 0, cells := 0, slots := 0, locals := 0 } : Room) s m args below meth c Q cX12_say D cy ci h A0 .int o) {t0 : Int32} {I : Nat → Int32} {A : Nat → Nat → Int32} {H : Heap} {locs : List Loc} {ls : Array Slot} (hf : f_say_15 t0 I A = some o) (hM : mH D cy ci h A0 s H locs I A) (hl : lv_has ls 4 [(0, .ref (h 0))]) : W p l e ({ frames := 0, cells := 0, slots := 0, locals := 0 } : Room) s m args below meth c H locs 0 0 Q (F0 m 15 ls [.int t0]) := by
  obtain ⟨hx, hb, hml, hown, hts⟩ := id X
  unfold f_say_15 at hf
  refine lv_istore_n (lv' := [(1, .int t0), (0, .ref (h 0))]) hx hb dX12_say_15 rfl hl (by decide) rfl (fun ls hl => ?_)
  refine lv_iconst (v := (0 : Int32)) hx hb dX12_say_16 (by decide) ?_
  refine lv_istore_n (lv' := [(2, .int (0 : Int32)), (1, .int t0), (0, .ref (h 0))]) hx hb dX12_say_17 rfl hl (by decide) rfl (fun ls hl => ?_)
  exact w_say_18 X hret _ _ _ _ _ _ _ _ hf hM (lv_sub hl [2, 1, 0] rfl)
def f_say_0 (I : Nat → Int32) (A : Nat → Nat → Int32) : Option (Int32 × MS) :=
  m_if ((200 : Int32) < (I 1)) (
  f_say_15 (0 : Int32) I A
  ) (
  f_say_15 (1 : Int32) I A
  )

set_option maxRecDepth 100000 in
set_option maxHeartbeats 4000000 in
theorem w_say_0 {p : Program} {l : Launch} {e : Env} {s : State} {m : MethodId} {args : Array Value} {below : List Frame} {meth : Method} {c : Code} {Q : State → Prop} {D : va_G} {cy ci : ClassId} {h : Nat → Nat} {A0 : Nat → Prop} {o : Int32 × MS} (X : CallFix p m c cX12_say 4 s args wsX12_say RX12) (hret : mRi p l e ({ frames := 0, cells := 0, slots := 0, locals := 0 } : Room) s m args below meth c Q cX12_say D cy ci h A0 .int o) {I : Nat → Int32} {A : Nat → Nat → Int32} {H : Heap} {locs : List Loc} {ls : Array Slot} (hf : f_say_0  I A = some o) (hM : mH D cy ci h A0 s H locs I A) (hl : lv_has ls 4 [(0, .ref (h 0))]) : W p l e ({ frames := 0, cells := 0, slots := 0, locals := 0 } : Room) s m args below meth c H locs 0 0 Q (F0 m 0 ls []) := by
  obtain ⟨hx, hb, hml, hown, hts⟩ := id X
  unfold f_say_0 at hf
  refine lv_aload_n hx hb dX12_say_0 rfl (lv_at hl 0 rfl) ?_
  refine m_get (v := .int (I 1)) X hw_say hM 1 (by decide) fl_say_1 rfl dX12_say_1 ?_
  refine lv_sipush (v := (200 : Int32)) hx hb dX12_say_4 (by decide) ?_
  refine lv_icmp_gt (tgt := 14) hx hb dX12_say_7 (by decide) (fun cc1 => ?_) (fun cc1 => ?_)
  · replace hf := m_ifT hf cc1
    refine lv_iconst (v := (0 : Int32)) hx hb dX12_say_14 (by decide) ?_
    exact w_say_15 X hret hf hM (lv_sub hl [0] rfl)
  · replace hf := m_ifF hf cc1
    refine lv_iconst (v := (1 : Int32)) hx hb dX12_say_10 (by decide) ?_
    refine lv_goto (tgt := 15) hx hb dX12_say_11 (by decide) ?_
    exact w_say_15 X hret hf hM (lv_sub hl [0] rfl)
def f_say (I : Nat → Int32) (A : Nat → Nat → Int32) : Option (Int32 × MS) := f_say_0  I A
theorem c_say {l : Launch} {D : va_G} {cy ci : ClassId} {h : Nat → Nat} {I : Nat → Int32} {A : Nat → Nat → Int32} {o : Int32 × MS} (hf : f_say  I A = some o) : mMi l yX12_say wsX12_say ({ frames := 0, cells := 0, slots := 0, locals := 0 } : Room) [.ref (h 0)] D cy ci h I A o :=
  m_entryI (cc := cX12_say) (maxL := 4) (by decide) rfl rfl (Nat.le_of_ble_eq_true rfl) (fun p e s m args below meth c A0 Q H locs ls X hret hM hl => w_say_0 X hret hf hM (lv_sub hl [0] rfl))
theorem hw_isBehind : ∀ w ∈ wsX120, w ∈ wsX12_isBehind := by decide +kernel
theorem fl_isBehind_5 : Cond.fieldLink RX12 347 "MoveTextsModel" "game" "I" ∈ wsX12_isBehind := by decide +kernel
theorem fl_isBehind_8 : Cond.fieldLink RX12 21 "MoveTextsModel" "parent" "[I" ∈ wsX12_isBehind := by decide +kernel
theorem hd_isBehind : yX12_isBehind.cls = RX12 ∧ yX12_isBehind.cls ≠ "java/lang/invoke/MethodHandle" ∧ yX12_isBehind.cls ≠ "java/lang/invoke/VarHandle" ∧ (parseMethodDescriptor yX12_isBehind.desc).map (fun d => d.parameters.length) = some 2 := by decide +kernel
def f_isBehind_36 (t0 : Int32) (I : Nat → Int32) (A : Nat → Nat → Int32) : Option (Int32 × MS) :=
  m_chk (vp_nar .boolean t0 = t0) (some (t0, (I, A)))

set_option maxRecDepth 100000 in
set_option maxHeartbeats 4000000 in
theorem w_isBehind_36 {p : Program} {l : Launch} {e : Env} {s : State} {m : MethodId} {args : Array Value} {below : List Frame} {meth : Method} {c : Code} {Q : State → Prop} {D : va_G} {cy ci : ClassId} {h : Nat → Nat} {A0 : Nat → Prop} {o : Int32 × MS} (X : CallFix p m c cX12_isBehind 4 s args wsX12_isBehind RX12) (hret : mRi p l e ({ frames := 0, cells := 0, slots := 0, locals := 0 } : Room) s m args below meth c Q cX12_isBehind D cy ci h A0 .boolean o) {t0 : Int32} {I : Nat → Int32} {A : Nat → Nat → Int32} {H : Heap} {locs : List Loc} {ls : Array Slot} (hf : f_isBehind_36 t0 I A = some o) (hM : mH D cy ci h A0 s H locs I A) (hl : lv_has ls 4 []) : W p l e ({ frames := 0, cells := 0, slots := 0, locals := 0 } : Room) s m args below meth c H locs 0 0 Q (F0 m 36 ls [.int t0]) := by
  obtain ⟨hx, hb, hml, hown, hts⟩ := id X
  unfold f_isBehind_36 at hf
  obtain ⟨cd, hf⟩ := m_chkE hf
  cases hf
  exact hret H locs _ ls hM (m_nb cd) dX12_isBehind_36
def f_isBehind_2s (self2 : Int32 → Int32 → (Nat → Int32) → (Nat → Nat → Int32) → Option (Int32 × MS)) (x2 : Int32) (x3 : Int32) (I : Nat → Int32) (A : Nat → Nat → Int32) : Option (Int32 × MS) :=
  m_if (x3 ≤ x2) (
  m_if (x3 = x2) (
  f_isBehind_36 (1 : Int32) I A
  ) (
  f_isBehind_36 (0 : Int32) I A
  )
  ) (
  m_bnd ((301 : Int32) * (I 5)) (fun v1 =>
  m_bnd (v1 + x3) (fun v2 =>
  m_chk (¬ (v2 < 0 ∨ 602 ≤ (v2).toNatClampNeg)) (
  m_bnd (A 8 (v2).toNatClampNeg) (fun v3 =>
  self2 x2 v3 I A))))
  )

set_option maxRecDepth 100000 in
set_option maxHeartbeats 4000000 in
theorem ws_isBehind_2 {p : Program} {l : Launch} {e : Env} {s : State} {m : MethodId} {args : Array Value} {below : List Frame} {meth : Method} {c : Code} {Q : State → Prop} {D : va_G} {cy ci : ClassId} {h : Nat → Nat} {A0 : Nat → Prop} {o : Int32 × MS} (X : CallFix p m c cX12_isBehind 4 s args wsX12_isBehind RX12) (hret : mRi p l e ({ frames := 0, cells := 0, slots := 0, locals := 0 } : Room) s m args below meth c Q cX12_isBehind D cy ci h A0 .boolean o) {self2 : Int32 → Int32 → (Nat → Int32) → (Nat → Nat → Int32) → Option (Int32 × MS)} (hself2 : ∀ (x2 : Int32) (x3 : Int32) (I : Nat → Int32) (A : Nat → Nat → Int32) (H : Heap) (locs : List Loc) (ls : Array Slot), self2 x2 x3 I A = some o → mH D cy ci h A0 s H locs I A → lv_has ls 4 [(0, .ref (h 0)), (2, .int x2), (3, .int x3)] → W p l e ({ frames := 0, cells := 0, slots := 0, locals := 0 } : Room) s m args below meth c H locs 0 0 Q (F0 m 2 ls [])) {x2 : Int32} {x3 : Int32} {I : Nat → Int32} {A : Nat → Nat → Int32} {H : Heap} {locs : List Loc} {ls : Array Slot} (hf : f_isBehind_2s self2 x2 x3 I A = some o) (hM : mH D cy ci h A0 s H locs I A) (hl : lv_has ls 4 [(0, .ref (h 0)), (2, .int x2), (3, .int x3)]) : W p l e ({ frames := 0, cells := 0, slots := 0, locals := 0 } : Room) s m args below meth c H locs 0 0 Q (F0 m 2 ls []) := by
  obtain ⟨hx, hb, hml, hown, hts⟩ := id X
  unfold f_isBehind_2s at hf
  refine lv_iload_n hx hb dX12_isBehind_2 rfl (lv_at hl 2 rfl) ?_
  refine lv_iload_n hx hb dX12_isBehind_3 rfl (lv_at hl 1 rfl) ?_
  refine lv_icmp_le (tgt := 26) hx hb dX12_isBehind_4 (by decide) (fun cc1 => ?_) (fun cc1 => ?_)
  · replace hf := m_ifT hf cc1
    refine lv_iload_n hx hb dX12_isBehind_26 rfl (lv_at hl 2 rfl) ?_
    refine lv_iload_n hx hb dX12_isBehind_27 rfl (lv_at hl 1 rfl) ?_
    refine lv_icmp_ne (tgt := 35) hx hb dX12_isBehind_28 (by decide) (fun cc1 => ?_) (fun cc1 => ?_)
    · replace hf := m_ifF hf cc1
      refine lv_iconst (v := (0 : Int32)) hx hb dX12_isBehind_35 (by decide) ?_
      exact w_isBehind_36 X hret hf hM (lv_sub hl [] rfl)
    · replace hf := m_ifT hf cc1
      refine lv_iconst (v := (1 : Int32)) hx hb dX12_isBehind_31 (by decide) ?_
      refine lv_goto (tgt := 36) hx hb dX12_isBehind_32 (by decide) ?_
      exact w_isBehind_36 X hret hf hM (lv_sub hl [] rfl)
  · replace hf := m_ifF hf cc1
    refine lv_aload_n hx hb dX12_isBehind_7 rfl (lv_at hl 0 rfl) ?_
    refine m_get (v := .ref (h 8)) X hw_isBehind hM 8 (by decide) fl_isBehind_8 rfl dX12_isBehind_8 ?_
    refine lv_sipush (v := (301 : Int32)) hx hb dX12_isBehind_11 (by decide) ?_
    refine lv_aload_n hx hb dX12_isBehind_14 rfl (lv_at hl 0 rfl) ?_
    refine m_get (v := .int (I 5)) X hw_isBehind hM 5 (by decide) fl_isBehind_5 rfl dX12_isBehind_15 ?_
    refine lv_imul hx hb dX12_isBehind_18 ?_
    obtain ⟨v1, ev, hf⟩ := m_bndE hf
    refine m_top ev ?_
    clear ev
    refine lv_iload_n hx hb dX12_isBehind_19 rfl (lv_at hl 2 rfl) ?_
    refine lv_iadd hx hb dX12_isBehind_20 ?_
    obtain ⟨v2, ev, hf⟩ := m_bndE hf
    refine m_top ev ?_
    clear ev
    obtain ⟨cd, hf⟩ := m_chkE hf
    refine m_iald X hM 8 4 602 rfl cd dX12_isBehind_21 ?_
    clear cd
    obtain ⟨v3, ev, hf⟩ := m_bndE hf
    refine m_top ev ?_
    clear ev
    refine lv_istore_n (lv' := [(3, .int v3), (0, .ref (h 0)), (2, .int x2)]) hx hb dX12_isBehind_22 rfl hl (by decide) rfl (fun ls hl => ?_)
    refine lv_goto (tgt := 2) hx hb dX12_isBehind_23 (by decide) ?_
    exact hself2 _ _ _ _ _ _ _ hf hM (lv_sub hl [1, 2, 0] rfl)
def f_isBehind_2 : Nat → Int32 → Int32 → (Nat → Int32) → (Nat → Nat → Int32) → Option (Int32 × MS)
  | 0 => fun _ _ _ _ => none
  | n + 1 => f_isBehind_2s (f_isBehind_2 n)
theorem w_isBehind_2 {p : Program} {l : Launch} {e : Env} {s : State} {m : MethodId} {args : Array Value} {below : List Frame} {meth : Method} {c : Code} {Q : State → Prop} {D : va_G} {cy ci : ClassId} {h : Nat → Nat} {A0 : Nat → Prop} {o : Int32 × MS} (X : CallFix p m c cX12_isBehind 4 s args wsX12_isBehind RX12) (hret : mRi p l e ({ frames := 0, cells := 0, slots := 0, locals := 0 } : Room) s m args below meth c Q cX12_isBehind D cy ci h A0 .boolean o) (n : Nat) : ∀ (x2 : Int32) (x3 : Int32) (I : Nat → Int32) (A : Nat → Nat → Int32) (H : Heap) (locs : List Loc) (ls : Array Slot), f_isBehind_2 n x2 x3 I A = some o → mH D cy ci h A0 s H locs I A → lv_has ls 4 [(0, .ref (h 0)), (2, .int x2), (3, .int x3)] → W p l e ({ frames := 0, cells := 0, slots := 0, locals := 0 } : Room) s m args below meth c H locs 0 0 Q (F0 m 2 ls []) := by
  induction n with
  | zero => intro x2 x3 I A H locs ls hf; cases hf
  | succ n ih => intro x2 x3 I A H locs ls hf hM hl; exact ws_isBehind_2 X hret (self2 := f_isBehind_2 n) ih hf hM hl
def f_isBehind_0 (x1 : Int32) (x2 : Int32) (I : Nat → Int32) (A : Nat → Nat → Int32) : Option (Int32 × MS) :=
  f_isBehind_2 mFuel x2 x1 I A

set_option maxRecDepth 100000 in
set_option maxHeartbeats 4000000 in
theorem w_isBehind_0 {p : Program} {l : Launch} {e : Env} {s : State} {m : MethodId} {args : Array Value} {below : List Frame} {meth : Method} {c : Code} {Q : State → Prop} {D : va_G} {cy ci : ClassId} {h : Nat → Nat} {A0 : Nat → Prop} {o : Int32 × MS} (X : CallFix p m c cX12_isBehind 4 s args wsX12_isBehind RX12) (hret : mRi p l e ({ frames := 0, cells := 0, slots := 0, locals := 0 } : Room) s m args below meth c Q cX12_isBehind D cy ci h A0 .boolean o) {x1 : Int32} {x2 : Int32} {I : Nat → Int32} {A : Nat → Nat → Int32} {H : Heap} {locs : List Loc} {ls : Array Slot} (hf : f_isBehind_0 x1 x2 I A = some o) (hM : mH D cy ci h A0 s H locs I A) (hl : lv_has ls 4 [(0, .ref (h 0)), (1, .int x1), (2, .int x2)]) : W p l e ({ frames := 0, cells := 0, slots := 0, locals := 0 } : Room) s m args below meth c H locs 0 0 Q (F0 m 0 ls []) := by
  obtain ⟨hx, hb, hml, hown, hts⟩ := id X
  unfold f_isBehind_0 at hf
  refine lv_iload_n hx hb dX12_isBehind_0 rfl (lv_at hl 1 rfl) ?_
  refine lv_istore_n (lv' := [(3, .int x1), (0, .ref (h 0)), (1, .int x1), (2, .int x2)]) hx hb dX12_isBehind_1 rfl hl (by decide) rfl (fun ls hl => ?_)
  exact w_isBehind_2 X hret _ _ _ _ _ _ _ _ hf hM (lv_sub hl [1, 3, 0] rfl)
def f_isBehind (x1 : Int32) (x2 : Int32) (I : Nat → Int32) (A : Nat → Nat → Int32) : Option (Int32 × MS) := f_isBehind_0 x1 x2 I A
theorem c_isBehind {l : Launch} {D : va_G} {cy ci : ClassId} {h : Nat → Nat} {x1 : Int32} {x2 : Int32} {I : Nat → Int32} {A : Nat → Nat → Int32} {o : Int32 × MS} (hf : f_isBehind x1 x2 I A = some o) : mMi l yX12_isBehind wsX12_isBehind ({ frames := 0, cells := 0, slots := 0, locals := 0 } : Room) [.ref (h 0), .int x1, .int x2] D cy ci h I A o :=
  m_entryI (cc := cX12_isBehind) (maxL := 4) (by decide) rfl rfl (Nat.le_of_ble_eq_true rfl) (fun p e s m args below meth c A0 Q H locs ls X hret hM hl => w_isBehind_0 X hret hf hM (lv_sub hl [0, 1, 2] rfl))
theorem hw_lead : ∀ w ∈ wsX120, w ∈ wsX12_lead := by decide +kernel
theorem fl_lead_0 : Cond.fieldLink RX12 99 "MoveTextsModel" "thrown" "I" ∈ wsX12_lead := by decide +kernel
theorem fl_lead_5 : Cond.fieldLink RX12 347 "MoveTextsModel" "game" "I" ∈ wsX12_lead := by decide +kernel
theorem fl_lead_6 : Cond.fieldLink RX12 353 "MoveTextsModel" "here" "I" ∈ wsX12_lead := by decide +kernel
theorem fl_lead_7 : Cond.fieldLink RX12 17 "MoveTextsModel" "count" "[I" ∈ wsX12_lead := by decide +kernel
theorem fl_lead_8 : Cond.fieldLink RX12 21 "MoveTextsModel" "parent" "[I" ∈ wsX12_lead := by decide +kernel
theorem fl_lead_10 : Cond.fieldLink RX12 27 "MoveTextsModel" "child" "[I" ∈ wsX12_lead := by decide +kernel
theorem fl_lead_11 : Cond.fieldLink RX12 30 "MoveTextsModel" "next" "[I" ∈ wsX12_lead := by decide +kernel
theorem hd_lead : yX12_lead.cls = RX12 ∧ yX12_lead.cls ≠ "java/lang/invoke/MethodHandle" ∧ yX12_lead.cls ≠ "java/lang/invoke/VarHandle" ∧ (parseMethodDescriptor yX12_lead.desc).map (fun d => d.parameters.length) = some 0 := by decide +kernel
def f_lead_123s (self123 : Int32 → Int32 → Int32 → (Nat → Int32) → (Nat → Nat → Int32) → Option (Int32 × MS)) (x1 : Int32) (x2 : Int32) (x3 : Int32) (I : Nat → Int32) (A : Nat → Nat → Int32) : Option (Int32 × MS) :=
  m_bnd ((301 : Int32) * (I 5)) (fun v1 =>
  m_bnd (v1 + x3) (fun v2 =>
  m_chk (¬ (v2 < 0 ∨ 602 ≤ (v2).toNatClampNeg)) (
  m_bnd (A 11 (v2).toNatClampNeg) (fun v3 =>
  m_if (v3 = (I 6)) (
  m_bnd ((301 : Int32) * (I 5)) (fun v4 =>
  m_bnd (v4 + x3) (fun v5 =>
  m_bnd ((301 : Int32) * (I 5)) (fun v6 =>
  m_bnd (v6 + (I 6)) (fun v7 =>
  m_chk (¬ (v7 < 0 ∨ 602 ≤ (v7).toNatClampNeg)) (
  m_bnd (A 11 (v7).toNatClampNeg) (fun v8 =>
  m_chk (¬ (v5 < 0 ∨ 602 ≤ (v5).toNatClampNeg)) (
  m_bnd (va_up A 11 (upd (A 11) (v5).toNatClampNeg v8)) (fun A9 =>
  m_bnd ((301 : Int32) * (I 5)) (fun v10 =>
  m_bnd (v10 + (I 6)) (fun v11 =>
  m_chk (¬ (v11 < 0 ∨ 602 ≤ (v11).toNatClampNeg)) (
  m_bnd (va_up A9 11 (upd (A9 11) (v11).toNatClampNeg x2)) (fun A12 =>
  m_bnd ((301 : Int32) * (I 5)) (fun v13 =>
  m_bnd (v13 + x1) (fun v14 =>
  m_chk (¬ (v14 < 0 ∨ 602 ≤ (v14).toNatClampNeg)) (
  m_bnd (va_up A12 10 (upd (A12 10) (v14).toNatClampNeg (I 6))) (fun A15 =>
  m_chk (vp_nar .boolean (1 : Int32) = (1 : Int32)) (some ((1 : Int32), (I, A15)))))))))))))))))))
  ) (
  m_bnd ((301 : Int32) * (I 5)) (fun v16 =>
  m_bnd (v16 + x3) (fun v17 =>
  m_chk (¬ (v17 < 0 ∨ 602 ≤ (v17).toNatClampNeg)) (
  m_bnd (A 11 (v17).toNatClampNeg) (fun v18 =>
  self123 x1 x2 v18 I A))))
  )))))

set_option maxRecDepth 100000 in
set_option maxHeartbeats 4000000 in
theorem ws_lead_123 {p : Program} {l : Launch} {e : Env} {s : State} {m : MethodId} {args : Array Value} {below : List Frame} {meth : Method} {c : Code} {Q : State → Prop} {D : va_G} {cy ci : ClassId} {h : Nat → Nat} {A0 : Nat → Prop} {o : Int32 × MS} (X : CallFix p m c cX12_lead 4 s args wsX12_lead RX12) (hret : mRi p l e ({ frames := 2, cells := 0, slots := 0, locals := 46 } : Room) s m args below meth c Q cX12_lead D cy ci h A0 .boolean o) {self123 : Int32 → Int32 → Int32 → (Nat → Int32) → (Nat → Nat → Int32) → Option (Int32 × MS)} (hself123 : ∀ (x1 : Int32) (x2 : Int32) (x3 : Int32) (I : Nat → Int32) (A : Nat → Nat → Int32) (H : Heap) (locs : List Loc) (ls : Array Slot), self123 x1 x2 x3 I A = some o → mH D cy ci h A0 s H locs I A → lv_has ls 4 [(0, .ref (h 0)), (1, .int x1), (2, .int x2), (3, .int x3)] → W p l e ({ frames := 2, cells := 0, slots := 0, locals := 46 } : Room) s m args below meth c H locs 0 0 Q (F0 m 123 ls [])) {x1 : Int32} {x2 : Int32} {x3 : Int32} {I : Nat → Int32} {A : Nat → Nat → Int32} {H : Heap} {locs : List Loc} {ls : Array Slot} (hf : f_lead_123s self123 x1 x2 x3 I A = some o) (hM : mH D cy ci h A0 s H locs I A) (hl : lv_has ls 4 [(0, .ref (h 0)), (1, .int x1), (2, .int x2), (3, .int x3)]) : W p l e ({ frames := 2, cells := 0, slots := 0, locals := 46 } : Room) s m args below meth c H locs 0 0 Q (F0 m 123 ls []) := by
  obtain ⟨hx, hb, hml, hown, hts⟩ := id X
  unfold f_lead_123s at hf
  refine lv_aload_n hx hb dX12_lead_123 rfl (lv_at hl 0 rfl) ?_
  refine m_get (v := .ref (h 11)) X hw_lead hM 11 (by decide) fl_lead_11 rfl dX12_lead_124 ?_
  refine lv_sipush (v := (301 : Int32)) hx hb dX12_lead_127 (by decide) ?_
  refine lv_aload_n hx hb dX12_lead_130 rfl (lv_at hl 0 rfl) ?_
  refine m_get (v := .int (I 5)) X hw_lead hM 5 (by decide) fl_lead_5 rfl dX12_lead_131 ?_
  refine lv_imul hx hb dX12_lead_134 ?_
  obtain ⟨v1, ev, hf⟩ := m_bndE hf
  refine m_top ev ?_
  clear ev
  refine lv_iload_n hx hb dX12_lead_135 rfl (lv_at hl 3 rfl) ?_
  refine lv_iadd hx hb dX12_lead_136 ?_
  obtain ⟨v2, ev, hf⟩ := m_bndE hf
  refine m_top ev ?_
  clear ev
  obtain ⟨cd, hf⟩ := m_chkE hf
  refine m_iald X hM 11 7 602 rfl cd dX12_lead_137 ?_
  clear cd
  obtain ⟨v3, ev, hf⟩ := m_bndE hf
  refine m_top ev ?_
  clear ev
  refine lv_aload_n hx hb dX12_lead_138 rfl (lv_at hl 0 rfl) ?_
  refine m_get (v := .int (I 6)) X hw_lead hM 6 (by decide) fl_lead_6 rfl dX12_lead_139 ?_
  refine lv_icmp_eq (tgt := 164) hx hb dX12_lead_142 (by decide) (fun cc1 => ?_) (fun cc1 => ?_)
  · replace hf := m_ifT hf cc1
    refine lv_aload_n hx hb dX12_lead_164 rfl (lv_at hl 0 rfl) ?_
    refine m_get (v := .ref (h 11)) X hw_lead hM 11 (by decide) fl_lead_11 rfl dX12_lead_165 ?_
    refine lv_sipush (v := (301 : Int32)) hx hb dX12_lead_168 (by decide) ?_
    refine lv_aload_n hx hb dX12_lead_171 rfl (lv_at hl 0 rfl) ?_
    refine m_get (v := .int (I 5)) X hw_lead hM 5 (by decide) fl_lead_5 rfl dX12_lead_172 ?_
    refine lv_imul hx hb dX12_lead_175 ?_
    obtain ⟨v4, ev, hf⟩ := m_bndE hf
    refine m_top ev ?_
    clear ev
    refine lv_iload_n hx hb dX12_lead_176 rfl (lv_at hl 3 rfl) ?_
    refine lv_iadd hx hb dX12_lead_177 ?_
    obtain ⟨v5, ev, hf⟩ := m_bndE hf
    refine m_top ev ?_
    clear ev
    refine lv_aload_n hx hb dX12_lead_178 rfl (lv_at hl 0 rfl) ?_
    refine m_get (v := .ref (h 11)) X hw_lead hM 11 (by decide) fl_lead_11 rfl dX12_lead_179 ?_
    refine lv_sipush (v := (301 : Int32)) hx hb dX12_lead_182 (by decide) ?_
    refine lv_aload_n hx hb dX12_lead_185 rfl (lv_at hl 0 rfl) ?_
    refine m_get (v := .int (I 5)) X hw_lead hM 5 (by decide) fl_lead_5 rfl dX12_lead_186 ?_
    refine lv_imul hx hb dX12_lead_189 ?_
    obtain ⟨v6, ev, hf⟩ := m_bndE hf
    refine m_top ev ?_
    clear ev
    refine lv_aload_n hx hb dX12_lead_190 rfl (lv_at hl 0 rfl) ?_
    refine m_get (v := .int (I 6)) X hw_lead hM 6 (by decide) fl_lead_6 rfl dX12_lead_191 ?_
    refine lv_iadd hx hb dX12_lead_194 ?_
    obtain ⟨v7, ev, hf⟩ := m_bndE hf
    refine m_top ev ?_
    clear ev
    obtain ⟨cd, hf⟩ := m_chkE hf
    refine m_iald X hM 11 7 602 rfl cd dX12_lead_195 ?_
    clear cd
    obtain ⟨v8, ev, hf⟩ := m_bndE hf
    refine m_top ev ?_
    clear ev
    obtain ⟨cd, hf⟩ := m_chkE hf
    refine m_iast X hM 11 7 602 rfl ma_11 cd dX12_lead_196 (fun H locs hM => ?_)
    clear cd
    obtain ⟨A9, ev, hf⟩ := m_bndE hf
    replace hM := m_hA hM ev
    clear ev
    refine lv_aload_n hx hb dX12_lead_197 rfl (lv_at hl 0 rfl) ?_
    refine m_get (v := .ref (h 11)) X hw_lead hM 11 (by decide) fl_lead_11 rfl dX12_lead_198 ?_
    refine lv_sipush (v := (301 : Int32)) hx hb dX12_lead_201 (by decide) ?_
    refine lv_aload_n hx hb dX12_lead_204 rfl (lv_at hl 0 rfl) ?_
    refine m_get (v := .int (I 5)) X hw_lead hM 5 (by decide) fl_lead_5 rfl dX12_lead_205 ?_
    refine lv_imul hx hb dX12_lead_208 ?_
    obtain ⟨v10, ev, hf⟩ := m_bndE hf
    refine m_top ev ?_
    clear ev
    refine lv_aload_n hx hb dX12_lead_209 rfl (lv_at hl 0 rfl) ?_
    refine m_get (v := .int (I 6)) X hw_lead hM 6 (by decide) fl_lead_6 rfl dX12_lead_210 ?_
    refine lv_iadd hx hb dX12_lead_213 ?_
    obtain ⟨v11, ev, hf⟩ := m_bndE hf
    refine m_top ev ?_
    clear ev
    refine lv_iload_n hx hb dX12_lead_214 rfl (lv_at hl 2 rfl) ?_
    obtain ⟨cd, hf⟩ := m_chkE hf
    refine m_iast X hM 11 7 602 rfl ma_11 cd dX12_lead_215 (fun H locs hM => ?_)
    clear cd
    obtain ⟨A12, ev, hf⟩ := m_bndE hf
    replace hM := m_hA hM ev
    clear ev
    refine lv_aload_n hx hb dX12_lead_216 rfl (lv_at hl 0 rfl) ?_
    refine m_get (v := .ref (h 10)) X hw_lead hM 10 (by decide) fl_lead_10 rfl dX12_lead_217 ?_
    refine lv_sipush (v := (301 : Int32)) hx hb dX12_lead_220 (by decide) ?_
    refine lv_aload_n hx hb dX12_lead_223 rfl (lv_at hl 0 rfl) ?_
    refine m_get (v := .int (I 5)) X hw_lead hM 5 (by decide) fl_lead_5 rfl dX12_lead_224 ?_
    refine lv_imul hx hb dX12_lead_227 ?_
    obtain ⟨v13, ev, hf⟩ := m_bndE hf
    refine m_top ev ?_
    clear ev
    refine lv_iload_n hx hb dX12_lead_228 rfl (lv_at hl 1 rfl) ?_
    refine lv_iadd hx hb dX12_lead_229 ?_
    obtain ⟨v14, ev, hf⟩ := m_bndE hf
    refine m_top ev ?_
    clear ev
    refine lv_aload_n hx hb dX12_lead_230 rfl (lv_at hl 0 rfl) ?_
    refine m_get (v := .int (I 6)) X hw_lead hM 6 (by decide) fl_lead_6 rfl dX12_lead_231 ?_
    obtain ⟨cd, hf⟩ := m_chkE hf
    refine m_iast X hM 10 6 602 rfl ma_10 cd dX12_lead_234 (fun H locs hM => ?_)
    clear cd
    obtain ⟨A15, ev, hf⟩ := m_bndE hf
    replace hM := m_hA hM ev
    clear ev
    refine lv_iconst (v := (1 : Int32)) hx hb dX12_lead_235 (by decide) ?_
    obtain ⟨cd, hf⟩ := m_chkE hf
    cases hf
    exact hret H locs _ ls hM (m_nb cd) dX12_lead_236
  · replace hf := m_ifF hf cc1
    refine lv_aload_n hx hb dX12_lead_145 rfl (lv_at hl 0 rfl) ?_
    refine m_get (v := .ref (h 11)) X hw_lead hM 11 (by decide) fl_lead_11 rfl dX12_lead_146 ?_
    refine lv_sipush (v := (301 : Int32)) hx hb dX12_lead_149 (by decide) ?_
    refine lv_aload_n hx hb dX12_lead_152 rfl (lv_at hl 0 rfl) ?_
    refine m_get (v := .int (I 5)) X hw_lead hM 5 (by decide) fl_lead_5 rfl dX12_lead_153 ?_
    refine lv_imul hx hb dX12_lead_156 ?_
    obtain ⟨v16, ev, hf⟩ := m_bndE hf
    refine m_top ev ?_
    clear ev
    refine lv_iload_n hx hb dX12_lead_157 rfl (lv_at hl 3 rfl) ?_
    refine lv_iadd hx hb dX12_lead_158 ?_
    obtain ⟨v17, ev, hf⟩ := m_bndE hf
    refine m_top ev ?_
    clear ev
    obtain ⟨cd, hf⟩ := m_chkE hf
    refine m_iald X hM 11 7 602 rfl cd dX12_lead_159 ?_
    clear cd
    obtain ⟨v18, ev, hf⟩ := m_bndE hf
    refine m_top ev ?_
    clear ev
    refine lv_istore_n (lv' := [(3, .int v18), (0, .ref (h 0)), (1, .int x1), (2, .int x2)]) hx hb dX12_lead_160 rfl hl (by decide) rfl (fun ls hl => ?_)
    refine lv_goto (tgt := 123) hx hb dX12_lead_161 (by decide) ?_
    exact hself123 _ _ _ _ _ _ _ _ hf hM (lv_sub hl [1, 2, 3, 0] rfl)
def f_lead_123 : Nat → Int32 → Int32 → Int32 → (Nat → Int32) → (Nat → Nat → Int32) → Option (Int32 × MS)
  | 0 => fun _ _ _ _ _ => none
  | n + 1 => f_lead_123s (f_lead_123 n)
theorem w_lead_123 {p : Program} {l : Launch} {e : Env} {s : State} {m : MethodId} {args : Array Value} {below : List Frame} {meth : Method} {c : Code} {Q : State → Prop} {D : va_G} {cy ci : ClassId} {h : Nat → Nat} {A0 : Nat → Prop} {o : Int32 × MS} (X : CallFix p m c cX12_lead 4 s args wsX12_lead RX12) (hret : mRi p l e ({ frames := 2, cells := 0, slots := 0, locals := 46 } : Room) s m args below meth c Q cX12_lead D cy ci h A0 .boolean o) (n : Nat) : ∀ (x1 : Int32) (x2 : Int32) (x3 : Int32) (I : Nat → Int32) (A : Nat → Nat → Int32) (H : Heap) (locs : List Loc) (ls : Array Slot), f_lead_123 n x1 x2 x3 I A = some o → mH D cy ci h A0 s H locs I A → lv_has ls 4 [(0, .ref (h 0)), (1, .int x1), (2, .int x2), (3, .int x3)] → W p l e ({ frames := 2, cells := 0, slots := 0, locals := 46 } : Room) s m args below meth c H locs 0 0 Q (F0 m 123 ls []) := by
  induction n with
  | zero => intro x1 x2 x3 I A H locs ls hf; cases hf
  | succ n ih => intro x1 x2 x3 I A H locs ls hf hM hl; exact ws_lead_123 X hret (self123 := f_lead_123 n) ih hf hM hl
def f_lead_115 (self72 : Int32 → Int32 → Int32 → (Nat → Int32) → (Nat → Nat → Int32) → Option (Int32 × MS)) (x1 : Int32) (x2 : Int32) (x3 : Int32) (I : Nat → Int32) (A : Nat → Nat → Int32) : Option (Int32 × MS) :=
  m_bnd (x3 + (1 : Int32)) (fun v1 =>
  self72 x1 x2 v1 I A)

set_option maxRecDepth 100000 in
set_option maxHeartbeats 4000000 in
theorem w_lead_115 {p : Program} {l : Launch} {e : Env} {s : State} {m : MethodId} {args : Array Value} {below : List Frame} {meth : Method} {c : Code} {Q : State → Prop} {D : va_G} {cy ci : ClassId} {h : Nat → Nat} {A0 : Nat → Prop} {o : Int32 × MS} (X : CallFix p m c cX12_lead 4 s args wsX12_lead RX12) (hret : mRi p l e ({ frames := 2, cells := 0, slots := 0, locals := 46 } : Room) s m args below meth c Q cX12_lead D cy ci h A0 .boolean o) {self72 : Int32 → Int32 → Int32 → (Nat → Int32) → (Nat → Nat → Int32) → Option (Int32 × MS)} (hself72 : ∀ (x1 : Int32) (x2 : Int32) (x3 : Int32) (I : Nat → Int32) (A : Nat → Nat → Int32) (H : Heap) (locs : List Loc) (ls : Array Slot), self72 x1 x2 x3 I A = some o → mH D cy ci h A0 s H locs I A → lv_has ls 4 [(0, .ref (h 0)), (1, .int x1), (2, .int x2), (3, .int x3)] → W p l e ({ frames := 2, cells := 0, slots := 0, locals := 46 } : Room) s m args below meth c H locs 0 0 Q (F0 m 72 ls [])) {x1 : Int32} {x2 : Int32} {x3 : Int32} {I : Nat → Int32} {A : Nat → Nat → Int32} {H : Heap} {locs : List Loc} {ls : Array Slot} (hf : f_lead_115 self72 x1 x2 x3 I A = some o) (hM : mH D cy ci h A0 s H locs I A) (hl : lv_has ls 4 [(0, .ref (h 0)), (1, .int x1), (2, .int x2), (3, .int x3)]) : W p l e ({ frames := 2, cells := 0, slots := 0, locals := 46 } : Room) s m args below meth c H locs 0 0 Q (F0 m 115 ls []) := by
  obtain ⟨hx, hb, hml, hown, hts⟩ := id X
  unfold f_lead_115 at hf
  obtain ⟨v1, ev, hf⟩ := m_bndE hf
  refine lv_iinc (v := v1) (lv' := [(3, .int v1), (0, .ref (h 0)), (1, .int x1), (2, .int x2)]) hx hb dX12_lead_115 hl (k := 3) rfl (by rw [ev]; rfl) (by decide) rfl (fun ls hl => ?_)
  clear ev
  refine lv_goto (tgt := 72) hx hb dX12_lead_118 (by decide) ?_
  exact hself72 _ _ _ _ _ _ _ _ hf hM (lv_sub hl [1, 2, 3, 0] rfl)
def f_lead_72s (self72 : Int32 → Int32 → Int32 → (Nat → Int32) → (Nat → Nat → Int32) → Option (Int32 × MS)) (x1 : Int32) (x2 : Int32) (x3 : Int32) (I : Nat → Int32) (A : Nat → Nat → Int32) : Option (Int32 × MS) :=
  m_chk (¬ ((I 5) < 0 ∨ 2 ≤ ((I 5)).toNatClampNeg)) (
  m_bnd (A 7 ((I 5)).toNatClampNeg) (fun v1 =>
  m_if (v1 < x3) (
  f_lead_123 mFuel x1 x2 x2 I A
  ) (
  m_cl (f_isBehind x3 x2 I A) (fun r2 Ic2 Ac2 =>
  m_if (r2 = 0) (
  f_lead_115 self72 x1 x2 x3 Ic2 Ac2
  ) (
  m_cl (f_deepOf (Ic2 5) x3 Ic2 Ac2) (fun r3 Ic3 Ac3 =>
  m_if (r3 = (6 : Int32)) (
  m_bnd (upd Ic3 0 (1 : Int32)) (fun I4 =>
  m_chk (vp_nar .boolean (0 : Int32) = (0 : Int32)) (some ((0 : Int32), (I4, Ac3))))
  ) (
  f_lead_115 self72 x1 x2 x3 Ic3 Ac3
  ))
  ))
  )))

set_option maxRecDepth 100000 in
set_option maxHeartbeats 4000000 in
theorem ws_lead_72 {p : Program} {l : Launch} {e : Env} {s : State} {m : MethodId} {args : Array Value} {below : List Frame} {meth : Method} {c : Code} {Q : State → Prop} {D : va_G} {cy ci : ClassId} {h : Nat → Nat} {A0 : Nat → Prop} {o : Int32 × MS} (X : CallFix p m c cX12_lead 4 s args wsX12_lead RX12) (hret : mRi p l e ({ frames := 2, cells := 0, slots := 0, locals := 46 } : Room) s m args below meth c Q cX12_lead D cy ci h A0 .boolean o) {self72 : Int32 → Int32 → Int32 → (Nat → Int32) → (Nat → Nat → Int32) → Option (Int32 × MS)} (hself72 : ∀ (x1 : Int32) (x2 : Int32) (x3 : Int32) (I : Nat → Int32) (A : Nat → Nat → Int32) (H : Heap) (locs : List Loc) (ls : Array Slot), self72 x1 x2 x3 I A = some o → mH D cy ci h A0 s H locs I A → lv_has ls 4 [(0, .ref (h 0)), (1, .int x1), (2, .int x2), (3, .int x3)] → W p l e ({ frames := 2, cells := 0, slots := 0, locals := 46 } : Room) s m args below meth c H locs 0 0 Q (F0 m 72 ls [])) {x1 : Int32} {x2 : Int32} {x3 : Int32} {I : Nat → Int32} {A : Nat → Nat → Int32} {H : Heap} {locs : List Loc} {ls : Array Slot} (hf : f_lead_72s self72 x1 x2 x3 I A = some o) (hM : mH D cy ci h A0 s H locs I A) (hl : lv_has ls 4 [(0, .ref (h 0)), (1, .int x1), (2, .int x2), (3, .int x3)]) : W p l e ({ frames := 2, cells := 0, slots := 0, locals := 46 } : Room) s m args below meth c H locs 0 0 Q (F0 m 72 ls []) := by
  obtain ⟨hx, hb, hml, hown, hts⟩ := id X
  unfold f_lead_72s at hf
  refine lv_iload_n hx hb dX12_lead_72 rfl (lv_at hl 3 rfl) ?_
  refine lv_aload_n hx hb dX12_lead_73 rfl (lv_at hl 0 rfl) ?_
  refine m_get (v := .ref (h 7)) X hw_lead hM 7 (by decide) fl_lead_7 rfl dX12_lead_74 ?_
  refine lv_aload_n hx hb dX12_lead_77 rfl (lv_at hl 0 rfl) ?_
  refine m_get (v := .int (I 5)) X hw_lead hM 5 (by decide) fl_lead_5 rfl dX12_lead_78 ?_
  obtain ⟨cd, hf⟩ := m_chkE hf
  refine m_iald X hM 7 3 2 rfl cd dX12_lead_81 ?_
  clear cd
  obtain ⟨v1, ev, hf⟩ := m_bndE hf
  refine m_top ev ?_
  clear ev
  refine lv_icmp_gt (tgt := 121) hx hb dX12_lead_82 (by decide) (fun cc1 => ?_) (fun cc1 => ?_)
  · replace hf := m_ifT hf cc1
    refine lv_iload_n hx hb dX12_lead_121 rfl (lv_at hl 2 rfl) ?_
    refine lv_istore_n (lv' := [(3, .int x2), (0, .ref (h 0)), (1, .int x1), (2, .int x2)]) hx hb dX12_lead_122 rfl hl (by decide) rfl (fun ls hl => ?_)
    exact w_lead_123 X hret _ _ _ _ _ _ _ _ _ hf hM (lv_sub hl [1, 2, 3, 0] rfl)
  · replace hf := m_ifF hf cc1
    refine lv_aload_n hx hb dX12_lead_85 rfl (lv_at hl 0 rfl) ?_
    refine lv_iload_n hx hb dX12_lead_86 rfl (lv_at hl 3 rfl) ?_
    refine lv_iload_n hx hb dX12_lead_87 rfl (lv_at hl 2 rfl) ?_
    obtain ⟨o2, ho, hf⟩ := m_clE hf
    refine m_callVi X hM (c_isBehind ho) gX12_lead_X12_isBehind rfl ⟨rfl, rfl⟩ hd_isBehind ⟨Nat.le_of_ble_eq_true rfl, Nat.le_of_ble_eq_true rfl⟩ rfl hl.1 rfl (Nat.le_of_ble_eq_true rfl) dX12_lead_88 (fun H locs hM => ?_)
    clear ho
    refine lv_if_eq (tgt := 115) hx hb dX12_lead_91 (by decide) (fun cc1 => ?_) (fun cc1 => ?_)
    · replace hf := m_ifT hf cc1
      exact w_lead_115 X hret hself72 hf hM (lv_sub hl [0, 1, 2, 3] rfl)
    · replace hf := m_ifF hf cc1
      refine lv_aload_n hx hb dX12_lead_94 rfl (lv_at hl 0 rfl) ?_
      refine lv_aload_n hx hb dX12_lead_95 rfl (lv_at hl 0 rfl) ?_
      refine m_get (v := .int (o2.2.1 5)) X hw_lead hM 5 (by decide) fl_lead_5 rfl dX12_lead_96 ?_
      refine lv_iload_n hx hb dX12_lead_99 rfl (lv_at hl 3 rfl) ?_
      obtain ⟨o3, ho, hf⟩ := m_clE hf
      refine m_callVi X hM (c_deepOf ho) gX12_lead_X12_deepOf rfl ⟨rfl, rfl⟩ hd_deepOf ⟨Nat.le_of_ble_eq_true rfl, Nat.le_of_ble_eq_true rfl⟩ rfl hl.1 rfl (Nat.le_of_ble_eq_true rfl) dX12_lead_100 (fun H locs hM => ?_)
      clear ho
      refine lv_bipush (v := (6 : Int32)) hx hb dX12_lead_103 (by decide) ?_
      refine lv_icmp_ne (tgt := 115) hx hb dX12_lead_105 (by decide) (fun cc1 => ?_) (fun cc1 => ?_)
      · replace hf := m_ifF hf cc1
        exact w_lead_115 X hret hself72 hf hM (lv_sub hl [0, 1, 2, 3] rfl)
      · replace hf := m_ifT hf cc1
        refine lv_aload_n hx hb dX12_lead_108 rfl (lv_at hl 0 rfl) ?_
        refine lv_iconst (v := (1 : Int32)) hx hb dX12_lead_109 (by decide) ?_
        refine m_put X hw_lead hM 0 (by decide) fl_lead_0 mi_0 rfl (tyX12_ok 0 (by decide)) dX12_lead_110 (fun H locs hM => ?_)
        obtain ⟨I4, ev, hf⟩ := m_bndE hf
        replace hM := m_hI hM ev
        clear ev
        refine lv_iconst (v := (0 : Int32)) hx hb dX12_lead_113 (by decide) ?_
        obtain ⟨cd, hf⟩ := m_chkE hf
        cases hf
        exact hret H locs _ ls hM (m_nb cd) dX12_lead_114
def f_lead_72 : Nat → Int32 → Int32 → Int32 → (Nat → Int32) → (Nat → Nat → Int32) → Option (Int32 × MS)
  | 0 => fun _ _ _ _ _ => none
  | n + 1 => f_lead_72s (f_lead_72 n)
theorem w_lead_72 {p : Program} {l : Launch} {e : Env} {s : State} {m : MethodId} {args : Array Value} {below : List Frame} {meth : Method} {c : Code} {Q : State → Prop} {D : va_G} {cy ci : ClassId} {h : Nat → Nat} {A0 : Nat → Prop} {o : Int32 × MS} (X : CallFix p m c cX12_lead 4 s args wsX12_lead RX12) (hret : mRi p l e ({ frames := 2, cells := 0, slots := 0, locals := 46 } : Room) s m args below meth c Q cX12_lead D cy ci h A0 .boolean o) (n : Nat) : ∀ (x1 : Int32) (x2 : Int32) (x3 : Int32) (I : Nat → Int32) (A : Nat → Nat → Int32) (H : Heap) (locs : List Loc) (ls : Array Slot), f_lead_72 n x1 x2 x3 I A = some o → mH D cy ci h A0 s H locs I A → lv_has ls 4 [(0, .ref (h 0)), (1, .int x1), (2, .int x2), (3, .int x3)] → W p l e ({ frames := 2, cells := 0, slots := 0, locals := 46 } : Room) s m args below meth c H locs 0 0 Q (F0 m 72 ls []) := by
  induction n with
  | zero => intro x1 x2 x3 I A H locs ls hf; cases hf
  | succ n ih => intro x1 x2 x3 I A H locs ls hf hM hl; exact ws_lead_72 X hret (self72 := f_lead_72 n) ih hf hM hl
def f_lead_13 (t0 : Int32) (I : Nat → Int32) (A : Nat → Nat → Int32) : Option (Int32 × MS) :=
  m_bnd (upd I 0 t0) (fun I1 =>
  m_if ((I1 0) ≤ 0) (
  m_bnd ((301 : Int32) * (I1 5)) (fun v2 =>
  m_bnd (v2 + (I1 6)) (fun v3 =>
  m_chk (¬ (v3 < 0 ∨ 602 ≤ (v3).toNatClampNeg)) (
  m_bnd (A 8 (v3).toNatClampNeg) (fun v4 =>
  m_bnd ((301 : Int32) * (I1 5)) (fun v5 =>
  m_bnd (v5 + v4) (fun v6 =>
  m_chk (¬ (v6 < 0 ∨ 602 ≤ (v6).toNatClampNeg)) (
  m_bnd (A 10 (v6).toNatClampNeg) (fun v7 =>
  m_if (v7 = (I1 6)) (
  m_chk (vp_nar .boolean (0 : Int32) = (0 : Int32)) (some ((0 : Int32), (I1, A)))
  ) (
  f_lead_72 mFuel v4 v7 (1 : Int32) I1 A
  )))))))))
  ) (
  m_chk (vp_nar .boolean (0 : Int32) = (0 : Int32)) (some ((0 : Int32), (I1, A)))
  ))

set_option maxRecDepth 100000 in
set_option maxHeartbeats 4000000 in
theorem w_lead_13 {p : Program} {l : Launch} {e : Env} {s : State} {m : MethodId} {args : Array Value} {below : List Frame} {meth : Method} {c : Code} {Q : State → Prop} {D : va_G} {cy ci : ClassId} {h : Nat → Nat} {A0 : Nat → Prop} {o : Int32 × MS} (X : CallFix p m c cX12_lead 4 s args wsX12_lead RX12) (hret : mRi p l e ({ frames := 2, cells := 0, slots := 0, locals := 46 } : Room) s m args below meth c Q cX12_lead D cy ci h A0 .boolean o) {t0 : Int32} {I : Nat → Int32} {A : Nat → Nat → Int32} {H : Heap} {locs : List Loc} {ls : Array Slot} (hf : f_lead_13 t0 I A = some o) (hM : mH D cy ci h A0 s H locs I A) (hl : lv_has ls 4 [(0, .ref (h 0))]) : W p l e ({ frames := 2, cells := 0, slots := 0, locals := 46 } : Room) s m args below meth c H locs 0 0 Q (F0 m 13 ls [.int t0, .ref (h 0)]) := by
  obtain ⟨hx, hb, hml, hown, hts⟩ := id X
  unfold f_lead_13 at hf
  refine m_put X hw_lead hM 0 (by decide) fl_lead_0 mi_0 rfl (tyX12_ok 0 (by decide)) dX12_lead_13 (fun H locs hM => ?_)
  obtain ⟨I1, ev, hf⟩ := m_bndE hf
  replace hM := m_hI hM ev
  clear ev
  refine lv_aload_n hx hb dX12_lead_16 rfl (lv_at hl 0 rfl) ?_
  refine m_get (v := .int (I1 0)) X hw_lead hM 0 (by decide) fl_lead_0 rfl dX12_lead_17 ?_
  refine lv_if_le (tgt := 25) hx hb dX12_lead_20 (by decide) (fun cc1 => ?_) (fun cc1 => ?_)
  · replace hf := m_ifT hf cc1
    refine lv_aload_n hx hb dX12_lead_25 rfl (lv_at hl 0 rfl) ?_
    refine m_get (v := .ref (h 8)) X hw_lead hM 8 (by decide) fl_lead_8 rfl dX12_lead_26 ?_
    refine lv_sipush (v := (301 : Int32)) hx hb dX12_lead_29 (by decide) ?_
    refine lv_aload_n hx hb dX12_lead_32 rfl (lv_at hl 0 rfl) ?_
    refine m_get (v := .int (I1 5)) X hw_lead hM 5 (by decide) fl_lead_5 rfl dX12_lead_33 ?_
    refine lv_imul hx hb dX12_lead_36 ?_
    obtain ⟨v2, ev, hf⟩ := m_bndE hf
    refine m_top ev ?_
    clear ev
    refine lv_aload_n hx hb dX12_lead_37 rfl (lv_at hl 0 rfl) ?_
    refine m_get (v := .int (I1 6)) X hw_lead hM 6 (by decide) fl_lead_6 rfl dX12_lead_38 ?_
    refine lv_iadd hx hb dX12_lead_41 ?_
    obtain ⟨v3, ev, hf⟩ := m_bndE hf
    refine m_top ev ?_
    clear ev
    obtain ⟨cd, hf⟩ := m_chkE hf
    refine m_iald X hM 8 4 602 rfl cd dX12_lead_42 ?_
    clear cd
    obtain ⟨v4, ev, hf⟩ := m_bndE hf
    refine m_top ev ?_
    clear ev
    refine lv_istore_n (lv' := [(1, .int v4), (0, .ref (h 0))]) hx hb dX12_lead_43 rfl hl (by decide) rfl (fun ls hl => ?_)
    refine lv_aload_n hx hb dX12_lead_44 rfl (lv_at hl 1 rfl) ?_
    refine m_get (v := .ref (h 10)) X hw_lead hM 10 (by decide) fl_lead_10 rfl dX12_lead_45 ?_
    refine lv_sipush (v := (301 : Int32)) hx hb dX12_lead_48 (by decide) ?_
    refine lv_aload_n hx hb dX12_lead_51 rfl (lv_at hl 1 rfl) ?_
    refine m_get (v := .int (I1 5)) X hw_lead hM 5 (by decide) fl_lead_5 rfl dX12_lead_52 ?_
    refine lv_imul hx hb dX12_lead_55 ?_
    obtain ⟨v5, ev, hf⟩ := m_bndE hf
    refine m_top ev ?_
    clear ev
    refine lv_iload_n hx hb dX12_lead_56 rfl (lv_at hl 0 rfl) ?_
    refine lv_iadd hx hb dX12_lead_57 ?_
    obtain ⟨v6, ev, hf⟩ := m_bndE hf
    refine m_top ev ?_
    clear ev
    obtain ⟨cd, hf⟩ := m_chkE hf
    refine m_iald X hM 10 6 602 rfl cd dX12_lead_58 ?_
    clear cd
    obtain ⟨v7, ev, hf⟩ := m_bndE hf
    refine m_top ev ?_
    clear ev
    refine lv_istore_n (lv' := [(2, .int v7), (1, .int v4), (0, .ref (h 0))]) hx hb dX12_lead_59 rfl hl (by decide) rfl (fun ls hl => ?_)
    refine lv_iload_n hx hb dX12_lead_60 rfl (lv_at hl 0 rfl) ?_
    refine lv_aload_n hx hb dX12_lead_61 rfl (lv_at hl 2 rfl) ?_
    refine m_get (v := .int (I1 6)) X hw_lead hM 6 (by decide) fl_lead_6 rfl dX12_lead_62 ?_
    refine lv_icmp_ne (tgt := 70) hx hb dX12_lead_65 (by decide) (fun cc1 => ?_) (fun cc1 => ?_)
    · replace hf := m_ifF hf cc1
      refine lv_iconst (v := (1 : Int32)) hx hb dX12_lead_70 (by decide) ?_
      refine lv_istore_n (lv' := [(3, .int (1 : Int32)), (2, .int v7), (1, .int v4), (0, .ref (h 0))]) hx hb dX12_lead_71 rfl hl (by decide) rfl (fun ls hl => ?_)
      exact w_lead_72 X hret _ _ _ _ _ _ _ _ _ hf hM (lv_sub hl [3, 2, 1, 0] rfl)
    · replace hf := m_ifT hf cc1
      refine lv_iconst (v := (0 : Int32)) hx hb dX12_lead_68 (by decide) ?_
      obtain ⟨cd, hf⟩ := m_chkE hf
      cases hf
      exact hret H locs _ ls hM (m_nb cd) dX12_lead_69
  · replace hf := m_ifF hf cc1
    refine lv_iconst (v := (0 : Int32)) hx hb dX12_lead_23 (by decide) ?_
    obtain ⟨cd, hf⟩ := m_chkE hf
    cases hf
    exact hret H locs _ ls hM (m_nb cd) dX12_lead_24
def f_lead_0 (I : Nat → Int32) (A : Nat → Nat → Int32) : Option (Int32 × MS) :=
  m_if ((I 6) = 0) (
  f_lead_13 (1 : Int32) I A
  ) (
  f_lead_13 (0 : Int32) I A
  )

set_option maxRecDepth 100000 in
set_option maxHeartbeats 4000000 in
theorem w_lead_0 {p : Program} {l : Launch} {e : Env} {s : State} {m : MethodId} {args : Array Value} {below : List Frame} {meth : Method} {c : Code} {Q : State → Prop} {D : va_G} {cy ci : ClassId} {h : Nat → Nat} {A0 : Nat → Prop} {o : Int32 × MS} (X : CallFix p m c cX12_lead 4 s args wsX12_lead RX12) (hret : mRi p l e ({ frames := 2, cells := 0, slots := 0, locals := 46 } : Room) s m args below meth c Q cX12_lead D cy ci h A0 .boolean o) {I : Nat → Int32} {A : Nat → Nat → Int32} {H : Heap} {locs : List Loc} {ls : Array Slot} (hf : f_lead_0  I A = some o) (hM : mH D cy ci h A0 s H locs I A) (hl : lv_has ls 4 [(0, .ref (h 0))]) : W p l e ({ frames := 2, cells := 0, slots := 0, locals := 46 } : Room) s m args below meth c H locs 0 0 Q (F0 m 0 ls []) := by
  obtain ⟨hx, hb, hml, hown, hts⟩ := id X
  unfold f_lead_0 at hf
  refine lv_aload_n hx hb dX12_lead_0 rfl (lv_at hl 0 rfl) ?_
  refine lv_aload_n hx hb dX12_lead_1 rfl (lv_at hl 0 rfl) ?_
  refine m_get (v := .int (I 6)) X hw_lead hM 6 (by decide) fl_lead_6 rfl dX12_lead_2 ?_
  refine lv_if_ne (tgt := 12) hx hb dX12_lead_5 (by decide) (fun cc1 => ?_) (fun cc1 => ?_)
  · replace hf := m_ifF hf cc1
    refine lv_iconst (v := (0 : Int32)) hx hb dX12_lead_12 (by decide) ?_
    exact w_lead_13 X hret hf hM (lv_sub hl [0] rfl)
  · replace hf := m_ifT hf cc1
    refine lv_iconst (v := (1 : Int32)) hx hb dX12_lead_8 (by decide) ?_
    refine lv_goto (tgt := 13) hx hb dX12_lead_9 (by decide) ?_
    exact w_lead_13 X hret hf hM (lv_sub hl [0] rfl)
def f_lead (I : Nat → Int32) (A : Nat → Nat → Int32) : Option (Int32 × MS) := f_lead_0  I A
theorem c_lead {l : Launch} {D : va_G} {cy ci : ClassId} {h : Nat → Nat} {I : Nat → Int32} {A : Nat → Nat → Int32} {o : Int32 × MS} (hf : f_lead  I A = some o) : mMi l yX12_lead wsX12_lead ({ frames := 2, cells := 0, slots := 0, locals := 46 } : Room) [.ref (h 0)] D cy ci h I A o :=
  m_entryI (cc := cX12_lead) (maxL := 4) (by decide) rfl rfl (Nat.le_of_ble_eq_true rfl) (fun p e s m args below meth c A0 Q H locs ls X hret hM hl => w_lead_0 X hret hf hM (lv_sub hl [0] rfl))
theorem hw_end : ∀ w ∈ wsX120, w ∈ wsX12_end := by decide +kernel
theorem fl_end_0 : Cond.fieldLink RX12 99 "MoveTextsModel" "thrown" "I" ∈ wsX12_end := by decide +kernel
theorem fl_end_5 : Cond.fieldLink RX12 347 "MoveTextsModel" "game" "I" ∈ wsX12_end := by decide +kernel
theorem fl_end_23 : Cond.fieldLink RX12 67 "MoveTextsModel" "results" "[I" ∈ wsX12_end := by decide +kernel
theorem hd_end : yX12_end.cls = RX12 ∧ yX12_end.cls ≠ "java/lang/invoke/MethodHandle" ∧ yX12_end.cls ≠ "java/lang/invoke/VarHandle" ∧ (parseMethodDescriptor yX12_end.desc).map (fun d => d.parameters.length) = some 1 := by decide +kernel
def f_end_46 (t0 : Int32) (t1 : Int32) (I : Nat → Int32) (A : Nat → Nat → Int32) : Option (Int32 × MS) :=
  m_chk (¬ (t1 < 0 ∨ 2 ≤ (t1).toNatClampNeg)) (
  m_bnd (va_up A 23 (upd (A 23) (t1).toNatClampNeg t0)) (fun A1 =>
  some (0, (I, A1))))

set_option maxRecDepth 100000 in
set_option maxHeartbeats 4000000 in
theorem w_end_46 {p : Program} {l : Launch} {e : Env} {s : State} {m : MethodId} {args : Array Value} {below : List Frame} {meth : Method} {c : Code} {Q : State → Prop} {D : va_G} {cy ci : ClassId} {h : Nat → Nat} {A0 : Nat → Prop} {o : Int32 × MS} (X : CallFix p m c cX12_end 2 s args wsX12_end RX12) (hret : mRv p l e ({ frames := 0, cells := 0, slots := 0, locals := 0 } : Room) s m args below meth c Q cX12_end D cy ci h A0 o) {t0 : Int32} {t1 : Int32} {I : Nat → Int32} {A : Nat → Nat → Int32} {H : Heap} {locs : List Loc} {ls : Array Slot} (hf : f_end_46 t0 t1 I A = some o) (hM : mH D cy ci h A0 s H locs I A) (hl : lv_has ls 2 []) : W p l e ({ frames := 0, cells := 0, slots := 0, locals := 0 } : Room) s m args below meth c H locs 0 0 Q (F0 m 46 ls [.int t0, .int t1, .ref (h 23)]) := by
  obtain ⟨hx, hb, hml, hown, hts⟩ := id X
  unfold f_end_46 at hf
  obtain ⟨cd, hf⟩ := m_chkE hf
  refine m_iast X hM 23 19 2 rfl ma_23 cd dX12_end_46 (fun H locs hM => ?_)
  clear cd
  obtain ⟨A1, ev, hf⟩ := m_bndE hf
  replace hM := m_hA hM ev
  clear ev
  cases hf
  exact hret H locs _ ls hM dX12_end_47
def f_end_15 (x1 : Int32) (t0 : Int32) (I : Nat → Int32) (A : Nat → Nat → Int32) : Option (Int32 × MS) :=
  m_bnd (upd I 0 t0) (fun I1 =>
  m_if ((I1 0) ≤ 0) (
  f_end_46 x1 (I1 5) I1 A
  ) (
  m_chk (¬ ((I1 5) < 0 ∨ 2 ≤ ((I1 5)).toNatClampNeg)) (
  m_bnd (A 23 ((I1 5)).toNatClampNeg) (fun v2 =>
  f_end_46 v2 (I1 5) I1 A))
  ))

set_option maxRecDepth 100000 in
set_option maxHeartbeats 4000000 in
theorem w_end_15 {p : Program} {l : Launch} {e : Env} {s : State} {m : MethodId} {args : Array Value} {below : List Frame} {meth : Method} {c : Code} {Q : State → Prop} {D : va_G} {cy ci : ClassId} {h : Nat → Nat} {A0 : Nat → Prop} {o : Int32 × MS} (X : CallFix p m c cX12_end 2 s args wsX12_end RX12) (hret : mRv p l e ({ frames := 0, cells := 0, slots := 0, locals := 0 } : Room) s m args below meth c Q cX12_end D cy ci h A0 o) {x1 : Int32} {t0 : Int32} {I : Nat → Int32} {A : Nat → Nat → Int32} {H : Heap} {locs : List Loc} {ls : Array Slot} (hf : f_end_15 x1 t0 I A = some o) (hM : mH D cy ci h A0 s H locs I A) (hl : lv_has ls 2 [(0, .ref (h 0)), (1, .int x1)]) : W p l e ({ frames := 0, cells := 0, slots := 0, locals := 0 } : Room) s m args below meth c H locs 0 0 Q (F0 m 15 ls [.int t0, .ref (h 0)]) := by
  obtain ⟨hx, hb, hml, hown, hts⟩ := id X
  unfold f_end_15 at hf
  refine m_put X hw_end hM 0 (by decide) fl_end_0 mi_0 rfl (tyX12_ok 0 (by decide)) dX12_end_15 (fun H locs hM => ?_)
  obtain ⟨I1, ev, hf⟩ := m_bndE hf
  replace hM := m_hI hM ev
  clear ev
  refine lv_aload_n hx hb dX12_end_18 rfl (lv_at hl 0 rfl) ?_
  refine m_get (v := .ref (h 23)) X hw_end hM 23 (by decide) fl_end_23 rfl dX12_end_19 ?_
  refine lv_aload_n hx hb dX12_end_22 rfl (lv_at hl 0 rfl) ?_
  refine m_get (v := .int (I1 5)) X hw_end hM 5 (by decide) fl_end_5 rfl dX12_end_23 ?_
  refine lv_aload_n hx hb dX12_end_26 rfl (lv_at hl 0 rfl) ?_
  refine m_get (v := .int (I1 0)) X hw_end hM 0 (by decide) fl_end_0 rfl dX12_end_27 ?_
  refine lv_if_le (tgt := 45) hx hb dX12_end_30 (by decide) (fun cc1 => ?_) (fun cc1 => ?_)
  · replace hf := m_ifT hf cc1
    refine lv_iload_n hx hb dX12_end_45 rfl (lv_at hl 1 rfl) ?_
    exact w_end_46 X hret hf hM (lv_sub hl [] rfl)
  · replace hf := m_ifF hf cc1
    refine lv_aload_n hx hb dX12_end_33 rfl (lv_at hl 0 rfl) ?_
    refine m_get (v := .ref (h 23)) X hw_end hM 23 (by decide) fl_end_23 rfl dX12_end_34 ?_
    refine lv_aload_n hx hb dX12_end_37 rfl (lv_at hl 0 rfl) ?_
    refine m_get (v := .int (I1 5)) X hw_end hM 5 (by decide) fl_end_5 rfl dX12_end_38 ?_
    obtain ⟨cd, hf⟩ := m_chkE hf
    refine m_iald X hM 23 19 2 rfl cd dX12_end_41 ?_
    clear cd
    obtain ⟨v2, ev, hf⟩ := m_bndE hf
    refine m_top ev ?_
    clear ev
    refine lv_goto (tgt := 46) hx hb dX12_end_42 (by decide) ?_
    exact w_end_46 X hret hf hM (lv_sub hl [] rfl)
def f_end_10 (x1 : Int32) (I : Nat → Int32) (A : Nat → Nat → Int32) : Option (Int32 × MS) :=
  f_end_15 x1 (1 : Int32) I A

set_option maxRecDepth 100000 in
set_option maxHeartbeats 4000000 in
theorem w_end_10 {p : Program} {l : Launch} {e : Env} {s : State} {m : MethodId} {args : Array Value} {below : List Frame} {meth : Method} {c : Code} {Q : State → Prop} {D : va_G} {cy ci : ClassId} {h : Nat → Nat} {A0 : Nat → Prop} {o : Int32 × MS} (X : CallFix p m c cX12_end 2 s args wsX12_end RX12) (hret : mRv p l e ({ frames := 0, cells := 0, slots := 0, locals := 0 } : Room) s m args below meth c Q cX12_end D cy ci h A0 o) {x1 : Int32} {I : Nat → Int32} {A : Nat → Nat → Int32} {H : Heap} {locs : List Loc} {ls : Array Slot} (hf : f_end_10 x1 I A = some o) (hM : mH D cy ci h A0 s H locs I A) (hl : lv_has ls 2 [(0, .ref (h 0)), (1, .int x1)]) : W p l e ({ frames := 0, cells := 0, slots := 0, locals := 0 } : Room) s m args below meth c H locs 0 0 Q (F0 m 10 ls [.ref (h 0)]) := by
  obtain ⟨hx, hb, hml, hown, hts⟩ := id X
  unfold f_end_10 at hf
  refine lv_iconst (v := (1 : Int32)) hx hb dX12_end_10 (by decide) ?_
  refine lv_goto (tgt := 15) hx hb dX12_end_11 (by decide) ?_
  exact w_end_15 X hret hf hM (lv_sub hl [0, 1] rfl)
def f_end_0 (x1 : Int32) (I : Nat → Int32) (A : Nat → Nat → Int32) : Option (Int32 × MS) :=
  m_if (x1 < 0) (
  f_end_10 x1 I A
  ) (
  m_if (x1 ≤ (3 : Int32)) (
  f_end_15 x1 (0 : Int32) I A
  ) (
  f_end_10 x1 I A
  )
  )

set_option maxRecDepth 100000 in
set_option maxHeartbeats 4000000 in
theorem w_end_0 {p : Program} {l : Launch} {e : Env} {s : State} {m : MethodId} {args : Array Value} {below : List Frame} {meth : Method} {c : Code} {Q : State → Prop} {D : va_G} {cy ci : ClassId} {h : Nat → Nat} {A0 : Nat → Prop} {o : Int32 × MS} (X : CallFix p m c cX12_end 2 s args wsX12_end RX12) (hret : mRv p l e ({ frames := 0, cells := 0, slots := 0, locals := 0 } : Room) s m args below meth c Q cX12_end D cy ci h A0 o) {x1 : Int32} {I : Nat → Int32} {A : Nat → Nat → Int32} {H : Heap} {locs : List Loc} {ls : Array Slot} (hf : f_end_0 x1 I A = some o) (hM : mH D cy ci h A0 s H locs I A) (hl : lv_has ls 2 [(0, .ref (h 0)), (1, .int x1)]) : W p l e ({ frames := 0, cells := 0, slots := 0, locals := 0 } : Room) s m args below meth c H locs 0 0 Q (F0 m 0 ls []) := by
  obtain ⟨hx, hb, hml, hown, hts⟩ := id X
  unfold f_end_0 at hf
  refine lv_aload_n hx hb dX12_end_0 rfl (lv_at hl 0 rfl) ?_
  refine lv_iload_n hx hb dX12_end_1 rfl (lv_at hl 1 rfl) ?_
  refine lv_if_lt (tgt := 10) hx hb dX12_end_2 (by decide) (fun cc1 => ?_) (fun cc1 => ?_)
  · replace hf := m_ifT hf cc1
    exact w_end_10 X hret hf hM (lv_sub hl [0, 1] rfl)
  · replace hf := m_ifF hf cc1
    refine lv_iload_n hx hb dX12_end_5 rfl (lv_at hl 1 rfl) ?_
    refine lv_iconst (v := (3 : Int32)) hx hb dX12_end_6 (by decide) ?_
    refine lv_icmp_le (tgt := 14) hx hb dX12_end_7 (by decide) (fun cc1 => ?_) (fun cc1 => ?_)
    · replace hf := m_ifT hf cc1
      refine lv_iconst (v := (0 : Int32)) hx hb dX12_end_14 (by decide) ?_
      exact w_end_15 X hret hf hM (lv_sub hl [0, 1] rfl)
    · replace hf := m_ifF hf cc1
      exact w_end_10 X hret hf hM (lv_sub hl [0, 1] rfl)
def f_end (x1 : Int32) (I : Nat → Int32) (A : Nat → Nat → Int32) : Option (Int32 × MS) := f_end_0 x1 I A
theorem c_end {l : Launch} {D : va_G} {cy ci : ClassId} {h : Nat → Nat} {x1 : Int32} {I : Nat → Int32} {A : Nat → Nat → Int32} {o : Int32 × MS} (hf : f_end x1 I A = some o) : mMv l yX12_end wsX12_end ({ frames := 0, cells := 0, slots := 0, locals := 0 } : Room) [.ref (h 0), .int x1] D cy ci h I A o :=
  m_entryV (cc := cX12_end) (maxL := 2) (by decide) rfl rfl (Nat.le_of_ble_eq_true rfl) (fun p e s m args below meth c A0 Q H locs ls X hret hM hl => w_end_0 X hret hf hM (lv_sub hl [0, 1] rfl))
theorem hw_result : ∀ w ∈ wsX120, w ∈ wsX12_result := by decide +kernel
theorem fl_result_0 : Cond.fieldLink RX12 99 "MoveTextsModel" "thrown" "I" ∈ wsX12_result := by decide +kernel
theorem fl_result_5 : Cond.fieldLink RX12 347 "MoveTextsModel" "game" "I" ∈ wsX12_result := by decide +kernel
theorem fl_result_23 : Cond.fieldLink RX12 67 "MoveTextsModel" "results" "[I" ∈ wsX12_result := by decide +kernel
theorem hd_result : yX12_result.cls = RX12 ∧ yX12_result.cls ≠ "java/lang/invoke/MethodHandle" ∧ yX12_result.cls ≠ "java/lang/invoke/VarHandle" ∧ (parseMethodDescriptor yX12_result.desc).map (fun d => d.parameters.length) = some 0 := by decide +kernel
def f_result_0 (I : Nat → Int32) (A : Nat → Nat → Int32) : Option (Int32 × MS) :=
  m_bnd (upd I 0 (0 : Int32)) (fun I1 =>
  m_chk (¬ ((I1 5) < 0 ∨ 2 ≤ ((I1 5)).toNatClampNeg)) (
  m_bnd (A 23 ((I1 5)).toNatClampNeg) (fun v2 =>
  some (v2, (I1, A)))))

set_option maxRecDepth 100000 in
set_option maxHeartbeats 4000000 in
theorem w_result_0 {p : Program} {l : Launch} {e : Env} {s : State} {m : MethodId} {args : Array Value} {below : List Frame} {meth : Method} {c : Code} {Q : State → Prop} {D : va_G} {cy ci : ClassId} {h : Nat → Nat} {A0 : Nat → Prop} {o : Int32 × MS} (X : CallFix p m c cX12_result 1 s args wsX12_result RX12) (hret : mRi p l e ({ frames := 0, cells := 0, slots := 0, locals := 0 } : Room) s m args below meth c Q cX12_result D cy ci h A0 .int o) {I : Nat → Int32} {A : Nat → Nat → Int32} {H : Heap} {locs : List Loc} {ls : Array Slot} (hf : f_result_0  I A = some o) (hM : mH D cy ci h A0 s H locs I A) (hl : lv_has ls 1 [(0, .ref (h 0))]) : W p l e ({ frames := 0, cells := 0, slots := 0, locals := 0 } : Room) s m args below meth c H locs 0 0 Q (F0 m 0 ls []) := by
  obtain ⟨hx, hb, hml, hown, hts⟩ := id X
  unfold f_result_0 at hf
  refine lv_aload_n hx hb dX12_result_0 rfl (lv_at hl 0 rfl) ?_
  refine lv_iconst (v := (0 : Int32)) hx hb dX12_result_1 (by decide) ?_
  refine m_put X hw_result hM 0 (by decide) fl_result_0 mi_0 rfl (tyX12_ok 0 (by decide)) dX12_result_2 (fun H locs hM => ?_)
  obtain ⟨I1, ev, hf⟩ := m_bndE hf
  replace hM := m_hI hM ev
  clear ev
  refine lv_aload_n hx hb dX12_result_5 rfl (lv_at hl 0 rfl) ?_
  refine m_get (v := .ref (h 23)) X hw_result hM 23 (by decide) fl_result_23 rfl dX12_result_6 ?_
  refine lv_aload_n hx hb dX12_result_9 rfl (lv_at hl 0 rfl) ?_
  refine m_get (v := .int (I1 5)) X hw_result hM 5 (by decide) fl_result_5 rfl dX12_result_10 ?_
  obtain ⟨cd, hf⟩ := m_chkE hf
  refine m_iald X hM 23 19 2 rfl cd dX12_result_13 ?_
  clear cd
  obtain ⟨v2, ev, hf⟩ := m_bndE hf
  refine m_top ev ?_
  clear ev
  cases hf
  exact hret H locs _ ls hM rfl dX12_result_14
def f_result (I : Nat → Int32) (A : Nat → Nat → Int32) : Option (Int32 × MS) := f_result_0  I A
theorem c_result {l : Launch} {D : va_G} {cy ci : ClassId} {h : Nat → Nat} {I : Nat → Int32} {A : Nat → Nat → Int32} {o : Int32 × MS} (hf : f_result  I A = some o) : mMi l yX12_result wsX12_result ({ frames := 0, cells := 0, slots := 0, locals := 0 } : Room) [.ref (h 0)] D cy ci h I A o :=
  m_entryI (cc := cX12_result) (maxL := 1) (by decide) rfl rfl (Nat.le_of_ble_eq_true rfl) (fun p e s m args below meth c A0 Q H locs ls X hret hM hl => w_result_0 X hret hf hM (lv_sub hl [0] rfl))
theorem hw_tags : ∀ w ∈ wsX120, w ∈ wsX12_tags := by decide +kernel
theorem fl_tags_0 : Cond.fieldLink RX12 99 "MoveTextsModel" "thrown" "I" ∈ wsX12_tags := by decide +kernel
theorem fl_tags_5 : Cond.fieldLink RX12 347 "MoveTextsModel" "game" "I" ∈ wsX12_tags := by decide +kernel
theorem fl_tags_18 : Cond.fieldLink RX12 52 "MoveTextsModel" "tagCount" "[I" ∈ wsX12_tags := by decide +kernel
theorem hd_tags : yX12_tags.cls = RX12 ∧ yX12_tags.cls ≠ "java/lang/invoke/MethodHandle" ∧ yX12_tags.cls ≠ "java/lang/invoke/VarHandle" ∧ (parseMethodDescriptor yX12_tags.desc).map (fun d => d.parameters.length) = some 0 := by decide +kernel
def f_tags_0 (I : Nat → Int32) (A : Nat → Nat → Int32) : Option (Int32 × MS) :=
  m_bnd (upd I 0 (0 : Int32)) (fun I1 =>
  m_chk (¬ ((I1 5) < 0 ∨ 2 ≤ ((I1 5)).toNatClampNeg)) (
  m_bnd (A 18 ((I1 5)).toNatClampNeg) (fun v2 =>
  some (v2, (I1, A)))))

set_option maxRecDepth 100000 in
set_option maxHeartbeats 4000000 in
theorem w_tags_0 {p : Program} {l : Launch} {e : Env} {s : State} {m : MethodId} {args : Array Value} {below : List Frame} {meth : Method} {c : Code} {Q : State → Prop} {D : va_G} {cy ci : ClassId} {h : Nat → Nat} {A0 : Nat → Prop} {o : Int32 × MS} (X : CallFix p m c cX12_tags 1 s args wsX12_tags RX12) (hret : mRi p l e ({ frames := 0, cells := 0, slots := 0, locals := 0 } : Room) s m args below meth c Q cX12_tags D cy ci h A0 .int o) {I : Nat → Int32} {A : Nat → Nat → Int32} {H : Heap} {locs : List Loc} {ls : Array Slot} (hf : f_tags_0  I A = some o) (hM : mH D cy ci h A0 s H locs I A) (hl : lv_has ls 1 [(0, .ref (h 0))]) : W p l e ({ frames := 0, cells := 0, slots := 0, locals := 0 } : Room) s m args below meth c H locs 0 0 Q (F0 m 0 ls []) := by
  obtain ⟨hx, hb, hml, hown, hts⟩ := id X
  unfold f_tags_0 at hf
  refine lv_aload_n hx hb dX12_tags_0 rfl (lv_at hl 0 rfl) ?_
  refine lv_iconst (v := (0 : Int32)) hx hb dX12_tags_1 (by decide) ?_
  refine m_put X hw_tags hM 0 (by decide) fl_tags_0 mi_0 rfl (tyX12_ok 0 (by decide)) dX12_tags_2 (fun H locs hM => ?_)
  obtain ⟨I1, ev, hf⟩ := m_bndE hf
  replace hM := m_hI hM ev
  clear ev
  refine lv_aload_n hx hb dX12_tags_5 rfl (lv_at hl 0 rfl) ?_
  refine m_get (v := .ref (h 18)) X hw_tags hM 18 (by decide) fl_tags_18 rfl dX12_tags_6 ?_
  refine lv_aload_n hx hb dX12_tags_9 rfl (lv_at hl 0 rfl) ?_
  refine m_get (v := .int (I1 5)) X hw_tags hM 5 (by decide) fl_tags_5 rfl dX12_tags_10 ?_
  obtain ⟨cd, hf⟩ := m_chkE hf
  refine m_iald X hM 18 14 2 rfl cd dX12_tags_13 ?_
  clear cd
  obtain ⟨v2, ev, hf⟩ := m_bndE hf
  refine m_top ev ?_
  clear ev
  cases hf
  exact hret H locs _ ls hM rfl dX12_tags_14
def f_tags (I : Nat → Int32) (A : Nat → Nat → Int32) : Option (Int32 × MS) := f_tags_0  I A
theorem c_tags {l : Launch} {D : va_G} {cy ci : ClassId} {h : Nat → Nat} {I : Nat → Int32} {A : Nat → Nat → Int32} {o : Int32 × MS} (hf : f_tags  I A = some o) : mMi l yX12_tags wsX12_tags ({ frames := 0, cells := 0, slots := 0, locals := 0 } : Room) [.ref (h 0)] D cy ci h I A o :=
  m_entryI (cc := cX12_tags) (maxL := 1) (by decide) rfl rfl (Nat.le_of_ble_eq_true rfl) (fun p e s m args below meth c A0 Q H locs ls X hret hM hl => w_tags_0 X hret hf hM (lv_sub hl [0] rfl))
theorem hw_tag : ∀ w ∈ wsX120, w ∈ wsX12_tag := by decide +kernel
theorem fl_tag_0 : Cond.fieldLink RX12 99 "MoveTextsModel" "thrown" "I" ∈ wsX12_tag := by decide +kernel
theorem fl_tag_5 : Cond.fieldLink RX12 347 "MoveTextsModel" "game" "I" ∈ wsX12_tag := by decide +kernel
theorem fl_tag_18 : Cond.fieldLink RX12 52 "MoveTextsModel" "tagCount" "[I" ∈ wsX12_tag := by decide +kernel
theorem fl_tag_19 : Cond.fieldLink RX12 55 "MoveTextsModel" "nameSize" "[I" ∈ wsX12_tag := by decide +kernel
theorem fl_tag_20 : Cond.fieldLink RX12 58 "MoveTextsModel" "names" "[C" ∈ wsX12_tag := by decide +kernel
theorem fl_tag_21 : Cond.fieldLink RX12 61 "MoveTextsModel" "valueSize" "[I" ∈ wsX12_tag := by decide +kernel
theorem fl_tag_22 : Cond.fieldLink RX12 64 "MoveTextsModel" "values" "[C" ∈ wsX12_tag := by decide +kernel
theorem hd_tag : yX12_tag.cls = RX12 ∧ yX12_tag.cls ≠ "java/lang/invoke/MethodHandle" ∧ yX12_tag.cls ≠ "java/lang/invoke/VarHandle" ∧ (parseMethodDescriptor yX12_tag.desc).map (fun d => d.parameters.length) = some 3 := by decide +kernel
def f_tag_132 (t0 : Int32) (I : Nat → Int32) (A : Nat → Nat → Int32) : Option (Int32 × MS) :=
  some (t0, (I, A))

set_option maxRecDepth 100000 in
set_option maxHeartbeats 4000000 in
theorem w_tag_132 {p : Program} {l : Launch} {e : Env} {s : State} {m : MethodId} {args : Array Value} {below : List Frame} {meth : Method} {c : Code} {Q : State → Prop} {D : va_G} {cy ci : ClassId} {h : Nat → Nat} {A0 : Nat → Prop} {o : Int32 × MS} (X : CallFix p m c cX12_tag 5 s args wsX12_tag RX12) (hret : mRi p l e ({ frames := 0, cells := 0, slots := 0, locals := 0 } : Room) s m args below meth c Q cX12_tag D cy ci h A0 .int o) {t0 : Int32} {I : Nat → Int32} {A : Nat → Nat → Int32} {H : Heap} {locs : List Loc} {ls : Array Slot} (hf : f_tag_132 t0 I A = some o) (hM : mH D cy ci h A0 s H locs I A) (hl : lv_has ls 5 []) : W p l e ({ frames := 0, cells := 0, slots := 0, locals := 0 } : Room) s m args below meth c H locs 0 0 Q (F0 m 132 ls [.int t0]) := by
  obtain ⟨hx, hb, hml, hown, hts⟩ := id X
  unfold f_tag_132 at hf
  cases hf
  exact hret H locs _ ls hM rfl dX12_tag_132
def f_tag_74 (x1 : Int32) (x2 : Int32) (x3 : Int32) (t0 : Int32) (I : Nat → Int32) (A : Nat → Nat → Int32) : Option (Int32 × MS) :=
  m_if (x3 < t0) (
  m_if (x2 = 0) (
  m_bnd ((96 : Int32) * (I 5)) (fun v1 =>
  m_bnd ((12 : Int32) * x1) (fun v2 =>
  m_bnd (v1 + v2) (fun v3 =>
  m_bnd (v3 + x3) (fun v4 =>
  m_chk (¬ (v4 < 0 ∨ 192 ≤ (v4).toNatClampNeg)) (
  m_bnd (A 20 (v4).toNatClampNeg) (fun v5 =>
  f_tag_132 v5 I A))))))
  ) (
  m_bnd ((768 : Int32) * (I 5)) (fun v6 =>
  m_bnd ((96 : Int32) * x1) (fun v7 =>
  m_bnd (v6 + v7) (fun v8 =>
  m_bnd (v8 + x3) (fun v9 =>
  m_chk (¬ (v9 < 0 ∨ 1536 ≤ (v9).toNatClampNeg)) (
  m_bnd (A 22 (v9).toNatClampNeg) (fun v10 =>
  f_tag_132 v10 I A))))))
  )
  ) (
  f_tag_132 (0 : Int32) I A
  )

set_option maxRecDepth 100000 in
set_option maxHeartbeats 4000000 in
theorem w_tag_74 {p : Program} {l : Launch} {e : Env} {s : State} {m : MethodId} {args : Array Value} {below : List Frame} {meth : Method} {c : Code} {Q : State → Prop} {D : va_G} {cy ci : ClassId} {h : Nat → Nat} {A0 : Nat → Prop} {o : Int32 × MS} (X : CallFix p m c cX12_tag 5 s args wsX12_tag RX12) (hret : mRi p l e ({ frames := 0, cells := 0, slots := 0, locals := 0 } : Room) s m args below meth c Q cX12_tag D cy ci h A0 .int o) {x1 : Int32} {x2 : Int32} {x3 : Int32} {t0 : Int32} {I : Nat → Int32} {A : Nat → Nat → Int32} {H : Heap} {locs : List Loc} {ls : Array Slot} (hf : f_tag_74 x1 x2 x3 t0 I A = some o) (hM : mH D cy ci h A0 s H locs I A) (hl : lv_has ls 5 [(0, .ref (h 0)), (1, .int x1), (2, .int x2), (3, .int x3)]) : W p l e ({ frames := 0, cells := 0, slots := 0, locals := 0 } : Room) s m args below meth c H locs 0 0 Q (F0 m 74 ls [.int t0]) := by
  obtain ⟨hx, hb, hml, hown, hts⟩ := id X
  unfold f_tag_74 at hf
  refine lv_istore (lv' := [(4, .int t0), (0, .ref (h 0)), (1, .int x1), (2, .int x2), (3, .int x3)]) hx hb dX12_tag_74 hl (by decide) rfl (fun ls hl => ?_)
  refine lv_iload_n hx hb dX12_tag_76 rfl (lv_at hl 4 rfl) ?_
  refine lv_iload hx hb dX12_tag_77 (lv_at hl 0 rfl) ?_
  refine lv_icmp_lt (tgt := 86) hx hb dX12_tag_79 (by decide) (fun cc1 => ?_) (fun cc1 => ?_)
  · replace hf := m_ifT hf cc1
    refine lv_iload_n hx hb dX12_tag_86 rfl (lv_at hl 3 rfl) ?_
    refine lv_if_eq (tgt := 113) hx hb dX12_tag_87 (by decide) (fun cc1 => ?_) (fun cc1 => ?_)
    · replace hf := m_ifT hf cc1
      refine lv_aload_n hx hb dX12_tag_113 rfl (lv_at hl 1 rfl) ?_
      refine m_get (v := .ref (h 20)) X hw_tag hM 20 (by decide) fl_tag_20 rfl dX12_tag_114 ?_
      refine lv_bipush (v := (96 : Int32)) hx hb dX12_tag_117 (by decide) ?_
      refine lv_aload_n hx hb dX12_tag_119 rfl (lv_at hl 1 rfl) ?_
      refine m_get (v := .int (I 5)) X hw_tag hM 5 (by decide) fl_tag_5 rfl dX12_tag_120 ?_
      refine lv_imul hx hb dX12_tag_123 ?_
      obtain ⟨v1, ev, hf⟩ := m_bndE hf
      refine m_top ev ?_
      clear ev
      refine lv_bipush (v := (12 : Int32)) hx hb dX12_tag_124 (by decide) ?_
      refine lv_iload_n hx hb dX12_tag_126 rfl (lv_at hl 2 rfl) ?_
      refine lv_imul hx hb dX12_tag_127 ?_
      obtain ⟨v2, ev, hf⟩ := m_bndE hf
      refine m_top ev ?_
      clear ev
      refine lv_iadd hx hb dX12_tag_128 ?_
      obtain ⟨v3, ev, hf⟩ := m_bndE hf
      refine m_top ev ?_
      clear ev
      refine lv_iload_n hx hb dX12_tag_129 rfl (lv_at hl 4 rfl) ?_
      refine lv_iadd hx hb dX12_tag_130 ?_
      obtain ⟨v4, ev, hf⟩ := m_bndE hf
      refine m_top ev ?_
      clear ev
      obtain ⟨cd, hf⟩ := m_chkE hf
      refine m_cald X hM 20 16 192 rfl cd dX12_tag_131 ?_
      clear cd
      obtain ⟨v5, ev, hf⟩ := m_bndE hf
      refine m_top ev ?_
      clear ev
      exact w_tag_132 X hret hf hM (lv_sub hl [] rfl)
    · replace hf := m_ifF hf cc1
      refine lv_aload_n hx hb dX12_tag_90 rfl (lv_at hl 1 rfl) ?_
      refine m_get (v := .ref (h 22)) X hw_tag hM 22 (by decide) fl_tag_22 rfl dX12_tag_91 ?_
      refine lv_sipush (v := (768 : Int32)) hx hb dX12_tag_94 (by decide) ?_
      refine lv_aload_n hx hb dX12_tag_97 rfl (lv_at hl 1 rfl) ?_
      refine m_get (v := .int (I 5)) X hw_tag hM 5 (by decide) fl_tag_5 rfl dX12_tag_98 ?_
      refine lv_imul hx hb dX12_tag_101 ?_
      obtain ⟨v6, ev, hf⟩ := m_bndE hf
      refine m_top ev ?_
      clear ev
      refine lv_bipush (v := (96 : Int32)) hx hb dX12_tag_102 (by decide) ?_
      refine lv_iload_n hx hb dX12_tag_104 rfl (lv_at hl 2 rfl) ?_
      refine lv_imul hx hb dX12_tag_105 ?_
      obtain ⟨v7, ev, hf⟩ := m_bndE hf
      refine m_top ev ?_
      clear ev
      refine lv_iadd hx hb dX12_tag_106 ?_
      obtain ⟨v8, ev, hf⟩ := m_bndE hf
      refine m_top ev ?_
      clear ev
      refine lv_iload_n hx hb dX12_tag_107 rfl (lv_at hl 4 rfl) ?_
      refine lv_iadd hx hb dX12_tag_108 ?_
      obtain ⟨v9, ev, hf⟩ := m_bndE hf
      refine m_top ev ?_
      clear ev
      obtain ⟨cd, hf⟩ := m_chkE hf
      refine m_cald X hM 22 18 1536 rfl cd dX12_tag_109 ?_
      clear cd
      obtain ⟨v10, ev, hf⟩ := m_bndE hf
      refine m_top ev ?_
      clear ev
      refine lv_goto (tgt := 132) hx hb dX12_tag_110 (by decide) ?_
      exact w_tag_132 X hret hf hM (lv_sub hl [] rfl)
  · replace hf := m_ifF hf cc1
    refine lv_iconst (v := (0 : Int32)) hx hb dX12_tag_82 (by decide) ?_
    refine lv_goto (tgt := 132) hx hb dX12_tag_83 (by decide) ?_
    exact w_tag_132 X hret hf hM (lv_sub hl [] rfl)
def f_tag_27 (x1 : Int32) (x2 : Int32) (x3 : Int32) (t0 : Int32) (I : Nat → Int32) (A : Nat → Nat → Int32) : Option (Int32 × MS) :=
  m_bnd (upd I 0 t0) (fun I1 =>
  m_if ((I1 0) ≤ 0) (
  m_if (x2 = 0) (
  m_bnd ((8 : Int32) * (I1 5)) (fun v2 =>
  m_bnd (v2 + x1) (fun v3 =>
  m_chk (¬ (v3 < 0 ∨ 16 ≤ (v3).toNatClampNeg)) (
  m_bnd (A 19 (v3).toNatClampNeg) (fun v4 =>
  f_tag_74 x1 x2 x3 v4 I1 A))))
  ) (
  m_bnd ((8 : Int32) * (I1 5)) (fun v5 =>
  m_bnd (v5 + x1) (fun v6 =>
  m_chk (¬ (v6 < 0 ∨ 16 ≤ (v6).toNatClampNeg)) (
  m_bnd (A 21 (v6).toNatClampNeg) (fun v7 =>
  f_tag_74 x1 x2 x3 v7 I1 A))))
  )
  ) (
  some ((0 : Int32), (I1, A))
  ))

set_option maxRecDepth 100000 in
set_option maxHeartbeats 4000000 in
theorem w_tag_27 {p : Program} {l : Launch} {e : Env} {s : State} {m : MethodId} {args : Array Value} {below : List Frame} {meth : Method} {c : Code} {Q : State → Prop} {D : va_G} {cy ci : ClassId} {h : Nat → Nat} {A0 : Nat → Prop} {o : Int32 × MS} (X : CallFix p m c cX12_tag 5 s args wsX12_tag RX12) (hret : mRi p l e ({ frames := 0, cells := 0, slots := 0, locals := 0 } : Room) s m args below meth c Q cX12_tag D cy ci h A0 .int o) {x1 : Int32} {x2 : Int32} {x3 : Int32} {t0 : Int32} {I : Nat → Int32} {A : Nat → Nat → Int32} {H : Heap} {locs : List Loc} {ls : Array Slot} (hf : f_tag_27 x1 x2 x3 t0 I A = some o) (hM : mH D cy ci h A0 s H locs I A) (hl : lv_has ls 5 [(0, .ref (h 0)), (1, .int x1), (2, .int x2), (3, .int x3)]) : W p l e ({ frames := 0, cells := 0, slots := 0, locals := 0 } : Room) s m args below meth c H locs 0 0 Q (F0 m 27 ls [.int t0, .ref (h 0)]) := by
  obtain ⟨hx, hb, hml, hown, hts⟩ := id X
  unfold f_tag_27 at hf
  refine m_put X hw_tag hM 0 (by decide) fl_tag_0 mi_0 rfl (tyX12_ok 0 (by decide)) dX12_tag_27 (fun H locs hM => ?_)
  obtain ⟨I1, ev, hf⟩ := m_bndE hf
  replace hM := m_hI hM ev
  clear ev
  refine lv_aload_n hx hb dX12_tag_30 rfl (lv_at hl 0 rfl) ?_
  refine m_get (v := .int (I1 0)) X hw_tag hM 0 (by decide) fl_tag_0 rfl dX12_tag_31 ?_
  refine lv_if_le (tgt := 39) hx hb dX12_tag_34 (by decide) (fun cc1 => ?_) (fun cc1 => ?_)
  · replace hf := m_ifT hf cc1
    refine lv_iload_n hx hb dX12_tag_39 rfl (lv_at hl 2 rfl) ?_
    refine lv_if_eq (tgt := 60) hx hb dX12_tag_40 (by decide) (fun cc1 => ?_) (fun cc1 => ?_)
    · replace hf := m_ifT hf cc1
      refine lv_aload_n hx hb dX12_tag_60 rfl (lv_at hl 0 rfl) ?_
      refine m_get (v := .ref (h 19)) X hw_tag hM 19 (by decide) fl_tag_19 rfl dX12_tag_61 ?_
      refine lv_bipush (v := (8 : Int32)) hx hb dX12_tag_64 (by decide) ?_
      refine lv_aload_n hx hb dX12_tag_66 rfl (lv_at hl 0 rfl) ?_
      refine m_get (v := .int (I1 5)) X hw_tag hM 5 (by decide) fl_tag_5 rfl dX12_tag_67 ?_
      refine lv_imul hx hb dX12_tag_70 ?_
      obtain ⟨v2, ev, hf⟩ := m_bndE hf
      refine m_top ev ?_
      clear ev
      refine lv_iload_n hx hb dX12_tag_71 rfl (lv_at hl 1 rfl) ?_
      refine lv_iadd hx hb dX12_tag_72 ?_
      obtain ⟨v3, ev, hf⟩ := m_bndE hf
      refine m_top ev ?_
      clear ev
      obtain ⟨cd, hf⟩ := m_chkE hf
      refine m_iald X hM 19 15 16 rfl cd dX12_tag_73 ?_
      clear cd
      obtain ⟨v4, ev, hf⟩ := m_bndE hf
      refine m_top ev ?_
      clear ev
      exact w_tag_74 X hret hf hM (lv_sub hl [0, 1, 2, 3] rfl)
    · replace hf := m_ifF hf cc1
      refine lv_aload_n hx hb dX12_tag_43 rfl (lv_at hl 0 rfl) ?_
      refine m_get (v := .ref (h 21)) X hw_tag hM 21 (by decide) fl_tag_21 rfl dX12_tag_44 ?_
      refine lv_bipush (v := (8 : Int32)) hx hb dX12_tag_47 (by decide) ?_
      refine lv_aload_n hx hb dX12_tag_49 rfl (lv_at hl 0 rfl) ?_
      refine m_get (v := .int (I1 5)) X hw_tag hM 5 (by decide) fl_tag_5 rfl dX12_tag_50 ?_
      refine lv_imul hx hb dX12_tag_53 ?_
      obtain ⟨v5, ev, hf⟩ := m_bndE hf
      refine m_top ev ?_
      clear ev
      refine lv_iload_n hx hb dX12_tag_54 rfl (lv_at hl 1 rfl) ?_
      refine lv_iadd hx hb dX12_tag_55 ?_
      obtain ⟨v6, ev, hf⟩ := m_bndE hf
      refine m_top ev ?_
      clear ev
      obtain ⟨cd, hf⟩ := m_chkE hf
      refine m_iald X hM 21 17 16 rfl cd dX12_tag_56 ?_
      clear cd
      obtain ⟨v7, ev, hf⟩ := m_bndE hf
      refine m_top ev ?_
      clear ev
      refine lv_goto (tgt := 74) hx hb dX12_tag_57 (by decide) ?_
      exact w_tag_74 X hret hf hM (lv_sub hl [0, 1, 2, 3] rfl)
  · replace hf := m_ifF hf cc1
    refine lv_iconst (v := (0 : Int32)) hx hb dX12_tag_37 (by decide) ?_
    cases hf
    exact hret H locs _ ls hM rfl dX12_tag_38
def f_tag_22 (x1 : Int32) (x2 : Int32) (x3 : Int32) (I : Nat → Int32) (A : Nat → Nat → Int32) : Option (Int32 × MS) :=
  f_tag_27 x1 x2 x3 (1 : Int32) I A

set_option maxRecDepth 100000 in
set_option maxHeartbeats 4000000 in
theorem w_tag_22 {p : Program} {l : Launch} {e : Env} {s : State} {m : MethodId} {args : Array Value} {below : List Frame} {meth : Method} {c : Code} {Q : State → Prop} {D : va_G} {cy ci : ClassId} {h : Nat → Nat} {A0 : Nat → Prop} {o : Int32 × MS} (X : CallFix p m c cX12_tag 5 s args wsX12_tag RX12) (hret : mRi p l e ({ frames := 0, cells := 0, slots := 0, locals := 0 } : Room) s m args below meth c Q cX12_tag D cy ci h A0 .int o) {x1 : Int32} {x2 : Int32} {x3 : Int32} {I : Nat → Int32} {A : Nat → Nat → Int32} {H : Heap} {locs : List Loc} {ls : Array Slot} (hf : f_tag_22 x1 x2 x3 I A = some o) (hM : mH D cy ci h A0 s H locs I A) (hl : lv_has ls 5 [(0, .ref (h 0)), (1, .int x1), (2, .int x2), (3, .int x3)]) : W p l e ({ frames := 0, cells := 0, slots := 0, locals := 0 } : Room) s m args below meth c H locs 0 0 Q (F0 m 22 ls [.ref (h 0)]) := by
  obtain ⟨hx, hb, hml, hown, hts⟩ := id X
  unfold f_tag_22 at hf
  refine lv_iconst (v := (1 : Int32)) hx hb dX12_tag_22 (by decide) ?_
  refine lv_goto (tgt := 27) hx hb dX12_tag_23 (by decide) ?_
  exact w_tag_27 X hret hf hM (lv_sub hl [0, 1, 2, 3] rfl)
def f_tag_0 (x1 : Int32) (x2 : Int32) (x3 : Int32) (I : Nat → Int32) (A : Nat → Nat → Int32) : Option (Int32 × MS) :=
  m_if (x1 < 0) (
  f_tag_22 x1 x2 x3 I A
  ) (
  m_chk (¬ ((I 5) < 0 ∨ 2 ≤ ((I 5)).toNatClampNeg)) (
  m_bnd (A 18 ((I 5)).toNatClampNeg) (fun v1 =>
  m_if (v1 ≤ x1) (
  f_tag_22 x1 x2 x3 I A
  ) (
  m_if (0 ≤ x3) (
  f_tag_27 x1 x2 x3 (0 : Int32) I A
  ) (
  f_tag_22 x1 x2 x3 I A
  )
  )))
  )

set_option maxRecDepth 100000 in
set_option maxHeartbeats 4000000 in
theorem w_tag_0 {p : Program} {l : Launch} {e : Env} {s : State} {m : MethodId} {args : Array Value} {below : List Frame} {meth : Method} {c : Code} {Q : State → Prop} {D : va_G} {cy ci : ClassId} {h : Nat → Nat} {A0 : Nat → Prop} {o : Int32 × MS} (X : CallFix p m c cX12_tag 5 s args wsX12_tag RX12) (hret : mRi p l e ({ frames := 0, cells := 0, slots := 0, locals := 0 } : Room) s m args below meth c Q cX12_tag D cy ci h A0 .int o) {x1 : Int32} {x2 : Int32} {x3 : Int32} {I : Nat → Int32} {A : Nat → Nat → Int32} {H : Heap} {locs : List Loc} {ls : Array Slot} (hf : f_tag_0 x1 x2 x3 I A = some o) (hM : mH D cy ci h A0 s H locs I A) (hl : lv_has ls 5 [(0, .ref (h 0)), (1, .int x1), (2, .int x2), (3, .int x3)]) : W p l e ({ frames := 0, cells := 0, slots := 0, locals := 0 } : Room) s m args below meth c H locs 0 0 Q (F0 m 0 ls []) := by
  obtain ⟨hx, hb, hml, hown, hts⟩ := id X
  unfold f_tag_0 at hf
  refine lv_aload_n hx hb dX12_tag_0 rfl (lv_at hl 0 rfl) ?_
  refine lv_iload_n hx hb dX12_tag_1 rfl (lv_at hl 1 rfl) ?_
  refine lv_if_lt (tgt := 22) hx hb dX12_tag_2 (by decide) (fun cc1 => ?_) (fun cc1 => ?_)
  · replace hf := m_ifT hf cc1
    exact w_tag_22 X hret hf hM (lv_sub hl [0, 1, 2, 3] rfl)
  · replace hf := m_ifF hf cc1
    refine lv_iload_n hx hb dX12_tag_5 rfl (lv_at hl 1 rfl) ?_
    refine lv_aload_n hx hb dX12_tag_6 rfl (lv_at hl 0 rfl) ?_
    refine m_get (v := .ref (h 18)) X hw_tag hM 18 (by decide) fl_tag_18 rfl dX12_tag_7 ?_
    refine lv_aload_n hx hb dX12_tag_10 rfl (lv_at hl 0 rfl) ?_
    refine m_get (v := .int (I 5)) X hw_tag hM 5 (by decide) fl_tag_5 rfl dX12_tag_11 ?_
    obtain ⟨cd, hf⟩ := m_chkE hf
    refine m_iald X hM 18 14 2 rfl cd dX12_tag_14 ?_
    clear cd
    obtain ⟨v1, ev, hf⟩ := m_bndE hf
    refine m_top ev ?_
    clear ev
    refine lv_icmp_ge (tgt := 22) hx hb dX12_tag_15 (by decide) (fun cc1 => ?_) (fun cc1 => ?_)
    · replace hf := m_ifT hf cc1
      exact w_tag_22 X hret hf hM (lv_sub hl [0, 1, 2, 3] rfl)
    · replace hf := m_ifF hf cc1
      refine lv_iload_n hx hb dX12_tag_18 rfl (lv_at hl 3 rfl) ?_
      refine lv_if_ge (tgt := 26) hx hb dX12_tag_19 (by decide) (fun cc1 => ?_) (fun cc1 => ?_)
      · replace hf := m_ifT hf cc1
        refine lv_iconst (v := (0 : Int32)) hx hb dX12_tag_26 (by decide) ?_
        exact w_tag_27 X hret hf hM (lv_sub hl [0, 1, 2, 3] rfl)
      · replace hf := m_ifF hf cc1
        exact w_tag_22 X hret hf hM (lv_sub hl [0, 1, 2, 3] rfl)
def f_tag (x1 : Int32) (x2 : Int32) (x3 : Int32) (I : Nat → Int32) (A : Nat → Nat → Int32) : Option (Int32 × MS) := f_tag_0 x1 x2 x3 I A
theorem c_tag {l : Launch} {D : va_G} {cy ci : ClassId} {h : Nat → Nat} {x1 : Int32} {x2 : Int32} {x3 : Int32} {I : Nat → Int32} {A : Nat → Nat → Int32} {o : Int32 × MS} (hf : f_tag x1 x2 x3 I A = some o) : mMi l yX12_tag wsX12_tag ({ frames := 0, cells := 0, slots := 0, locals := 0 } : Room) [.ref (h 0), .int x1, .int x2, .int x3] D cy ci h I A o :=
  m_entryI (cc := cX12_tag) (maxL := 5) (by decide) rfl rfl (Nat.le_of_ble_eq_true rfl) (fun p e s m args below meth c A0 Q H locs ls X hret hM hl => w_tag_0 X hret hf hM (lv_sub hl [0, 1, 2, 3] rfl))
