def f_kind_0 (x0 : Int32) (I : Nat → Int32) (A : Nat → Nat → Int32) : Option (Int32 × MS) :=
  m_bnd (x0 &&& 7) (fun v1 =>
  some (v1, (I, A)))

set_option maxRecDepth 100000 in
set_option maxHeartbeats 4000000 in
theorem w_kind_0 {p : Program} {l : Launch} {e : Env} {s : State} {m : MethodId} {args : Array Value} {below : List Frame} {meth : Method} {c : Code} {Q : State → Prop} {D : va_G} {cy ci : ClassId} {h : Nat → Nat} {A0 : Nat → Prop} {o : Int32 × MS} (X : CallFix p m c cX12_kind 1 s args wsX12_kind RX12) (hret : mRi p l e ({ frames := 0, cells := 0, slots := 0, locals := 0 } : Room) s m args below meth c Q cX12_kind D cy ci h A0 .int o) {x0 : Int32} {I : Nat → Int32} {A : Nat → Nat → Int32} {H : Heap} {locs : List Loc} {ls : Array Slot} (hf : f_kind_0 x0 I A = some o) (hM : mH D cy ci h A0 s H locs I A) (hl : lv_has ls 1 [(0, .int x0)]) : W p l e ({ frames := 0, cells := 0, slots := 0, locals := 0 } : Room) s m args below meth c H locs 0 0 Q (F0 m 0 ls []) := by
  obtain ⟨hx, hb, hml, hown, hts⟩ := id X
  unfold f_kind_0 at hf
  refine lv_iload_n hx hb dX12_kind_0 rfl (lv_at hl 0 rfl) ?_
  refine lv_bipush (v := 7) hx hb dX12_kind_1 (by decide) ?_
  refine lv_iand hx hb dX12_kind_3 ?_
  obtain ⟨v1, ev, hf⟩ := m_bndE hf
  refine m_top ev ?_
  clear ev
  cases hf
  exact hret H locs _ ls hM rfl dX12_kind_4
def f_kind (x0 : Int32) (I : Nat → Int32) (A : Nat → Nat → Int32) : Option (Int32 × MS) := f_kind_0 x0 I A
theorem c_kind {l : Launch} {D : va_G} {cy ci : ClassId} {h : Nat → Nat} {x0 : Int32} {I : Nat → Int32} {A : Nat → Nat → Int32} {o : Int32 × MS} (hf : f_kind x0 I A = some o) : mMi l yX12_kind wsX12_kind ({ frames := 0, cells := 0, slots := 0, locals := 0 } : Room) [.int x0] D cy ci h I A o :=
  m_entryI (cc := cX12_kind) (maxL := 1) (by decide) rfl rfl (Nat.le_of_ble_eq_true rfl) (fun p e s m args below meth c A0 Q H locs ls X hret hM hl => w_kind_0 X hret hf hM (lv_sub hl [0] rfl))
theorem hd_kind : yX12_kind.cls ≠ "java/lang/invoke/MethodHandle" ∧ yX12_kind.cls ≠ "java/lang/invoke/VarHandle" ∧ (parseMethodDescriptor yX12_kind.desc).map (fun d => d.parameters.length) = some 1 := by decide +kernel
def f_sideOf_11 (t0 : Int32) (I : Nat → Int32) (A : Nat → Nat → Int32) : Option (Int32 × MS) :=
  some (t0, (I, A))

set_option maxRecDepth 100000 in
set_option maxHeartbeats 4000000 in
theorem w_sideOf_11 {p : Program} {l : Launch} {e : Env} {s : State} {m : MethodId} {args : Array Value} {below : List Frame} {meth : Method} {c : Code} {Q : State → Prop} {D : va_G} {cy ci : ClassId} {h : Nat → Nat} {A0 : Nat → Prop} {o : Int32 × MS} (X : CallFix p m c cX12_sideOf 1 s args wsX12_sideOf RX12) (hret : mRi p l e ({ frames := 0, cells := 0, slots := 0, locals := 0 } : Room) s m args below meth c Q cX12_sideOf D cy ci h A0 .int o) {t0 : Int32} {I : Nat → Int32} {A : Nat → Nat → Int32} {H : Heap} {locs : List Loc} {ls : Array Slot} (hf : f_sideOf_11 t0 I A = some o) (hM : mH D cy ci h A0 s H locs I A) (hl : lv_has ls 1 []) : W p l e ({ frames := 0, cells := 0, slots := 0, locals := 0 } : Room) s m args below meth c H locs 0 0 Q (F0 m 11 ls [.int t0]) := by
  obtain ⟨hx, hb, hml, hown, hts⟩ := id X
  unfold f_sideOf_11 at hf
  cases hf
  exact hret H locs _ ls hM rfl dX12_sideOf_11
def f_sideOf_0 (x0 : Int32) (I : Nat → Int32) (A : Nat → Nat → Int32) : Option (Int32 × MS) :=
  m_if (x0 = 0) (
  f_sideOf_11 (-1) I A
  ) (
  m_bnd (x0 >>> (3 &&& 31)) (fun v1 =>
  f_sideOf_11 v1 I A)
  )

set_option maxRecDepth 100000 in
set_option maxHeartbeats 4000000 in
theorem w_sideOf_0 {p : Program} {l : Launch} {e : Env} {s : State} {m : MethodId} {args : Array Value} {below : List Frame} {meth : Method} {c : Code} {Q : State → Prop} {D : va_G} {cy ci : ClassId} {h : Nat → Nat} {A0 : Nat → Prop} {o : Int32 × MS} (X : CallFix p m c cX12_sideOf 1 s args wsX12_sideOf RX12) (hret : mRi p l e ({ frames := 0, cells := 0, slots := 0, locals := 0 } : Room) s m args below meth c Q cX12_sideOf D cy ci h A0 .int o) {x0 : Int32} {I : Nat → Int32} {A : Nat → Nat → Int32} {H : Heap} {locs : List Loc} {ls : Array Slot} (hf : f_sideOf_0 x0 I A = some o) (hM : mH D cy ci h A0 s H locs I A) (hl : lv_has ls 1 [(0, .int x0)]) : W p l e ({ frames := 0, cells := 0, slots := 0, locals := 0 } : Room) s m args below meth c H locs 0 0 Q (F0 m 0 ls []) := by
  obtain ⟨hx, hb, hml, hown, hts⟩ := id X
  unfold f_sideOf_0 at hf
  refine lv_iload_n hx hb dX12_sideOf_0 rfl (lv_at hl 0 rfl) ?_
  refine lv_if_ne (tgt := 8) hx hb dX12_sideOf_1 (by decide) (fun cc1 => ?_) (fun cc1 => ?_)
  · replace hf := m_ifF hf cc1
    refine lv_iload_n hx hb dX12_sideOf_8 rfl (lv_at hl 0 rfl) ?_
    refine lv_iconst (v := 3) hx hb dX12_sideOf_9 (by decide) ?_
    refine lv_ishr hx hb dX12_sideOf_10 ?_
    obtain ⟨v1, ev, hf⟩ := m_bndE hf
    refine m_top ev ?_
    clear ev
    exact w_sideOf_11 X hret hf hM (lv_sub hl [] rfl)
  · replace hf := m_ifT hf cc1
    refine lv_iconst (v := (-1)) hx hb dX12_sideOf_4 (by decide) ?_
    refine lv_goto (tgt := 11) hx hb dX12_sideOf_5 (by decide) ?_
    exact w_sideOf_11 X hret hf hM (lv_sub hl [] rfl)
def f_sideOf (x0 : Int32) (I : Nat → Int32) (A : Nat → Nat → Int32) : Option (Int32 × MS) := f_sideOf_0 x0 I A
theorem c_sideOf {l : Launch} {D : va_G} {cy ci : ClassId} {h : Nat → Nat} {x0 : Int32} {I : Nat → Int32} {A : Nat → Nat → Int32} {o : Int32 × MS} (hf : f_sideOf x0 I A = some o) : mMi l yX12_sideOf wsX12_sideOf ({ frames := 0, cells := 0, slots := 0, locals := 0 } : Room) [.int x0] D cy ci h I A o :=
  m_entryI (cc := cX12_sideOf) (maxL := 1) (by decide) rfl rfl (Nat.le_of_ble_eq_true rfl) (fun p e s m args below meth c A0 Q H locs ls X hret hM hl => w_sideOf_0 X hret hf hM (lv_sub hl [0] rfl))
theorem hd_sideOf : yX12_sideOf.cls ≠ "java/lang/invoke/MethodHandle" ∧ yX12_sideOf.cls ≠ "java/lang/invoke/VarHandle" ∧ (parseMethodDescriptor yX12_sideOf.desc).map (fun d => d.parameters.length) = some 1 := by decide +kernel
def f_step_48 (t0 : Int32) (I : Nat → Int32) (A : Nat → Nat → Int32) : Option (Int32 × MS) :=
  some (t0, (I, A))

set_option maxRecDepth 100000 in
set_option maxHeartbeats 4000000 in
theorem w_step_48 {p : Program} {l : Launch} {e : Env} {s : State} {m : MethodId} {args : Array Value} {below : List Frame} {meth : Method} {c : Code} {Q : State → Prop} {D : va_G} {cy ci : ClassId} {h : Nat → Nat} {A0 : Nat → Prop} {o : Int32 × MS} (X : CallFix p m c cX12_step 5 s args wsX12_step RX12) (hret : mRi p l e ({ frames := 0, cells := 0, slots := 0, locals := 0 } : Room) s m args below meth c Q cX12_step D cy ci h A0 .int o) {t0 : Int32} {I : Nat → Int32} {A : Nat → Nat → Int32} {H : Heap} {locs : List Loc} {ls : Array Slot} (hf : f_step_48 t0 I A = some o) (hM : mH D cy ci h A0 s H locs I A) (hl : lv_has ls 5 []) : W p l e ({ frames := 0, cells := 0, slots := 0, locals := 0 } : Room) s m args below meth c H locs 0 0 Q (F0 m 48 ls [.int t0]) := by
  obtain ⟨hx, hb, hml, hown, hts⟩ := id X
  unfold f_step_48 at hf
  cases hf
  exact hret H locs _ ls hM rfl dX12_step_48
def f_step_47 (I : Nat → Int32) (A : Nat → Nat → Int32) : Option (Int32 × MS) :=
  f_step_48 (-1) I A

set_option maxRecDepth 100000 in
set_option maxHeartbeats 4000000 in
theorem w_step_47 {p : Program} {l : Launch} {e : Env} {s : State} {m : MethodId} {args : Array Value} {below : List Frame} {meth : Method} {c : Code} {Q : State → Prop} {D : va_G} {cy ci : ClassId} {h : Nat → Nat} {A0 : Nat → Prop} {o : Int32 × MS} (X : CallFix p m c cX12_step 5 s args wsX12_step RX12) (hret : mRi p l e ({ frames := 0, cells := 0, slots := 0, locals := 0 } : Room) s m args below meth c Q cX12_step D cy ci h A0 .int o) {I : Nat → Int32} {A : Nat → Nat → Int32} {H : Heap} {locs : List Loc} {ls : Array Slot} (hf : f_step_47  I A = some o) (hM : mH D cy ci h A0 s H locs I A) (hl : lv_has ls 5 []) : W p l e ({ frames := 0, cells := 0, slots := 0, locals := 0 } : Room) s m args below meth c H locs 0 0 Q (F0 m 47 ls []) := by
  obtain ⟨hx, hb, hml, hown, hts⟩ := id X
  unfold f_step_47 at hf
  refine lv_iconst (v := (-1)) hx hb dX12_step_47 (by decide) ?_
  exact w_step_48 X hret hf hM (lv_sub hl [] rfl)
def f_step_0 (x0 : Int32) (x1 : Int32) (x2 : Int32) (I : Nat → Int32) (A : Nat → Nat → Int32) : Option (Int32 × MS) :=
  m_bnd (x0 - x0 / 8 * 8) (fun v1 =>
  m_bnd (v1 + x1) (fun v2 =>
  m_bnd (x0 / 8) (fun v3 =>
  m_bnd (v3 + x2) (fun v4 =>
  m_if (v2 < 0) (
  f_step_47  I A
  ) (
  m_if (8 ≤ v2) (
  f_step_47  I A
  ) (
  m_if (v4 < 0) (
  f_step_47  I A
  ) (
  m_if (8 ≤ v4) (
  f_step_47  I A
  ) (
  m_bnd (8 * v4) (fun v5 =>
  m_bnd (v5 + v2) (fun v6 =>
  f_step_48 v6 I A))
  )
  )
  )
  )))))

set_option maxRecDepth 100000 in
set_option maxHeartbeats 4000000 in
theorem w_step_0 {p : Program} {l : Launch} {e : Env} {s : State} {m : MethodId} {args : Array Value} {below : List Frame} {meth : Method} {c : Code} {Q : State → Prop} {D : va_G} {cy ci : ClassId} {h : Nat → Nat} {A0 : Nat → Prop} {o : Int32 × MS} (X : CallFix p m c cX12_step 5 s args wsX12_step RX12) (hret : mRi p l e ({ frames := 0, cells := 0, slots := 0, locals := 0 } : Room) s m args below meth c Q cX12_step D cy ci h A0 .int o) {x0 : Int32} {x1 : Int32} {x2 : Int32} {I : Nat → Int32} {A : Nat → Nat → Int32} {H : Heap} {locs : List Loc} {ls : Array Slot} (hf : f_step_0 x0 x1 x2 I A = some o) (hM : mH D cy ci h A0 s H locs I A) (hl : lv_has ls 5 [(0, .int x0), (1, .int x1), (2, .int x2)]) : W p l e ({ frames := 0, cells := 0, slots := 0, locals := 0 } : Room) s m args below meth c H locs 0 0 Q (F0 m 0 ls []) := by
  obtain ⟨hx, hb, hml, hown, hts⟩ := id X
  unfold f_step_0 at hf
  refine lv_iload_n hx hb dX12_step_0 rfl (lv_at hl 0 rfl) ?_
  refine lv_bipush (v := 8) hx hb dX12_step_1 (by decide) ?_
  refine lv_irem hx hb dX12_step_3 (by decide) ?_
  obtain ⟨v1, ev, hf⟩ := m_bndE hf
  refine m_top ev ?_
  clear ev
  refine lv_iload_n hx hb dX12_step_4 rfl (lv_at hl 1 rfl) ?_
  refine lv_iadd hx hb dX12_step_5 ?_
  obtain ⟨v2, ev, hf⟩ := m_bndE hf
  refine m_top ev ?_
  clear ev
  refine lv_istore_n (lv' := [(3, .int v2), (0, .int x0), (1, .int x1), (2, .int x2)]) hx hb dX12_step_6 rfl hl (by decide) rfl (fun ls hl => ?_)
  refine lv_iload_n hx hb dX12_step_7 rfl (lv_at hl 1 rfl) ?_
  refine lv_bipush (v := 8) hx hb dX12_step_8 (by decide) ?_
  refine lv_idiv hx hb dX12_step_10 (by decide) ?_
  obtain ⟨v3, ev, hf⟩ := m_bndE hf
  refine m_top ev ?_
  clear ev
  refine lv_iload_n hx hb dX12_step_11 rfl (lv_at hl 3 rfl) ?_
  refine lv_iadd hx hb dX12_step_12 ?_
  obtain ⟨v4, ev, hf⟩ := m_bndE hf
  refine m_top ev ?_
  clear ev
  refine lv_istore (lv' := [(4, .int v4), (3, .int v2), (0, .int x0), (1, .int x1), (2, .int x2)]) hx hb dX12_step_13 hl (by decide) rfl (fun ls hl => ?_)
  refine lv_iload_n hx hb dX12_step_15 rfl (lv_at hl 1 rfl) ?_
  refine lv_if_lt (tgt := 47) hx hb dX12_step_16 (by decide) (fun cc1 => ?_) (fun cc1 => ?_)
  · replace hf := m_ifT hf cc1
    exact w_step_47 X hret hf hM (lv_sub hl [] rfl)
  · replace hf := m_ifF hf cc1
    refine lv_iload_n hx hb dX12_step_19 rfl (lv_at hl 1 rfl) ?_
    refine lv_bipush (v := 8) hx hb dX12_step_20 (by decide) ?_
    refine lv_icmp_ge (tgt := 47) hx hb dX12_step_22 (by decide) (fun cc1 => ?_) (fun cc1 => ?_)
    · replace hf := m_ifT hf cc1
      exact w_step_47 X hret hf hM (lv_sub hl [] rfl)
    · replace hf := m_ifF hf cc1
      refine lv_iload hx hb dX12_step_25 (lv_at hl 0 rfl) ?_
      refine lv_if_lt (tgt := 47) hx hb dX12_step_27 (by decide) (fun cc1 => ?_) (fun cc1 => ?_)
      · replace hf := m_ifT hf cc1
        exact w_step_47 X hret hf hM (lv_sub hl [] rfl)
      · replace hf := m_ifF hf cc1
        refine lv_iload hx hb dX12_step_30 (lv_at hl 0 rfl) ?_
        refine lv_bipush (v := 8) hx hb dX12_step_32 (by decide) ?_
        refine lv_icmp_ge (tgt := 47) hx hb dX12_step_34 (by decide) (fun cc1 => ?_) (fun cc1 => ?_)
        · replace hf := m_ifT hf cc1
          exact w_step_47 X hret hf hM (lv_sub hl [] rfl)
        · replace hf := m_ifF hf cc1
          refine lv_bipush (v := 8) hx hb dX12_step_37 (by decide) ?_
          refine lv_iload hx hb dX12_step_39 (lv_at hl 0 rfl) ?_
          refine lv_imul hx hb dX12_step_41 ?_
          obtain ⟨v5, ev, hf⟩ := m_bndE hf
          refine m_top ev ?_
          clear ev
          refine lv_iload_n hx hb dX12_step_42 rfl (lv_at hl 1 rfl) ?_
          refine lv_iadd hx hb dX12_step_43 ?_
          obtain ⟨v6, ev, hf⟩ := m_bndE hf
          refine m_top ev ?_
          clear ev
          refine lv_goto (tgt := 48) hx hb dX12_step_44 (by decide) ?_
          exact w_step_48 X hret hf hM (lv_sub hl [] rfl)
def f_step (x0 : Int32) (x1 : Int32) (x2 : Int32) (I : Nat → Int32) (A : Nat → Nat → Int32) : Option (Int32 × MS) := f_step_0 x0 x1 x2 I A
theorem c_step {l : Launch} {D : va_G} {cy ci : ClassId} {h : Nat → Nat} {x0 : Int32} {x1 : Int32} {x2 : Int32} {I : Nat → Int32} {A : Nat → Nat → Int32} {o : Int32 × MS} (hf : f_step x0 x1 x2 I A = some o) : mMi l yX12_step wsX12_step ({ frames := 0, cells := 0, slots := 0, locals := 0 } : Room) [.int x0, .int x1, .int x2] D cy ci h I A o :=
  m_entryI (cc := cX12_step) (maxL := 5) (by decide) rfl rfl (Nat.le_of_ble_eq_true rfl) (fun p e s m args below meth c A0 Q H locs ls X hret hM hl => w_step_0 X hret hf hM (lv_sub hl [0, 1, 2] rfl))
theorem hd_step : yX12_step.cls ≠ "java/lang/invoke/MethodHandle" ∧ yX12_step.cls ≠ "java/lang/invoke/VarHandle" ∧ (parseMethodDescriptor yX12_step.desc).map (fun d => d.parameters.length) = some 3 := by decide +kernel
theorem hw_stands : ∀ w ∈ wsX120, w ∈ wsX12_stands := by decide +kernel
theorem fl_stands_24 : Cond.fieldLink RX12 70 "MoveTextsModel" "men" "[I" ∈ wsX12_stands := by decide +kernel
def f_stands_19 (t0 : Int32) (I : Nat → Int32) (A : Nat → Nat → Int32) : Option (Int32 × MS) :=
  m_chk (vp_nar .boolean t0 = t0) (some (t0, (I, A)))

set_option maxRecDepth 100000 in
set_option maxHeartbeats 4000000 in
theorem w_stands_19 {p : Program} {l : Launch} {e : Env} {s : State} {m : MethodId} {args : Array Value} {below : List Frame} {meth : Method} {c : Code} {Q : State → Prop} {D : va_G} {cy ci : ClassId} {h : Nat → Nat} {A0 : Nat → Prop} {o : Int32 × MS} (X : CallFix p m c cX12_stands 3 s args wsX12_stands RX12) (hret : mRi p l e ({ frames := 0, cells := 0, slots := 0, locals := 0 } : Room) s m args below meth c Q cX12_stands D cy ci h A0 .boolean o) {t0 : Int32} {I : Nat → Int32} {A : Nat → Nat → Int32} {H : Heap} {locs : List Loc} {ls : Array Slot} (hf : f_stands_19 t0 I A = some o) (hM : mH D cy ci h A0 s H locs I A) (hl : lv_has ls 3 []) : W p l e ({ frames := 0, cells := 0, slots := 0, locals := 0 } : Room) s m args below meth c H locs 0 0 Q (F0 m 19 ls [.int t0]) := by
  obtain ⟨hx, hb, hml, hown, hts⟩ := id X
  unfold f_stands_19 at hf
  obtain ⟨cd, hf⟩ := m_chkE hf
  cases hf
  exact hret H locs _ ls hM (m_nb cd) dX12_stands_19
def f_stands_18 (I : Nat → Int32) (A : Nat → Nat → Int32) : Option (Int32 × MS) :=
  f_stands_19 0 I A

set_option maxRecDepth 100000 in
set_option maxHeartbeats 4000000 in
theorem w_stands_18 {p : Program} {l : Launch} {e : Env} {s : State} {m : MethodId} {args : Array Value} {below : List Frame} {meth : Method} {c : Code} {Q : State → Prop} {D : va_G} {cy ci : ClassId} {h : Nat → Nat} {A0 : Nat → Prop} {o : Int32 × MS} (X : CallFix p m c cX12_stands 3 s args wsX12_stands RX12) (hret : mRi p l e ({ frames := 0, cells := 0, slots := 0, locals := 0 } : Room) s m args below meth c Q cX12_stands D cy ci h A0 .boolean o) {I : Nat → Int32} {A : Nat → Nat → Int32} {H : Heap} {locs : List Loc} {ls : Array Slot} (hf : f_stands_18  I A = some o) (hM : mH D cy ci h A0 s H locs I A) (hl : lv_has ls 3 []) : W p l e ({ frames := 0, cells := 0, slots := 0, locals := 0 } : Room) s m args below meth c H locs 0 0 Q (F0 m 18 ls []) := by
  obtain ⟨hx, hb, hml, hown, hts⟩ := id X
  unfold f_stands_18 at hf
  refine lv_iconst (v := 0) hx hb dX12_stands_18 (by decide) ?_
  exact w_stands_19 X hret hf hM (lv_sub hl [] rfl)
def f_stands_0 (x1 : Int32) (x2 : Int32) (I : Nat → Int32) (A : Nat → Nat → Int32) : Option (Int32 × MS) :=
  m_if (x1 < 0) (
  f_stands_18  I A
  ) (
  m_chk (¬ (x1 < 0 ∨ 64 ≤ (x1).toNatClampNeg)) (
  m_bnd (A 24 (x1).toNatClampNeg) (fun v1 =>
  m_if (v1 = x2) (
  f_stands_19 1 I A
  ) (
  f_stands_18  I A
  )))
  )

set_option maxRecDepth 100000 in
set_option maxHeartbeats 4000000 in
theorem w_stands_0 {p : Program} {l : Launch} {e : Env} {s : State} {m : MethodId} {args : Array Value} {below : List Frame} {meth : Method} {c : Code} {Q : State → Prop} {D : va_G} {cy ci : ClassId} {h : Nat → Nat} {A0 : Nat → Prop} {o : Int32 × MS} (X : CallFix p m c cX12_stands 3 s args wsX12_stands RX12) (hret : mRi p l e ({ frames := 0, cells := 0, slots := 0, locals := 0 } : Room) s m args below meth c Q cX12_stands D cy ci h A0 .boolean o) {x1 : Int32} {x2 : Int32} {I : Nat → Int32} {A : Nat → Nat → Int32} {H : Heap} {locs : List Loc} {ls : Array Slot} (hf : f_stands_0 x1 x2 I A = some o) (hM : mH D cy ci h A0 s H locs I A) (hl : lv_has ls 3 [(0, .ref (h 0)), (1, .int x1), (2, .int x2)]) : W p l e ({ frames := 0, cells := 0, slots := 0, locals := 0 } : Room) s m args below meth c H locs 0 0 Q (F0 m 0 ls []) := by
  obtain ⟨hx, hb, hml, hown, hts⟩ := id X
  unfold f_stands_0 at hf
  refine lv_iload_n hx hb dX12_stands_0 rfl (lv_at hl 1 rfl) ?_
  refine lv_if_lt (tgt := 18) hx hb dX12_stands_1 (by decide) (fun cc1 => ?_) (fun cc1 => ?_)
  · replace hf := m_ifT hf cc1
    exact w_stands_18 X hret hf hM (lv_sub hl [] rfl)
  · replace hf := m_ifF hf cc1
    refine lv_aload_n hx hb dX12_stands_4 rfl (lv_at hl 0 rfl) ?_
    refine m_get (v := .ref (h 24)) X hw_stands hM 24 (by decide) fl_stands_24 rfl dX12_stands_5 ?_
    refine lv_iload_n hx hb dX12_stands_8 rfl (lv_at hl 1 rfl) ?_
    obtain ⟨cd, hf⟩ := m_chkE hf
    refine m_iald X hM 24 20 64 rfl cd dX12_stands_9 ?_
    clear cd
    obtain ⟨v1, ev, hf⟩ := m_bndE hf
    refine m_top ev ?_
    clear ev
    refine lv_iload_n hx hb dX12_stands_10 rfl (lv_at hl 2 rfl) ?_
    refine lv_icmp_ne (tgt := 18) hx hb dX12_stands_11 (by decide) (fun cc1 => ?_) (fun cc1 => ?_)
    · replace hf := m_ifF hf cc1
      exact w_stands_18 X hret hf hM (lv_sub hl [] rfl)
    · replace hf := m_ifT hf cc1
      refine lv_iconst (v := 1) hx hb dX12_stands_14 (by decide) ?_
      refine lv_goto (tgt := 19) hx hb dX12_stands_15 (by decide) ?_
      exact w_stands_19 X hret hf hM (lv_sub hl [] rfl)
def f_stands (x1 : Int32) (x2 : Int32) (I : Nat → Int32) (A : Nat → Nat → Int32) : Option (Int32 × MS) := f_stands_0 x1 x2 I A
theorem c_stands {l : Launch} {D : va_G} {cy ci : ClassId} {h : Nat → Nat} {x1 : Int32} {x2 : Int32} {I : Nat → Int32} {A : Nat → Nat → Int32} {o : Int32 × MS} (hf : f_stands x1 x2 I A = some o) : mMi l yX12_stands wsX12_stands ({ frames := 0, cells := 0, slots := 0, locals := 0 } : Room) [.ref (h 0), .int x1, .int x2] D cy ci h I A o :=
  m_entryI (cc := cX12_stands) (maxL := 3) (by decide) rfl rfl (Nat.le_of_ble_eq_true rfl) (fun p e s m args below meth c A0 Q H locs ls X hret hM hl => w_stands_0 X hret hf hM (lv_sub hl [0, 1, 2] rfl))
theorem hd_stands : yX12_stands.cls = RX12 ∧ yX12_stands.cls ≠ "java/lang/invoke/MethodHandle" ∧ yX12_stands.cls ≠ "java/lang/invoke/VarHandle" ∧ (parseMethodDescriptor yX12_stands.desc).map (fun d => d.parameters.length) = some 2 := by decide +kernel
