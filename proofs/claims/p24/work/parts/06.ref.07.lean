section
theorem hw_ink : ∀ w ∈ wsX120, w ∈ wsX12_ink := by decide +kernel
theorem fl_ink_3 : Cond.fieldLink RX12 364 "MoveTextsModel" "told" "I" ∈ wsX12_ink := by decide +kernel
theorem fl_ink_4 : Cond.fieldLink RX12 14 "MoveTextsModel" "out" "[C" ∈ wsX12_ink := by decide +kernel
theorem hd_ink : yX12_ink.cls = RX12 ∧ yX12_ink.cls ≠ "java/lang/invoke/MethodHandle" ∧ yX12_ink.cls ≠ "java/lang/invoke/VarHandle" ∧ (parseMethodDescriptor yX12_ink.desc).map (fun d => d.parameters.length) = some 1 := by decide +kernel
noncomputable def f_ink_0 (x1 : Int32) (I : Nat → Int32) (A : Nat → Nat → Int32) : Option (Int32 × MS) :=
  m_chk (¬ ((I 3) < 0 ∨ 80000 ≤ ((I 3)).toNatClampNeg)) (
  m_bnd (va_up A 4 (upd (A 4) ((I 3)).toNatClampNeg (vp_nar .char x1))) (fun A1 =>
  m_bnd ((I 3) + (1 : Int32)) (fun v2 =>
  m_bnd (upd I 3 v2) (fun I3 =>
  some (0, (I3, A1))))))

set_option maxRecDepth 100000 in
set_option maxHeartbeats 4000000 in
theorem w_ink_0 {p : Program} {l : Launch} {e : Env} {s : State} {m : MethodId} {args : Array Value} {below : List Frame} {meth : Method} {c : Code} {Q : State → Prop} {D : va_G} {cy ci : ClassId} {h : Nat → Nat} {A0 : Nat → Prop} {o : Int32 × MS} (X : CallFix p m c cX12_ink 2 s args wsX12_ink RX12) (hret : mRv p l e ({ frames := 0, cells := 0, slots := 0, locals := 0 } : Room) s m args below meth c Q cX12_ink D cy ci h A0 o) {x1 : Int32} {I : Nat → Int32} {A : Nat → Nat → Int32} {H : Heap} {locs : List Loc} {ls : Array Slot} (hf : f_ink_0 x1 I A = some o) (hM : mH D cy ci h A0 s H locs I A) (hl : lv_has ls 2 [(0, .ref (h 0)), (1, .int x1)]) : W p l e ({ frames := 0, cells := 0, slots := 0, locals := 0 } : Room) s m args below meth c H locs 0 0 Q (F0 m 0 ls []) := by
  obtain ⟨hx, hb, hml, hown, hts⟩ := id X
  unfold f_ink_0 at hf
  refine lv_aload_n hx hb dX12_ink_0 rfl (lv_at hl 0 rfl) ?_
  refine m_get (v := .ref (h 4)) X hw_ink hM 4 (by decide) fl_ink_4 rfl dX12_ink_1 ?_
  refine lv_aload_n hx hb dX12_ink_4 rfl (lv_at hl 0 rfl) ?_
  refine m_get (v := .int (I 3)) X hw_ink hM 3 (by decide) fl_ink_3 rfl dX12_ink_5 ?_
  refine lv_iload_n hx hb dX12_ink_8 rfl (lv_at hl 1 rfl) ?_
  obtain ⟨cd, hf⟩ := m_chkE hf
  refine m_cast X hM 4 2 80000 rfl ma_4 cd dX12_ink_9 (fun H locs hM => ?_)
  clear cd
  obtain ⟨A1, ev, hf⟩ := m_bndE hf
  replace hM := m_hA hM ev
  clear ev
  refine lv_aload_n hx hb dX12_ink_10 rfl (lv_at hl 0 rfl) ?_
  refine lv_dup hx hb dX12_ink_11 rfl ?_
  refine m_get (v := .int (I 3)) X hw_ink hM 3 (by decide) fl_ink_3 rfl dX12_ink_12 ?_
  refine lv_iconst (v := (1 : Int32)) hx hb dX12_ink_15 (by decide) ?_
  refine lv_iadd hx hb dX12_ink_16 ?_
  obtain ⟨v2, ev, hf⟩ := m_bndE hf
  refine m_top ev ?_
  clear ev
  refine m_put X hw_ink hM 3 (by decide) fl_ink_3 mi_3 rfl (tyX12_ok 3 (by decide)) dX12_ink_17 (fun H locs hM => ?_)
  obtain ⟨I3, ev, hf⟩ := m_bndE hf
  replace hM := m_hI hM ev
  clear ev
  cases hf
  exact hret H locs _ ls hM dX12_ink_20
noncomputable def f_ink (x1 : Int32) (I : Nat → Int32) (A : Nat → Nat → Int32) : Option (Int32 × MS) := f_ink_0 x1 I A
theorem c_ink {l : Launch} {D : va_G} {cy ci : ClassId} {h : Nat → Nat} {x1 : Int32} {I : Nat → Int32} {A : Nat → Nat → Int32} {o : Int32 × MS} (hf : f_ink x1 I A = some o) : mMv l yX12_ink wsX12_ink ({ frames := 0, cells := 0, slots := 0, locals := 0 } : Room) [.ref (h 0), .int x1] D cy ci h I A o :=
  m_entryV (cc := cX12_ink) (maxL := 2) (by decide) rfl rfl (Nat.le_of_ble_eq_true rfl) (fun p e s m args below meth c A0 Q H locs ls X hret hM hl => w_ink_0 X hret hf hM (lv_sub hl [0, 1] rfl))
theorem hd_sayNumber : yX12_sayNumber.cls = RX12 ∧ yX12_sayNumber.cls ≠ "java/lang/invoke/MethodHandle" ∧ yX12_sayNumber.cls ≠ "java/lang/invoke/VarHandle" ∧ (parseMethodDescriptor yX12_sayNumber.desc).map (fun d => d.parameters.length) = some 1 := by decide +kernel
noncomputable def f_sayNumber_18s (self18 : Int32 → Int32 → (Nat → Int32) → (Nat → Nat → Int32) → Option (Int32 × MS)) (x1 : Int32) (x2 : Int32) (I : Nat → Int32) (A : Nat → Nat → Int32) : Option (Int32 × MS) :=
  m_if (x2 ≤ 0) (
  some (0, (I, A))
  ) (
  m_chk (¬ x2 = 0) (
  m_bnd (x1 / x2) (fun v1 =>
  m_bnd (v1 - v1 / (10 : Int32) * (10 : Int32)) (fun v2 =>
  m_bnd ((48 : Int32) + v2) (fun v3 =>
  m_bnd ((v3.toUInt32 % 65536).toInt32) (fun v4 =>
  m_cl (f_ink v4 I A) (fun r5 Ic5 Ac5 =>
  m_bnd (x2 / (10 : Int32)) (fun v6 =>
  self18 x1 v6 Ic5 Ac5)))))))
  )

set_option maxRecDepth 100000 in
set_option maxHeartbeats 4000000 in
theorem ws_sayNumber_18 {p : Program} {l : Launch} {e : Env} {s : State} {m : MethodId} {args : Array Value} {below : List Frame} {meth : Method} {c : Code} {Q : State → Prop} {D : va_G} {cy ci : ClassId} {h : Nat → Nat} {A0 : Nat → Prop} {o : Int32 × MS} (X : CallFix p m c cX12_sayNumber 3 s args wsX12_sayNumber RX12) (hret : mRv p l e ({ frames := 1, cells := 0, slots := 0, locals := 21 } : Room) s m args below meth c Q cX12_sayNumber D cy ci h A0 o) {self18 : Int32 → Int32 → (Nat → Int32) → (Nat → Nat → Int32) → Option (Int32 × MS)} (hself18 : ∀ (x1 : Int32) (x2 : Int32) (I : Nat → Int32) (A : Nat → Nat → Int32) (H : Heap) (locs : List Loc) (ls : Array Slot), self18 x1 x2 I A = some o → mH D cy ci h A0 s H locs I A → lv_has ls 3 [(0, .ref (h 0)), (1, .int x1), (2, .int x2)] → W p l e ({ frames := 1, cells := 0, slots := 0, locals := 21 } : Room) s m args below meth c H locs 0 0 Q (F0 m 18 ls [])) {x1 : Int32} {x2 : Int32} {I : Nat → Int32} {A : Nat → Nat → Int32} {H : Heap} {locs : List Loc} {ls : Array Slot} (hf : f_sayNumber_18s self18 x1 x2 I A = some o) (hM : mH D cy ci h A0 s H locs I A) (hl : lv_has ls 3 [(0, .ref (h 0)), (1, .int x1), (2, .int x2)]) : W p l e ({ frames := 1, cells := 0, slots := 0, locals := 21 } : Room) s m args below meth c H locs 0 0 Q (F0 m 18 ls []) := by
  obtain ⟨hx, hb, hml, hown, hts⟩ := id X
  unfold f_sayNumber_18s at hf
  refine lv_iload_n hx hb dX12_sayNumber_18 rfl (lv_at hl 2 rfl) ?_
  refine lv_if_le (tgt := 44) hx hb dX12_sayNumber_19 (by decide) (fun cc1 => ?_) (fun cc1 => ?_)
  · replace hf := m_ifT hf cc1
    cases hf
    exact hret H locs _ ls hM dX12_sayNumber_44
  · replace hf := m_ifF hf cc1
    refine lv_aload_n hx hb dX12_sayNumber_22 rfl (lv_at hl 0 rfl) ?_
    refine lv_bipush (v := (48 : Int32)) hx hb dX12_sayNumber_23 (by decide) ?_
    refine lv_iload_n hx hb dX12_sayNumber_25 rfl (lv_at hl 1 rfl) ?_
    refine lv_iload_n hx hb dX12_sayNumber_26 rfl (lv_at hl 2 rfl) ?_
    obtain ⟨cd, hf⟩ := m_chkE hf
    refine lv_idiv hx hb dX12_sayNumber_27 cd ?_
    obtain ⟨v1, ev, hf⟩ := m_bndE hf
    refine m_top ev ?_
    clear ev
    refine lv_bipush (v := (10 : Int32)) hx hb dX12_sayNumber_28 (by decide) ?_
    refine lv_irem hx hb dX12_sayNumber_30 (by decide) ?_
    obtain ⟨v2, ev, hf⟩ := m_bndE hf
    refine m_top ev ?_
    clear ev
    refine lv_iadd hx hb dX12_sayNumber_31 ?_
    obtain ⟨v3, ev, hf⟩ := m_bndE hf
    refine m_top ev ?_
    clear ev
    refine lv_i2c (v := (v3.toUInt32 % 65536).toInt32) hx hb dX12_sayNumber_32 rfl ?_
    obtain ⟨v4, ev, hf⟩ := m_bndE hf
    refine m_top ev ?_
    clear ev
    obtain ⟨o5, ho, hf⟩ := m_clE hf
    refine m_callVv X hM (c_ink ho) gX12_sayNumber_X12_ink rfl ⟨rfl, rfl⟩ hd_ink ⟨Nat.le_of_ble_eq_true rfl, Nat.le_of_ble_eq_true rfl⟩ rfl hl.1 rfl (Nat.le_of_ble_eq_true rfl) dX12_sayNumber_33 (fun H locs hM => ?_)
    clear ho
    refine lv_iload_n hx hb dX12_sayNumber_36 rfl (lv_at hl 2 rfl) ?_
    refine lv_bipush (v := (10 : Int32)) hx hb dX12_sayNumber_37 (by decide) ?_
    refine lv_idiv hx hb dX12_sayNumber_39 (by decide) ?_
    obtain ⟨v6, ev, hf⟩ := m_bndE hf
    refine m_top ev ?_
    clear ev
    refine lv_istore_n (lv' := [(2, .int v6), (0, .ref (h 0)), (1, .int x1)]) hx hb dX12_sayNumber_40 rfl hl (by decide) rfl (fun ls hl => ?_)
    refine lv_goto (tgt := 18) hx hb dX12_sayNumber_41 (by decide) ?_
    exact hself18 _ _ _ _ _ _ _ hf hM (lv_sub hl [1, 2, 0] rfl)
noncomputable def f_sayNumber_18 : Nat → Int32 → Int32 → (Nat → Int32) → (Nat → Nat → Int32) → Option (Int32 × MS)
  | 0 => fun _ _ _ _ => none
  | n + 1 => f_sayNumber_18s (f_sayNumber_18 n)
theorem w_sayNumber_18 {p : Program} {l : Launch} {e : Env} {s : State} {m : MethodId} {args : Array Value} {below : List Frame} {meth : Method} {c : Code} {Q : State → Prop} {D : va_G} {cy ci : ClassId} {h : Nat → Nat} {A0 : Nat → Prop} {o : Int32 × MS} (X : CallFix p m c cX12_sayNumber 3 s args wsX12_sayNumber RX12) (hret : mRv p l e ({ frames := 1, cells := 0, slots := 0, locals := 21 } : Room) s m args below meth c Q cX12_sayNumber D cy ci h A0 o) (n : Nat) : ∀ (x1 : Int32) (x2 : Int32) (I : Nat → Int32) (A : Nat → Nat → Int32) (H : Heap) (locs : List Loc) (ls : Array Slot), f_sayNumber_18 n x1 x2 I A = some o → mH D cy ci h A0 s H locs I A → lv_has ls 3 [(0, .ref (h 0)), (1, .int x1), (2, .int x2)] → W p l e ({ frames := 1, cells := 0, slots := 0, locals := 21 } : Room) s m args below meth c H locs 0 0 Q (F0 m 18 ls []) := by
  induction n with
  | zero => intro x1 x2 I A H locs ls hf; cases hf
  | succ n ih => intro x1 x2 I A H locs ls hf hM hl; exact ws_sayNumber_18 X hret (self18 := f_sayNumber_18 n) ih hf hM hl
noncomputable def f_sayNumber_2s (self2 : Int32 → Int32 → (Nat → Int32) → (Nat → Nat → Int32) → Option (Int32 × MS)) (x1 : Int32) (x2 : Int32) (I : Nat → Int32) (A : Nat → Nat → Int32) : Option (Int32 × MS) :=
  m_bnd (x2 * (10 : Int32)) (fun v1 =>
  m_if (x1 < v1) (
  f_sayNumber_18 mFuel x1 x2 I A
  ) (
  m_bnd (x2 * (10 : Int32)) (fun v2 =>
  self2 x1 v2 I A)
  ))

set_option maxRecDepth 100000 in
set_option maxHeartbeats 4000000 in
theorem ws_sayNumber_2 {p : Program} {l : Launch} {e : Env} {s : State} {m : MethodId} {args : Array Value} {below : List Frame} {meth : Method} {c : Code} {Q : State → Prop} {D : va_G} {cy ci : ClassId} {h : Nat → Nat} {A0 : Nat → Prop} {o : Int32 × MS} (X : CallFix p m c cX12_sayNumber 3 s args wsX12_sayNumber RX12) (hret : mRv p l e ({ frames := 1, cells := 0, slots := 0, locals := 21 } : Room) s m args below meth c Q cX12_sayNumber D cy ci h A0 o) {self2 : Int32 → Int32 → (Nat → Int32) → (Nat → Nat → Int32) → Option (Int32 × MS)} (hself2 : ∀ (x1 : Int32) (x2 : Int32) (I : Nat → Int32) (A : Nat → Nat → Int32) (H : Heap) (locs : List Loc) (ls : Array Slot), self2 x1 x2 I A = some o → mH D cy ci h A0 s H locs I A → lv_has ls 3 [(0, .ref (h 0)), (1, .int x1), (2, .int x2)] → W p l e ({ frames := 1, cells := 0, slots := 0, locals := 21 } : Room) s m args below meth c H locs 0 0 Q (F0 m 2 ls [])) {x1 : Int32} {x2 : Int32} {I : Nat → Int32} {A : Nat → Nat → Int32} {H : Heap} {locs : List Loc} {ls : Array Slot} (hf : f_sayNumber_2s self2 x1 x2 I A = some o) (hM : mH D cy ci h A0 s H locs I A) (hl : lv_has ls 3 [(0, .ref (h 0)), (1, .int x1), (2, .int x2)]) : W p l e ({ frames := 1, cells := 0, slots := 0, locals := 21 } : Room) s m args below meth c H locs 0 0 Q (F0 m 2 ls []) := by
  obtain ⟨hx, hb, hml, hown, hts⟩ := id X
  unfold f_sayNumber_2s at hf
  refine lv_iload_n hx hb dX12_sayNumber_2 rfl (lv_at hl 2 rfl) ?_
  refine lv_bipush (v := (10 : Int32)) hx hb dX12_sayNumber_3 (by decide) ?_
  refine lv_imul hx hb dX12_sayNumber_5 ?_
  obtain ⟨v1, ev, hf⟩ := m_bndE hf
  refine m_top ev ?_
  clear ev
  refine lv_iload_n hx hb dX12_sayNumber_6 rfl (lv_at hl 1 rfl) ?_
  refine lv_icmp_gt (tgt := 18) hx hb dX12_sayNumber_7 (by decide) (fun cc1 => ?_) (fun cc1 => ?_)
  · replace hf := m_ifT hf cc1
    exact w_sayNumber_18 X hret _ _ _ _ _ _ _ _ hf hM (lv_sub hl [0, 1, 2] rfl)
  · replace hf := m_ifF hf cc1
    refine lv_iload_n hx hb dX12_sayNumber_10 rfl (lv_at hl 2 rfl) ?_
    refine lv_bipush (v := (10 : Int32)) hx hb dX12_sayNumber_11 (by decide) ?_
    refine lv_imul hx hb dX12_sayNumber_13 ?_
    obtain ⟨v2, ev, hf⟩ := m_bndE hf
    refine m_top ev ?_
    clear ev
    refine lv_istore_n (lv' := [(2, .int v2), (0, .ref (h 0)), (1, .int x1)]) hx hb dX12_sayNumber_14 rfl hl (by decide) rfl (fun ls hl => ?_)
    refine lv_goto (tgt := 2) hx hb dX12_sayNumber_15 (by decide) ?_
    exact hself2 _ _ _ _ _ _ _ hf hM (lv_sub hl [1, 2, 0] rfl)
noncomputable def f_sayNumber_2 : Nat → Int32 → Int32 → (Nat → Int32) → (Nat → Nat → Int32) → Option (Int32 × MS)
  | 0 => fun _ _ _ _ => none
  | n + 1 => f_sayNumber_2s (f_sayNumber_2 n)
theorem w_sayNumber_2 {p : Program} {l : Launch} {e : Env} {s : State} {m : MethodId} {args : Array Value} {below : List Frame} {meth : Method} {c : Code} {Q : State → Prop} {D : va_G} {cy ci : ClassId} {h : Nat → Nat} {A0 : Nat → Prop} {o : Int32 × MS} (X : CallFix p m c cX12_sayNumber 3 s args wsX12_sayNumber RX12) (hret : mRv p l e ({ frames := 1, cells := 0, slots := 0, locals := 21 } : Room) s m args below meth c Q cX12_sayNumber D cy ci h A0 o) (n : Nat) : ∀ (x1 : Int32) (x2 : Int32) (I : Nat → Int32) (A : Nat → Nat → Int32) (H : Heap) (locs : List Loc) (ls : Array Slot), f_sayNumber_2 n x1 x2 I A = some o → mH D cy ci h A0 s H locs I A → lv_has ls 3 [(0, .ref (h 0)), (1, .int x1), (2, .int x2)] → W p l e ({ frames := 1, cells := 0, slots := 0, locals := 21 } : Room) s m args below meth c H locs 0 0 Q (F0 m 2 ls []) := by
  induction n with
  | zero => intro x1 x2 I A H locs ls hf; cases hf
  | succ n ih => intro x1 x2 I A H locs ls hf hM hl; exact ws_sayNumber_2 X hret (self2 := f_sayNumber_2 n) ih hf hM hl
noncomputable def f_sayNumber_0 (x1 : Int32) (I : Nat → Int32) (A : Nat → Nat → Int32) : Option (Int32 × MS) :=
  f_sayNumber_2 mFuel x1 (1 : Int32) I A

set_option maxRecDepth 100000 in
set_option maxHeartbeats 4000000 in
theorem w_sayNumber_0 {p : Program} {l : Launch} {e : Env} {s : State} {m : MethodId} {args : Array Value} {below : List Frame} {meth : Method} {c : Code} {Q : State → Prop} {D : va_G} {cy ci : ClassId} {h : Nat → Nat} {A0 : Nat → Prop} {o : Int32 × MS} (X : CallFix p m c cX12_sayNumber 3 s args wsX12_sayNumber RX12) (hret : mRv p l e ({ frames := 1, cells := 0, slots := 0, locals := 21 } : Room) s m args below meth c Q cX12_sayNumber D cy ci h A0 o) {x1 : Int32} {I : Nat → Int32} {A : Nat → Nat → Int32} {H : Heap} {locs : List Loc} {ls : Array Slot} (hf : f_sayNumber_0 x1 I A = some o) (hM : mH D cy ci h A0 s H locs I A) (hl : lv_has ls 3 [(0, .ref (h 0)), (1, .int x1)]) : W p l e ({ frames := 1, cells := 0, slots := 0, locals := 21 } : Room) s m args below meth c H locs 0 0 Q (F0 m 0 ls []) := by
  obtain ⟨hx, hb, hml, hown, hts⟩ := id X
  unfold f_sayNumber_0 at hf
  refine lv_iconst (v := (1 : Int32)) hx hb dX12_sayNumber_0 (by decide) ?_
  refine lv_istore_n (lv' := [(2, .int (1 : Int32)), (0, .ref (h 0)), (1, .int x1)]) hx hb dX12_sayNumber_1 rfl hl (by decide) rfl (fun ls hl => ?_)
  exact w_sayNumber_2 X hret _ _ _ _ _ _ _ _ hf hM (lv_sub hl [1, 2, 0] rfl)
noncomputable def f_sayNumber (x1 : Int32) (I : Nat → Int32) (A : Nat → Nat → Int32) : Option (Int32 × MS) := f_sayNumber_0 x1 I A
theorem c_sayNumber {l : Launch} {D : va_G} {cy ci : ClassId} {h : Nat → Nat} {x1 : Int32} {I : Nat → Int32} {A : Nat → Nat → Int32} {o : Int32 × MS} (hf : f_sayNumber x1 I A = some o) : mMv l yX12_sayNumber wsX12_sayNumber ({ frames := 1, cells := 0, slots := 0, locals := 21 } : Room) [.ref (h 0), .int x1] D cy ci h I A o :=
  m_entryV (cc := cX12_sayNumber) (maxL := 3) (by decide) rfl rfl (Nat.le_of_ble_eq_true rfl) (fun p e s m args below meth c A0 Q H locs ls X hret hM hl => w_sayNumber_0 X hret hf hM (lv_sub hl [0, 1] rfl))
theorem hw_sayRemark : ∀ w ∈ wsX120, w ∈ wsX12_sayRemark := by decide +kernel
theorem fl_sayRemark_14 : Cond.fieldLink RX12 39 "MoveTextsModel" "remarkSize" "[I" ∈ wsX12_sayRemark := by decide +kernel
theorem fl_sayRemark_15 : Cond.fieldLink RX12 43 "MoveTextsModel" "remarks" "[C" ∈ wsX12_sayRemark := by decide +kernel
theorem hd_sayRemark : yX12_sayRemark.cls = RX12 ∧ yX12_sayRemark.cls ≠ "java/lang/invoke/MethodHandle" ∧ yX12_sayRemark.cls ≠ "java/lang/invoke/VarHandle" ∧ (parseMethodDescriptor yX12_sayRemark.desc).map (fun d => d.parameters.length) = some 1 := by decide +kernel
noncomputable def f_sayRemark_8s (self8 : Int32 → Int32 → (Nat → Int32) → (Nat → Nat → Int32) → Option (Int32 × MS)) (x1 : Int32) (x2 : Int32) (I : Nat → Int32) (A : Nat → Nat → Int32) : Option (Int32 × MS) :=
  m_chk (¬ (x1 < 0 ∨ 602 ≤ (x1).toNatClampNeg)) (
  m_bnd (A 14 (x1).toNatClampNeg) (fun v1 =>
  m_if (v1 ≤ x2) (
  m_cl (f_ink (125 : Int32) I A) (fun r2 Ic2 Ac2 =>
  some (0, (Ic2, Ac2)))
  ) (
  m_bnd ((200 : Int32) * x1) (fun v3 =>
  m_bnd (v3 + x2) (fun v4 =>
  m_chk (¬ (v4 < 0 ∨ 120400 ≤ (v4).toNatClampNeg)) (
  m_bnd (A 15 (v4).toNatClampNeg) (fun v5 =>
  m_cl (f_ink v5 I A) (fun r6 Ic6 Ac6 =>
  m_bnd (x2 + (1 : Int32)) (fun v7 =>
  self8 x1 v7 Ic6 Ac6))))))
  )))

set_option maxRecDepth 100000 in
set_option maxHeartbeats 4000000 in
theorem ws_sayRemark_8 {p : Program} {l : Launch} {e : Env} {s : State} {m : MethodId} {args : Array Value} {below : List Frame} {meth : Method} {c : Code} {Q : State → Prop} {D : va_G} {cy ci : ClassId} {h : Nat → Nat} {A0 : Nat → Prop} {o : Int32 × MS} (X : CallFix p m c cX12_sayRemark 3 s args wsX12_sayRemark RX12) (hret : mRv p l e ({ frames := 1, cells := 0, slots := 0, locals := 21 } : Room) s m args below meth c Q cX12_sayRemark D cy ci h A0 o) {self8 : Int32 → Int32 → (Nat → Int32) → (Nat → Nat → Int32) → Option (Int32 × MS)} (hself8 : ∀ (x1 : Int32) (x2 : Int32) (I : Nat → Int32) (A : Nat → Nat → Int32) (H : Heap) (locs : List Loc) (ls : Array Slot), self8 x1 x2 I A = some o → mH D cy ci h A0 s H locs I A → lv_has ls 3 [(0, .ref (h 0)), (1, .int x1), (2, .int x2)] → W p l e ({ frames := 1, cells := 0, slots := 0, locals := 21 } : Room) s m args below meth c H locs 0 0 Q (F0 m 8 ls [])) {x1 : Int32} {x2 : Int32} {I : Nat → Int32} {A : Nat → Nat → Int32} {H : Heap} {locs : List Loc} {ls : Array Slot} (hf : f_sayRemark_8s self8 x1 x2 I A = some o) (hM : mH D cy ci h A0 s H locs I A) (hl : lv_has ls 3 [(0, .ref (h 0)), (1, .int x1), (2, .int x2)]) : W p l e ({ frames := 1, cells := 0, slots := 0, locals := 21 } : Room) s m args below meth c H locs 0 0 Q (F0 m 8 ls []) := by
  obtain ⟨hx, hb, hml, hown, hts⟩ := id X
  unfold f_sayRemark_8s at hf
  refine lv_iload_n hx hb dX12_sayRemark_8 rfl (lv_at hl 2 rfl) ?_
  refine lv_aload_n hx hb dX12_sayRemark_9 rfl (lv_at hl 0 rfl) ?_
  refine m_get (v := .ref (h 14)) X hw_sayRemark hM 14 (by decide) fl_sayRemark_14 rfl dX12_sayRemark_10 ?_
  refine lv_iload_n hx hb dX12_sayRemark_13 rfl (lv_at hl 1 rfl) ?_
  obtain ⟨cd, hf⟩ := m_chkE hf
  refine m_iald X hM 14 10 602 rfl cd dX12_sayRemark_14 ?_
  clear cd
  obtain ⟨v1, ev, hf⟩ := m_bndE hf
  refine m_top ev ?_
  clear ev
  refine lv_icmp_ge (tgt := 40) hx hb dX12_sayRemark_15 (by decide) (fun cc1 => ?_) (fun cc1 => ?_)
  · replace hf := m_ifT hf cc1
    refine lv_aload_n hx hb dX12_sayRemark_40 rfl (lv_at hl 0 rfl) ?_
    refine lv_bipush (v := (125 : Int32)) hx hb dX12_sayRemark_41 (by decide) ?_
    obtain ⟨o2, ho, hf⟩ := m_clE hf
    refine m_callVv X hM (c_ink ho) gX12_sayRemark_X12_ink rfl ⟨rfl, rfl⟩ hd_ink ⟨Nat.le_of_ble_eq_true rfl, Nat.le_of_ble_eq_true rfl⟩ rfl hl.1 rfl (Nat.le_of_ble_eq_true rfl) dX12_sayRemark_43 (fun H locs hM => ?_)
    clear ho
    cases hf
    exact hret H locs _ ls hM dX12_sayRemark_46
  · replace hf := m_ifF hf cc1
    refine lv_aload_n hx hb dX12_sayRemark_18 rfl (lv_at hl 0 rfl) ?_
    refine lv_aload_n hx hb dX12_sayRemark_19 rfl (lv_at hl 0 rfl) ?_
    refine m_get (v := .ref (h 15)) X hw_sayRemark hM 15 (by decide) fl_sayRemark_15 rfl dX12_sayRemark_20 ?_
    refine lv_sipush (v := (200 : Int32)) hx hb dX12_sayRemark_23 (by decide) ?_
    refine lv_iload_n hx hb dX12_sayRemark_26 rfl (lv_at hl 1 rfl) ?_
    refine lv_imul hx hb dX12_sayRemark_27 ?_
    obtain ⟨v3, ev, hf⟩ := m_bndE hf
    refine m_top ev ?_
    clear ev
    refine lv_iload_n hx hb dX12_sayRemark_28 rfl (lv_at hl 2 rfl) ?_
    refine lv_iadd hx hb dX12_sayRemark_29 ?_
    obtain ⟨v4, ev, hf⟩ := m_bndE hf
    refine m_top ev ?_
    clear ev
    obtain ⟨cd, hf⟩ := m_chkE hf
    refine m_cald X hM 15 11 120400 rfl cd dX12_sayRemark_30 ?_
    clear cd
    obtain ⟨v5, ev, hf⟩ := m_bndE hf
    refine m_top ev ?_
    clear ev
    obtain ⟨o6, ho, hf⟩ := m_clE hf
    refine m_callVv X hM (c_ink ho) gX12_sayRemark_X12_ink rfl ⟨rfl, rfl⟩ hd_ink ⟨Nat.le_of_ble_eq_true rfl, Nat.le_of_ble_eq_true rfl⟩ rfl hl.1 rfl (Nat.le_of_ble_eq_true rfl) dX12_sayRemark_31 (fun H locs hM => ?_)
    clear ho
    obtain ⟨v7, ev, hf⟩ := m_bndE hf
    refine lv_iinc (v := v7) (lv' := [(2, .int v7), (0, .ref (h 0)), (1, .int x1)]) hx hb dX12_sayRemark_34 hl (k := 2) rfl (by rw [ev]; rfl) (by decide) rfl (fun ls hl => ?_)
    clear ev
    refine lv_goto (tgt := 8) hx hb dX12_sayRemark_37 (by decide) ?_
    exact hself8 _ _ _ _ _ _ _ hf hM (lv_sub hl [1, 2, 0] rfl)
noncomputable def f_sayRemark_8 : Nat → Int32 → Int32 → (Nat → Int32) → (Nat → Nat → Int32) → Option (Int32 × MS)
  | 0 => fun _ _ _ _ => none
  | n + 1 => f_sayRemark_8s (f_sayRemark_8 n)
theorem w_sayRemark_8 {p : Program} {l : Launch} {e : Env} {s : State} {m : MethodId} {args : Array Value} {below : List Frame} {meth : Method} {c : Code} {Q : State → Prop} {D : va_G} {cy ci : ClassId} {h : Nat → Nat} {A0 : Nat → Prop} {o : Int32 × MS} (X : CallFix p m c cX12_sayRemark 3 s args wsX12_sayRemark RX12) (hret : mRv p l e ({ frames := 1, cells := 0, slots := 0, locals := 21 } : Room) s m args below meth c Q cX12_sayRemark D cy ci h A0 o) (n : Nat) : ∀ (x1 : Int32) (x2 : Int32) (I : Nat → Int32) (A : Nat → Nat → Int32) (H : Heap) (locs : List Loc) (ls : Array Slot), f_sayRemark_8 n x1 x2 I A = some o → mH D cy ci h A0 s H locs I A → lv_has ls 3 [(0, .ref (h 0)), (1, .int x1), (2, .int x2)] → W p l e ({ frames := 1, cells := 0, slots := 0, locals := 21 } : Room) s m args below meth c H locs 0 0 Q (F0 m 8 ls []) := by
  induction n with
  | zero => intro x1 x2 I A H locs ls hf; cases hf
  | succ n ih => intro x1 x2 I A H locs ls hf hM hl; exact ws_sayRemark_8 X hret (self8 := f_sayRemark_8 n) ih hf hM hl
noncomputable def f_sayRemark_0 (x1 : Int32) (I : Nat → Int32) (A : Nat → Nat → Int32) : Option (Int32 × MS) :=
  m_cl (f_ink (123 : Int32) I A) (fun r1 Ic1 Ac1 =>
  f_sayRemark_8 mFuel x1 (0 : Int32) Ic1 Ac1)

set_option maxRecDepth 100000 in
set_option maxHeartbeats 4000000 in
theorem w_sayRemark_0 {p : Program} {l : Launch} {e : Env} {s : State} {m : MethodId} {args : Array Value} {below : List Frame} {meth : Method} {c : Code} {Q : State → Prop} {D : va_G} {cy ci : ClassId} {h : Nat → Nat} {A0 : Nat → Prop} {o : Int32 × MS} (X : CallFix p m c cX12_sayRemark 3 s args wsX12_sayRemark RX12) (hret : mRv p l e ({ frames := 1, cells := 0, slots := 0, locals := 21 } : Room) s m args below meth c Q cX12_sayRemark D cy ci h A0 o) {x1 : Int32} {I : Nat → Int32} {A : Nat → Nat → Int32} {H : Heap} {locs : List Loc} {ls : Array Slot} (hf : f_sayRemark_0 x1 I A = some o) (hM : mH D cy ci h A0 s H locs I A) (hl : lv_has ls 3 [(0, .ref (h 0)), (1, .int x1)]) : W p l e ({ frames := 1, cells := 0, slots := 0, locals := 21 } : Room) s m args below meth c H locs 0 0 Q (F0 m 0 ls []) := by
  obtain ⟨hx, hb, hml, hown, hts⟩ := id X
  unfold f_sayRemark_0 at hf
  refine lv_aload_n hx hb dX12_sayRemark_0 rfl (lv_at hl 0 rfl) ?_
  refine lv_bipush (v := (123 : Int32)) hx hb dX12_sayRemark_1 (by decide) ?_
  obtain ⟨o1, ho, hf⟩ := m_clE hf
  refine m_callVv X hM (c_ink ho) gX12_sayRemark_X12_ink rfl ⟨rfl, rfl⟩ hd_ink ⟨Nat.le_of_ble_eq_true rfl, Nat.le_of_ble_eq_true rfl⟩ rfl hl.1 rfl (Nat.le_of_ble_eq_true rfl) dX12_sayRemark_3 (fun H locs hM => ?_)
  clear ho
  refine lv_iconst (v := (0 : Int32)) hx hb dX12_sayRemark_6 (by decide) ?_
  refine lv_istore_n (lv' := [(2, .int (0 : Int32)), (0, .ref (h 0)), (1, .int x1)]) hx hb dX12_sayRemark_7 rfl hl (by decide) rfl (fun ls hl => ?_)
  exact w_sayRemark_8 X hret _ _ _ _ _ _ _ _ hf hM (lv_sub hl [1, 2, 0] rfl)
noncomputable def f_sayRemark (x1 : Int32) (I : Nat → Int32) (A : Nat → Nat → Int32) : Option (Int32 × MS) := f_sayRemark_0 x1 I A
theorem c_sayRemark {l : Launch} {D : va_G} {cy ci : ClassId} {h : Nat → Nat} {x1 : Int32} {I : Nat → Int32} {A : Nat → Nat → Int32} {o : Int32 × MS} (hf : f_sayRemark x1 I A = some o) : mMv l yX12_sayRemark wsX12_sayRemark ({ frames := 1, cells := 0, slots := 0, locals := 21 } : Room) [.ref (h 0), .int x1] D cy ci h I A o :=
  m_entryV (cc := cX12_sayRemark) (maxL := 3) (by decide) rfl rfl (Nat.le_of_ble_eq_true rfl) (fun p e s m args below meth c A0 Q H locs ls X hret hM hl => w_sayRemark_0 X hret hf hM (lv_sub hl [0, 1] rfl))
theorem hw_sayMove : ∀ w ∈ wsX120, w ∈ wsX12_sayMove := by decide +kernel
theorem fl_sayMove_5 : Cond.fieldLink RX12 347 "MoveTextsModel" "game" "I" ∈ wsX12_sayMove := by decide +kernel
theorem fl_sayMove_8 : Cond.fieldLink RX12 21 "MoveTextsModel" "parent" "[I" ∈ wsX12_sayMove := by decide +kernel
theorem fl_sayMove_9 : Cond.fieldLink RX12 24 "MoveTextsModel" "moveOf" "[I" ∈ wsX12_sayMove := by decide +kernel
theorem fl_sayMove_12 : Cond.fieldLink RX12 33 "MoveTextsModel" "markCount" "[I" ∈ wsX12_sayMove := by decide +kernel
theorem fl_sayMove_13 : Cond.fieldLink RX12 36 "MoveTextsModel" "marks" "[I" ∈ wsX12_sayMove := by decide +kernel
theorem fl_sayMove_14 : Cond.fieldLink RX12 39 "MoveTextsModel" "remarkSize" "[I" ∈ wsX12_sayMove := by decide +kernel
theorem fl_sayMove_25 : Cond.fieldLink RX12 121 "MoveTextsModel" "side" "I" ∈ wsX12_sayMove := by decide +kernel
theorem fl_sayMove_29 : Cond.fieldLink RX12 133 "MoveTextsModel" "number" "I" ∈ wsX12_sayMove := by decide +kernel
theorem fl_sayMove_35 : Cond.fieldLink RX12 85 "MoveTextsModel" "spelled" "[C" ∈ wsX12_sayMove := by decide +kernel
theorem fl_sayMove_36 : Cond.fieldLink RX12 191 "MoveTextsModel" "spelledSize" "I" ∈ wsX12_sayMove := by decide +kernel
theorem hd_sayMove : yX12_sayMove.cls = RX12 ∧ yX12_sayMove.cls ≠ "java/lang/invoke/MethodHandle" ∧ yX12_sayMove.cls ≠ "java/lang/invoke/VarHandle" ∧ (parseMethodDescriptor yX12_sayMove.desc).map (fun d => d.parameters.length) = some 2 := by decide +kernel
noncomputable def f_sayMove_188 (I : Nat → Int32) (A : Nat → Nat → Int32) : Option (Int32 × MS) :=
  some (0, (I, A))

set_option maxRecDepth 100000 in
set_option maxHeartbeats 4000000 in
theorem w_sayMove_188 {p : Program} {l : Launch} {e : Env} {s : State} {m : MethodId} {args : Array Value} {below : List Frame} {meth : Method} {c : Code} {Q : State → Prop} {D : va_G} {cy ci : ClassId} {h : Nat → Nat} {A0 : Nat → Prop} {o : Int32 × MS} (X : CallFix p m c cX12_sayMove 5 s args wsX12_sayMove RX12) (hret : mRv p l e ({ frames := 7, cells := 0, slots := 0, locals := 181 } : Room) s m args below meth c Q cX12_sayMove D cy ci h A0 o) {I : Nat → Int32} {A : Nat → Nat → Int32} {H : Heap} {locs : List Loc} {ls : Array Slot} (hf : f_sayMove_188  I A = some o) (hM : mH D cy ci h A0 s H locs I A) (hl : lv_has ls 5 []) : W p l e ({ frames := 7, cells := 0, slots := 0, locals := 181 } : Room) s m args below meth c H locs 0 0 Q (F0 m 188 ls []) := by
  obtain ⟨hx, hb, hml, hown, hts⟩ := id X
  unfold f_sayMove_188 at hf
  cases hf
  exact hret H locs _ ls hM dX12_sayMove_188
noncomputable def f_sayMove_124s (self124 : Int32 → Int32 → (Nat → Int32) → (Nat → Nat → Int32) → Option (Int32 × MS)) (x3 : Int32) (x4 : Int32) (I : Nat → Int32) (A : Nat → Nat → Int32) : Option (Int32 × MS) :=
  m_chk (¬ (x3 < 0 ∨ 602 ≤ (x3).toNatClampNeg)) (
  m_bnd (A 12 (x3).toNatClampNeg) (fun v1 =>
  m_if (v1 ≤ x4) (
  m_chk (¬ (x3 < 0 ∨ 602 ≤ (x3).toNatClampNeg)) (
  m_bnd (A 14 (x3).toNatClampNeg) (fun v2 =>
  m_if (v2 ≤ 0) (
  f_sayMove_188  I A
  ) (
  m_cl (f_ink (32 : Int32) I A) (fun r3 Ic3 Ac3 =>
  m_cl (f_sayRemark x3 Ic3 Ac3) (fun r4 Ic4 Ac4 =>
  f_sayMove_188  Ic4 Ac4))
  )))
  ) (
  m_cl (f_ink (32 : Int32) I A) (fun r5 Ic5 Ac5 =>
  m_cl (f_ink (36 : Int32) Ic5 Ac5) (fun r6 Ic6 Ac6 =>
  m_bnd ((4 : Int32) * x3) (fun v7 =>
  m_bnd (v7 + x4) (fun v8 =>
  m_chk (¬ (v8 < 0 ∨ 2408 ≤ (v8).toNatClampNeg)) (
  m_bnd (Ac6 13 (v8).toNatClampNeg) (fun v9 =>
  m_cl (f_sayNumber v9 Ic6 Ac6) (fun r10 Ic10 Ac10 =>
  m_bnd (x4 + (1 : Int32)) (fun v11 =>
  self124 x3 v11 Ic10 Ac10))))))))
  )))

set_option maxRecDepth 100000 in
set_option maxHeartbeats 4000000 in
theorem ws_sayMove_124 {p : Program} {l : Launch} {e : Env} {s : State} {m : MethodId} {args : Array Value} {below : List Frame} {meth : Method} {c : Code} {Q : State → Prop} {D : va_G} {cy ci : ClassId} {h : Nat → Nat} {A0 : Nat → Prop} {o : Int32 × MS} (X : CallFix p m c cX12_sayMove 5 s args wsX12_sayMove RX12) (hret : mRv p l e ({ frames := 7, cells := 0, slots := 0, locals := 181 } : Room) s m args below meth c Q cX12_sayMove D cy ci h A0 o) {self124 : Int32 → Int32 → (Nat → Int32) → (Nat → Nat → Int32) → Option (Int32 × MS)} (hself124 : ∀ (x3 : Int32) (x4 : Int32) (I : Nat → Int32) (A : Nat → Nat → Int32) (H : Heap) (locs : List Loc) (ls : Array Slot), self124 x3 x4 I A = some o → mH D cy ci h A0 s H locs I A → lv_has ls 5 [(0, .ref (h 0)), (3, .int x3), (4, .int x4)] → W p l e ({ frames := 7, cells := 0, slots := 0, locals := 181 } : Room) s m args below meth c H locs 0 0 Q (F0 m 124 ls [])) {x3 : Int32} {x4 : Int32} {I : Nat → Int32} {A : Nat → Nat → Int32} {H : Heap} {locs : List Loc} {ls : Array Slot} (hf : f_sayMove_124s self124 x3 x4 I A = some o) (hM : mH D cy ci h A0 s H locs I A) (hl : lv_has ls 5 [(0, .ref (h 0)), (3, .int x3), (4, .int x4)]) : W p l e ({ frames := 7, cells := 0, slots := 0, locals := 181 } : Room) s m args below meth c H locs 0 0 Q (F0 m 124 ls []) := by
  obtain ⟨hx, hb, hml, hown, hts⟩ := id X
  unfold f_sayMove_124s at hf
  refine lv_iload hx hb dX12_sayMove_124 (lv_at hl 2 rfl) ?_
  refine lv_aload_n hx hb dX12_sayMove_126 rfl (lv_at hl 0 rfl) ?_
  refine m_get (v := .ref (h 12)) X hw_sayMove hM 12 (by decide) fl_sayMove_12 rfl dX12_sayMove_127 ?_
  refine lv_iload_n hx hb dX12_sayMove_130 rfl (lv_at hl 1 rfl) ?_
  obtain ⟨cd, hf⟩ := m_chkE hf
  refine m_iald X hM 12 8 602 rfl cd dX12_sayMove_131 ?_
  clear cd
  obtain ⟨v1, ev, hf⟩ := m_bndE hf
  refine m_top ev ?_
  clear ev
  refine lv_icmp_ge (tgt := 168) hx hb dX12_sayMove_132 (by decide) (fun cc1 => ?_) (fun cc1 => ?_)
  · replace hf := m_ifT hf cc1
    refine lv_aload_n hx hb dX12_sayMove_168 rfl (lv_at hl 0 rfl) ?_
    refine m_get (v := .ref (h 14)) X hw_sayMove hM 14 (by decide) fl_sayMove_14 rfl dX12_sayMove_169 ?_
    refine lv_iload_n hx hb dX12_sayMove_172 rfl (lv_at hl 1 rfl) ?_
    obtain ⟨cd, hf⟩ := m_chkE hf
    refine m_iald X hM 14 10 602 rfl cd dX12_sayMove_173 ?_
    clear cd
    obtain ⟨v2, ev, hf⟩ := m_bndE hf
    refine m_top ev ?_
    clear ev
    refine lv_if_le (tgt := 188) hx hb dX12_sayMove_174 (by decide) (fun cc1 => ?_) (fun cc1 => ?_)
    · replace hf := m_ifT hf cc1
      exact w_sayMove_188 X hret hf hM (lv_sub hl [] rfl)
    · replace hf := m_ifF hf cc1
      refine lv_aload_n hx hb dX12_sayMove_177 rfl (lv_at hl 0 rfl) ?_
      refine lv_bipush (v := (32 : Int32)) hx hb dX12_sayMove_178 (by decide) ?_
      obtain ⟨o3, ho, hf⟩ := m_clE hf
      refine m_callVv X hM (c_ink ho) gX12_sayMove_X12_ink rfl ⟨rfl, rfl⟩ hd_ink ⟨Nat.le_of_ble_eq_true rfl, Nat.le_of_ble_eq_true rfl⟩ rfl hl.1 rfl (Nat.le_of_ble_eq_true rfl) dX12_sayMove_180 (fun H locs hM => ?_)
      clear ho
      refine lv_aload_n hx hb dX12_sayMove_183 rfl (lv_at hl 0 rfl) ?_
      refine lv_iload_n hx hb dX12_sayMove_184 rfl (lv_at hl 1 rfl) ?_
      obtain ⟨o4, ho, hf⟩ := m_clE hf
      refine m_callVv X hM (c_sayRemark ho) gX12_sayMove_X12_sayRemark rfl ⟨rfl, rfl⟩ hd_sayRemark ⟨Nat.le_of_ble_eq_true rfl, Nat.le_of_ble_eq_true rfl⟩ rfl hl.1 rfl (Nat.le_of_ble_eq_true rfl) dX12_sayMove_185 (fun H locs hM => ?_)
      clear ho
      exact w_sayMove_188 X hret hf hM (lv_sub hl [] rfl)
  · replace hf := m_ifF hf cc1
    refine lv_aload_n hx hb dX12_sayMove_135 rfl (lv_at hl 0 rfl) ?_
    refine lv_bipush (v := (32 : Int32)) hx hb dX12_sayMove_136 (by decide) ?_
    obtain ⟨o5, ho, hf⟩ := m_clE hf
    refine m_callVv X hM (c_ink ho) gX12_sayMove_X12_ink rfl ⟨rfl, rfl⟩ hd_ink ⟨Nat.le_of_ble_eq_true rfl, Nat.le_of_ble_eq_true rfl⟩ rfl hl.1 rfl (Nat.le_of_ble_eq_true rfl) dX12_sayMove_138 (fun H locs hM => ?_)
    clear ho
    refine lv_aload_n hx hb dX12_sayMove_141 rfl (lv_at hl 0 rfl) ?_
    refine lv_bipush (v := (36 : Int32)) hx hb dX12_sayMove_142 (by decide) ?_
    obtain ⟨o6, ho, hf⟩ := m_clE hf
    refine m_callVv X hM (c_ink ho) gX12_sayMove_X12_ink rfl ⟨rfl, rfl⟩ hd_ink ⟨Nat.le_of_ble_eq_true rfl, Nat.le_of_ble_eq_true rfl⟩ rfl hl.1 rfl (Nat.le_of_ble_eq_true rfl) dX12_sayMove_144 (fun H locs hM => ?_)
    clear ho
    refine lv_aload_n hx hb dX12_sayMove_147 rfl (lv_at hl 0 rfl) ?_
    refine lv_aload_n hx hb dX12_sayMove_148 rfl (lv_at hl 0 rfl) ?_
    refine m_get (v := .ref (h 13)) X hw_sayMove hM 13 (by decide) fl_sayMove_13 rfl dX12_sayMove_149 ?_
    refine lv_iconst (v := (4 : Int32)) hx hb dX12_sayMove_152 (by decide) ?_
    refine lv_iload_n hx hb dX12_sayMove_153 rfl (lv_at hl 1 rfl) ?_
    refine lv_imul hx hb dX12_sayMove_154 ?_
    obtain ⟨v7, ev, hf⟩ := m_bndE hf
    refine m_top ev ?_
    clear ev
    refine lv_iload hx hb dX12_sayMove_155 (lv_at hl 2 rfl) ?_
    refine lv_iadd hx hb dX12_sayMove_157 ?_
    obtain ⟨v8, ev, hf⟩ := m_bndE hf
    refine m_top ev ?_
    clear ev
    obtain ⟨cd, hf⟩ := m_chkE hf
    refine m_iald X hM 13 9 2408 rfl cd dX12_sayMove_158 ?_
    clear cd
    obtain ⟨v9, ev, hf⟩ := m_bndE hf
    refine m_top ev ?_
    clear ev
    obtain ⟨o10, ho, hf⟩ := m_clE hf
    refine m_callVv X hM (c_sayNumber ho) gX12_sayMove_X12_sayNumber rfl ⟨rfl, rfl⟩ hd_sayNumber ⟨Nat.le_of_ble_eq_true rfl, Nat.le_of_ble_eq_true rfl⟩ rfl hl.1 rfl (Nat.le_of_ble_eq_true rfl) dX12_sayMove_159 (fun H locs hM => ?_)
    clear ho
    obtain ⟨v11, ev, hf⟩ := m_bndE hf
    refine lv_iinc (v := v11) (lv' := [(4, .int v11), (0, .ref (h 0)), (3, .int x3)]) hx hb dX12_sayMove_162 hl (k := 2) rfl (by rw [ev]; rfl) (by decide) rfl (fun ls hl => ?_)
    clear ev
    refine lv_goto (tgt := 124) hx hb dX12_sayMove_165 (by decide) ?_
    exact hself124 _ _ _ _ _ _ _ hf hM (lv_sub hl [1, 2, 0] rfl)
noncomputable def f_sayMove_124 : Nat → Int32 → Int32 → (Nat → Int32) → (Nat → Nat → Int32) → Option (Int32 × MS)
  | 0 => fun _ _ _ _ => none
  | n + 1 => f_sayMove_124s (f_sayMove_124 n)
theorem w_sayMove_124 {p : Program} {l : Launch} {e : Env} {s : State} {m : MethodId} {args : Array Value} {below : List Frame} {meth : Method} {c : Code} {Q : State → Prop} {D : va_G} {cy ci : ClassId} {h : Nat → Nat} {A0 : Nat → Prop} {o : Int32 × MS} (X : CallFix p m c cX12_sayMove 5 s args wsX12_sayMove RX12) (hret : mRv p l e ({ frames := 7, cells := 0, slots := 0, locals := 181 } : Room) s m args below meth c Q cX12_sayMove D cy ci h A0 o) (n : Nat) : ∀ (x3 : Int32) (x4 : Int32) (I : Nat → Int32) (A : Nat → Nat → Int32) (H : Heap) (locs : List Loc) (ls : Array Slot), f_sayMove_124 n x3 x4 I A = some o → mH D cy ci h A0 s H locs I A → lv_has ls 5 [(0, .ref (h 0)), (3, .int x3), (4, .int x4)] → W p l e ({ frames := 7, cells := 0, slots := 0, locals := 181 } : Room) s m args below meth c H locs 0 0 Q (F0 m 124 ls []) := by
  induction n with
  | zero => intro x3 x4 I A H locs ls hf; cases hf
  | succ n ih => intro x3 x4 I A H locs ls hf hM hl; exact ws_sayMove_124 X hret (self124 := f_sayMove_124 n) ih hf hM hl
noncomputable def f_sayMove_95s (self95 : Int32 → Int32 → (Nat → Int32) → (Nat → Nat → Int32) → Option (Int32 × MS)) (x3 : Int32) (x4 : Int32) (I : Nat → Int32) (A : Nat → Nat → Int32) : Option (Int32 × MS) :=
  m_if ((I 36) ≤ x4) (
  f_sayMove_124 mFuel x3 (0 : Int32) I A
  ) (
  m_chk (¬ (x4 < 0 ∨ 16 ≤ (x4).toNatClampNeg)) (
  m_bnd (A 35 (x4).toNatClampNeg) (fun v1 =>
  m_cl (f_ink v1 I A) (fun r2 Ic2 Ac2 =>
  m_bnd (x4 + (1 : Int32)) (fun v3 =>
  self95 x3 v3 Ic2 Ac2))))
  )

set_option maxRecDepth 100000 in
set_option maxHeartbeats 4000000 in
theorem ws_sayMove_95 {p : Program} {l : Launch} {e : Env} {s : State} {m : MethodId} {args : Array Value} {below : List Frame} {meth : Method} {c : Code} {Q : State → Prop} {D : va_G} {cy ci : ClassId} {h : Nat → Nat} {A0 : Nat → Prop} {o : Int32 × MS} (X : CallFix p m c cX12_sayMove 5 s args wsX12_sayMove RX12) (hret : mRv p l e ({ frames := 7, cells := 0, slots := 0, locals := 181 } : Room) s m args below meth c Q cX12_sayMove D cy ci h A0 o) {self95 : Int32 → Int32 → (Nat → Int32) → (Nat → Nat → Int32) → Option (Int32 × MS)} (hself95 : ∀ (x3 : Int32) (x4 : Int32) (I : Nat → Int32) (A : Nat → Nat → Int32) (H : Heap) (locs : List Loc) (ls : Array Slot), self95 x3 x4 I A = some o → mH D cy ci h A0 s H locs I A → lv_has ls 5 [(0, .ref (h 0)), (3, .int x3), (4, .int x4)] → W p l e ({ frames := 7, cells := 0, slots := 0, locals := 181 } : Room) s m args below meth c H locs 0 0 Q (F0 m 95 ls [])) {x3 : Int32} {x4 : Int32} {I : Nat → Int32} {A : Nat → Nat → Int32} {H : Heap} {locs : List Loc} {ls : Array Slot} (hf : f_sayMove_95s self95 x3 x4 I A = some o) (hM : mH D cy ci h A0 s H locs I A) (hl : lv_has ls 5 [(0, .ref (h 0)), (3, .int x3), (4, .int x4)]) : W p l e ({ frames := 7, cells := 0, slots := 0, locals := 181 } : Room) s m args below meth c H locs 0 0 Q (F0 m 95 ls []) := by
  obtain ⟨hx, hb, hml, hown, hts⟩ := id X
  unfold f_sayMove_95s at hf
  refine lv_iload hx hb dX12_sayMove_95 (lv_at hl 2 rfl) ?_
  refine lv_aload_n hx hb dX12_sayMove_97 rfl (lv_at hl 0 rfl) ?_
  refine m_get (v := .int (I 36)) X hw_sayMove hM 36 (by decide) fl_sayMove_36 rfl dX12_sayMove_98 ?_
  refine lv_icmp_ge (tgt := 121) hx hb dX12_sayMove_101 (by decide) (fun cc1 => ?_) (fun cc1 => ?_)
  · replace hf := m_ifT hf cc1
    refine lv_iconst (v := (0 : Int32)) hx hb dX12_sayMove_121 (by decide) ?_
    refine lv_istore (lv' := [(4, .int (0 : Int32)), (0, .ref (h 0)), (3, .int x3)]) hx hb dX12_sayMove_122 hl (by decide) rfl (fun ls hl => ?_)
    exact w_sayMove_124 X hret _ _ _ _ _ _ _ _ hf hM (lv_sub hl [1, 2, 0] rfl)
  · replace hf := m_ifF hf cc1
    refine lv_aload_n hx hb dX12_sayMove_104 rfl (lv_at hl 0 rfl) ?_
    refine lv_aload_n hx hb dX12_sayMove_105 rfl (lv_at hl 0 rfl) ?_
    refine m_get (v := .ref (h 35)) X hw_sayMove hM 35 (by decide) fl_sayMove_35 rfl dX12_sayMove_106 ?_
    refine lv_iload hx hb dX12_sayMove_109 (lv_at hl 2 rfl) ?_
    obtain ⟨cd, hf⟩ := m_chkE hf
    refine m_cald X hM 35 25 16 rfl cd dX12_sayMove_111 ?_
    clear cd
    obtain ⟨v1, ev, hf⟩ := m_bndE hf
    refine m_top ev ?_
    clear ev
    obtain ⟨o2, ho, hf⟩ := m_clE hf
    refine m_callVv X hM (c_ink ho) gX12_sayMove_X12_ink rfl ⟨rfl, rfl⟩ hd_ink ⟨Nat.le_of_ble_eq_true rfl, Nat.le_of_ble_eq_true rfl⟩ rfl hl.1 rfl (Nat.le_of_ble_eq_true rfl) dX12_sayMove_112 (fun H locs hM => ?_)
    clear ho
    obtain ⟨v3, ev, hf⟩ := m_bndE hf
    refine lv_iinc (v := v3) (lv' := [(4, .int v3), (0, .ref (h 0)), (3, .int x3)]) hx hb dX12_sayMove_115 hl (k := 2) rfl (by rw [ev]; rfl) (by decide) rfl (fun ls hl => ?_)
    clear ev
    refine lv_goto (tgt := 95) hx hb dX12_sayMove_118 (by decide) ?_
    exact hself95 _ _ _ _ _ _ _ hf hM (lv_sub hl [1, 2, 0] rfl)
noncomputable def f_sayMove_95 : Nat → Int32 → Int32 → (Nat → Int32) → (Nat → Nat → Int32) → Option (Int32 × MS)
  | 0 => fun _ _ _ _ => none
  | n + 1 => f_sayMove_95s (f_sayMove_95 n)
theorem w_sayMove_95 {p : Program} {l : Launch} {e : Env} {s : State} {m : MethodId} {args : Array Value} {below : List Frame} {meth : Method} {c : Code} {Q : State → Prop} {D : va_G} {cy ci : ClassId} {h : Nat → Nat} {A0 : Nat → Prop} {o : Int32 × MS} (X : CallFix p m c cX12_sayMove 5 s args wsX12_sayMove RX12) (hret : mRv p l e ({ frames := 7, cells := 0, slots := 0, locals := 181 } : Room) s m args below meth c Q cX12_sayMove D cy ci h A0 o) (n : Nat) : ∀ (x3 : Int32) (x4 : Int32) (I : Nat → Int32) (A : Nat → Nat → Int32) (H : Heap) (locs : List Loc) (ls : Array Slot), f_sayMove_95 n x3 x4 I A = some o → mH D cy ci h A0 s H locs I A → lv_has ls 5 [(0, .ref (h 0)), (3, .int x3), (4, .int x4)] → W p l e ({ frames := 7, cells := 0, slots := 0, locals := 181 } : Room) s m args below meth c H locs 0 0 Q (F0 m 95 ls []) := by
  induction n with
  | zero => intro x3 x4 I A H locs ls hf; cases hf
  | succ n ih => intro x3 x4 I A H locs ls hf hM hl; exact ws_sayMove_95 X hret (self95 := f_sayMove_95 n) ih hf hM hl
noncomputable def f_sayMove_82 (x3 : Int32) (I : Nat → Int32) (A : Nat → Nat → Int32) : Option (Int32 × MS) :=
  m_chk (¬ (x3 < 0 ∨ 602 ≤ (x3).toNatClampNeg)) (
  m_bnd (A 9 (x3).toNatClampNeg) (fun v1 =>
  m_cl (f_spellWhole v1 I A) (fun r2 Ic2 Ac2 =>
  f_sayMove_95 mFuel x3 (0 : Int32) Ic2 Ac2)))

set_option maxRecDepth 100000 in
set_option maxHeartbeats 4000000 in
theorem w_sayMove_82 {p : Program} {l : Launch} {e : Env} {s : State} {m : MethodId} {args : Array Value} {below : List Frame} {meth : Method} {c : Code} {Q : State → Prop} {D : va_G} {cy ci : ClassId} {h : Nat → Nat} {A0 : Nat → Prop} {o : Int32 × MS} (X : CallFix p m c cX12_sayMove 5 s args wsX12_sayMove RX12) (hret : mRv p l e ({ frames := 7, cells := 0, slots := 0, locals := 181 } : Room) s m args below meth c Q cX12_sayMove D cy ci h A0 o) {x3 : Int32} {I : Nat → Int32} {A : Nat → Nat → Int32} {H : Heap} {locs : List Loc} {ls : Array Slot} (hf : f_sayMove_82 x3 I A = some o) (hM : mH D cy ci h A0 s H locs I A) (hl : lv_has ls 5 [(0, .ref (h 0)), (3, .int x3)]) : W p l e ({ frames := 7, cells := 0, slots := 0, locals := 181 } : Room) s m args below meth c H locs 0 0 Q (F0 m 82 ls []) := by
  obtain ⟨hx, hb, hml, hown, hts⟩ := id X
  unfold f_sayMove_82 at hf
  refine lv_aload_n hx hb dX12_sayMove_82 rfl (lv_at hl 0 rfl) ?_
  refine lv_aload_n hx hb dX12_sayMove_83 rfl (lv_at hl 0 rfl) ?_
  refine m_get (v := .ref (h 9)) X hw_sayMove hM 9 (by decide) fl_sayMove_9 rfl dX12_sayMove_84 ?_
  refine lv_iload_n hx hb dX12_sayMove_87 rfl (lv_at hl 1 rfl) ?_
  obtain ⟨cd, hf⟩ := m_chkE hf
  refine m_iald X hM 9 5 602 rfl cd dX12_sayMove_88 ?_
  clear cd
  obtain ⟨v1, ev, hf⟩ := m_bndE hf
  refine m_top ev ?_
  clear ev
  obtain ⟨o2, ho, hf⟩ := m_clE hf
  refine m_callVv X hM (c_spellWhole ho) gX12_sayMove_X12_spellWhole rfl ⟨rfl, rfl⟩ hd_spellWhole ⟨Nat.le_of_ble_eq_true rfl, Nat.le_of_ble_eq_true rfl⟩ rfl hl.1 rfl (Nat.le_of_ble_eq_true rfl) dX12_sayMove_89 (fun H locs hM => ?_)
  clear ho
  refine lv_iconst (v := (0 : Int32)) hx hb dX12_sayMove_92 (by decide) ?_
  refine lv_istore (lv' := [(4, .int (0 : Int32)), (0, .ref (h 0)), (3, .int x3)]) hx hb dX12_sayMove_93 hl (by decide) rfl (fun ls hl => ?_)
  exact w_sayMove_95 X hret _ _ _ _ _ _ _ _ hf hM (lv_sub hl [1, 2, 0] rfl)
noncomputable def f_sayMove_61 (self47 : Int32 → Int32 → (Nat → Int32) → (Nat → Nat → Int32) → Option (Int32 × MS)) (x3 : Int32) (x4 : Int32) (t0 : Int32) (t1 : Int32) (I : Nat → Int32) (A : Nat → Nat → Int32) : Option (Int32 × MS) :=
  m_if (t0 ≤ t1) (
  m_cl (f_ink (32 : Int32) I A) (fun r1 Ic1 Ac1 =>
  f_sayMove_82 x3 Ic1 Ac1)
  ) (
  m_cl (f_ink (46 : Int32) I A) (fun r2 Ic2 Ac2 =>
  m_bnd (x4 + (1 : Int32)) (fun v3 =>
  self47 x3 v3 Ic2 Ac2))
  )

set_option maxRecDepth 100000 in
set_option maxHeartbeats 4000000 in
theorem w_sayMove_61 {p : Program} {l : Launch} {e : Env} {s : State} {m : MethodId} {args : Array Value} {below : List Frame} {meth : Method} {c : Code} {Q : State → Prop} {D : va_G} {cy ci : ClassId} {h : Nat → Nat} {A0 : Nat → Prop} {o : Int32 × MS} (X : CallFix p m c cX12_sayMove 5 s args wsX12_sayMove RX12) (hret : mRv p l e ({ frames := 7, cells := 0, slots := 0, locals := 181 } : Room) s m args below meth c Q cX12_sayMove D cy ci h A0 o) {self47 : Int32 → Int32 → (Nat → Int32) → (Nat → Nat → Int32) → Option (Int32 × MS)} (hself47 : ∀ (x3 : Int32) (x4 : Int32) (I : Nat → Int32) (A : Nat → Nat → Int32) (H : Heap) (locs : List Loc) (ls : Array Slot), self47 x3 x4 I A = some o → mH D cy ci h A0 s H locs I A → lv_has ls 5 [(0, .ref (h 0)), (3, .int x3), (4, .int x4)] → W p l e ({ frames := 7, cells := 0, slots := 0, locals := 181 } : Room) s m args below meth c H locs 0 0 Q (F0 m 47 ls [])) {x3 : Int32} {x4 : Int32} {t0 : Int32} {t1 : Int32} {I : Nat → Int32} {A : Nat → Nat → Int32} {H : Heap} {locs : List Loc} {ls : Array Slot} (hf : f_sayMove_61 self47 x3 x4 t0 t1 I A = some o) (hM : mH D cy ci h A0 s H locs I A) (hl : lv_has ls 5 [(0, .ref (h 0)), (3, .int x3), (4, .int x4)]) : W p l e ({ frames := 7, cells := 0, slots := 0, locals := 181 } : Room) s m args below meth c H locs 0 0 Q (F0 m 61 ls [.int t0, .int t1]) := by
  obtain ⟨hx, hb, hml, hown, hts⟩ := id X
  unfold f_sayMove_61 at hf
  refine lv_icmp_ge (tgt := 76) hx hb dX12_sayMove_61 (by decide) (fun cc1 => ?_) (fun cc1 => ?_)
  · replace hf := m_ifT hf cc1
    refine lv_aload_n hx hb dX12_sayMove_76 rfl (lv_at hl 0 rfl) ?_
    refine lv_bipush (v := (32 : Int32)) hx hb dX12_sayMove_77 (by decide) ?_
    obtain ⟨o1, ho, hf⟩ := m_clE hf
    refine m_callVv X hM (c_ink ho) gX12_sayMove_X12_ink rfl ⟨rfl, rfl⟩ hd_ink ⟨Nat.le_of_ble_eq_true rfl, Nat.le_of_ble_eq_true rfl⟩ rfl hl.1 rfl (Nat.le_of_ble_eq_true rfl) dX12_sayMove_79 (fun H locs hM => ?_)
    clear ho
    exact w_sayMove_82 X hret hf hM (lv_sub hl [0, 1] rfl)
  · replace hf := m_ifF hf cc1
    refine lv_aload_n hx hb dX12_sayMove_64 rfl (lv_at hl 0 rfl) ?_
    refine lv_bipush (v := (46 : Int32)) hx hb dX12_sayMove_65 (by decide) ?_
    obtain ⟨o2, ho, hf⟩ := m_clE hf
    refine m_callVv X hM (c_ink ho) gX12_sayMove_X12_ink rfl ⟨rfl, rfl⟩ hd_ink ⟨Nat.le_of_ble_eq_true rfl, Nat.le_of_ble_eq_true rfl⟩ rfl hl.1 rfl (Nat.le_of_ble_eq_true rfl) dX12_sayMove_67 (fun H locs hM => ?_)
    clear ho
    obtain ⟨v3, ev, hf⟩ := m_bndE hf
    refine lv_iinc (v := v3) (lv' := [(4, .int v3), (0, .ref (h 0)), (3, .int x3)]) hx hb dX12_sayMove_70 hl (k := 2) rfl (by rw [ev]; rfl) (by decide) rfl (fun ls hl => ?_)
    clear ev
    refine lv_goto (tgt := 47) hx hb dX12_sayMove_73 (by decide) ?_
    exact hself47 _ _ _ _ _ _ _ hf hM (lv_sub hl [1, 2, 0] rfl)
noncomputable def f_sayMove_47s (self47 : Int32 → Int32 → (Nat → Int32) → (Nat → Nat → Int32) → Option (Int32 × MS)) (x3 : Int32) (x4 : Int32) (I : Nat → Int32) (A : Nat → Nat → Int32) : Option (Int32 × MS) :=
  m_if ((I 25) = 0) (
  f_sayMove_61 self47 x3 x4 (1 : Int32) x4 I A
  ) (
  f_sayMove_61 self47 x3 x4 (3 : Int32) x4 I A
  )

set_option maxRecDepth 100000 in
set_option maxHeartbeats 4000000 in
theorem ws_sayMove_47 {p : Program} {l : Launch} {e : Env} {s : State} {m : MethodId} {args : Array Value} {below : List Frame} {meth : Method} {c : Code} {Q : State → Prop} {D : va_G} {cy ci : ClassId} {h : Nat → Nat} {A0 : Nat → Prop} {o : Int32 × MS} (X : CallFix p m c cX12_sayMove 5 s args wsX12_sayMove RX12) (hret : mRv p l e ({ frames := 7, cells := 0, slots := 0, locals := 181 } : Room) s m args below meth c Q cX12_sayMove D cy ci h A0 o) {self47 : Int32 → Int32 → (Nat → Int32) → (Nat → Nat → Int32) → Option (Int32 × MS)} (hself47 : ∀ (x3 : Int32) (x4 : Int32) (I : Nat → Int32) (A : Nat → Nat → Int32) (H : Heap) (locs : List Loc) (ls : Array Slot), self47 x3 x4 I A = some o → mH D cy ci h A0 s H locs I A → lv_has ls 5 [(0, .ref (h 0)), (3, .int x3), (4, .int x4)] → W p l e ({ frames := 7, cells := 0, slots := 0, locals := 181 } : Room) s m args below meth c H locs 0 0 Q (F0 m 47 ls [])) {x3 : Int32} {x4 : Int32} {I : Nat → Int32} {A : Nat → Nat → Int32} {H : Heap} {locs : List Loc} {ls : Array Slot} (hf : f_sayMove_47s self47 x3 x4 I A = some o) (hM : mH D cy ci h A0 s H locs I A) (hl : lv_has ls 5 [(0, .ref (h 0)), (3, .int x3), (4, .int x4)]) : W p l e ({ frames := 7, cells := 0, slots := 0, locals := 181 } : Room) s m args below meth c H locs 0 0 Q (F0 m 47 ls []) := by
  obtain ⟨hx, hb, hml, hown, hts⟩ := id X
  unfold f_sayMove_47s at hf
  refine lv_iload hx hb dX12_sayMove_47 (lv_at hl 2 rfl) ?_
  refine lv_aload_n hx hb dX12_sayMove_49 rfl (lv_at hl 0 rfl) ?_
  refine m_get (v := .int (I 25)) X hw_sayMove hM 25 (by decide) fl_sayMove_25 rfl dX12_sayMove_50 ?_
  refine lv_if_ne (tgt := 60) hx hb dX12_sayMove_53 (by decide) (fun cc1 => ?_) (fun cc1 => ?_)
  · replace hf := m_ifF hf cc1
    refine lv_iconst (v := (3 : Int32)) hx hb dX12_sayMove_60 (by decide) ?_
    exact w_sayMove_61 X hret hself47 hf hM (lv_sub hl [0, 1, 2] rfl)
  · replace hf := m_ifT hf cc1
    refine lv_iconst (v := (1 : Int32)) hx hb dX12_sayMove_56 (by decide) ?_
    refine lv_goto (tgt := 61) hx hb dX12_sayMove_57 (by decide) ?_
    exact w_sayMove_61 X hret hself47 hf hM (lv_sub hl [0, 1, 2] rfl)
noncomputable def f_sayMove_47 : Nat → Int32 → Int32 → (Nat → Int32) → (Nat → Nat → Int32) → Option (Int32 × MS)
  | 0 => fun _ _ _ _ => none
  | n + 1 => f_sayMove_47s (f_sayMove_47 n)
theorem w_sayMove_47 {p : Program} {l : Launch} {e : Env} {s : State} {m : MethodId} {args : Array Value} {below : List Frame} {meth : Method} {c : Code} {Q : State → Prop} {D : va_G} {cy ci : ClassId} {h : Nat → Nat} {A0 : Nat → Prop} {o : Int32 × MS} (X : CallFix p m c cX12_sayMove 5 s args wsX12_sayMove RX12) (hret : mRv p l e ({ frames := 7, cells := 0, slots := 0, locals := 181 } : Room) s m args below meth c Q cX12_sayMove D cy ci h A0 o) (n : Nat) : ∀ (x3 : Int32) (x4 : Int32) (I : Nat → Int32) (A : Nat → Nat → Int32) (H : Heap) (locs : List Loc) (ls : Array Slot), f_sayMove_47 n x3 x4 I A = some o → mH D cy ci h A0 s H locs I A → lv_has ls 5 [(0, .ref (h 0)), (3, .int x3), (4, .int x4)] → W p l e ({ frames := 7, cells := 0, slots := 0, locals := 181 } : Room) s m args below meth c H locs 0 0 Q (F0 m 47 ls []) := by
  induction n with
  | zero => intro x3 x4 I A H locs ls hf; cases hf
  | succ n ih => intro x3 x4 I A H locs ls hf hM hl; exact ws_sayMove_47 X hret (self47 := f_sayMove_47 n) ih hf hM hl
noncomputable def f_sayMove_36 (x3 : Int32) (I : Nat → Int32) (A : Nat → Nat → Int32) : Option (Int32 × MS) :=
  m_cl (f_sayNumber (I 29) I A) (fun r1 Ic1 Ac1 =>
  f_sayMove_47 mFuel x3 (0 : Int32) Ic1 Ac1)

set_option maxRecDepth 100000 in
set_option maxHeartbeats 4000000 in
theorem w_sayMove_36 {p : Program} {l : Launch} {e : Env} {s : State} {m : MethodId} {args : Array Value} {below : List Frame} {meth : Method} {c : Code} {Q : State → Prop} {D : va_G} {cy ci : ClassId} {h : Nat → Nat} {A0 : Nat → Prop} {o : Int32 × MS} (X : CallFix p m c cX12_sayMove 5 s args wsX12_sayMove RX12) (hret : mRv p l e ({ frames := 7, cells := 0, slots := 0, locals := 181 } : Room) s m args below meth c Q cX12_sayMove D cy ci h A0 o) {x3 : Int32} {I : Nat → Int32} {A : Nat → Nat → Int32} {H : Heap} {locs : List Loc} {ls : Array Slot} (hf : f_sayMove_36 x3 I A = some o) (hM : mH D cy ci h A0 s H locs I A) (hl : lv_has ls 5 [(0, .ref (h 0)), (3, .int x3)]) : W p l e ({ frames := 7, cells := 0, slots := 0, locals := 181 } : Room) s m args below meth c H locs 0 0 Q (F0 m 36 ls []) := by
  obtain ⟨hx, hb, hml, hown, hts⟩ := id X
  unfold f_sayMove_36 at hf
  refine lv_aload_n hx hb dX12_sayMove_36 rfl (lv_at hl 0 rfl) ?_
  refine lv_aload_n hx hb dX12_sayMove_37 rfl (lv_at hl 0 rfl) ?_
  refine m_get (v := .int (I 29)) X hw_sayMove hM 29 (by decide) fl_sayMove_29 rfl dX12_sayMove_38 ?_
  obtain ⟨o1, ho, hf⟩ := m_clE hf
  refine m_callVv X hM (c_sayNumber ho) gX12_sayMove_X12_sayNumber rfl ⟨rfl, rfl⟩ hd_sayNumber ⟨Nat.le_of_ble_eq_true rfl, Nat.le_of_ble_eq_true rfl⟩ rfl hl.1 rfl (Nat.le_of_ble_eq_true rfl) dX12_sayMove_41 (fun H locs hM => ?_)
  clear ho
  refine lv_iconst (v := (0 : Int32)) hx hb dX12_sayMove_44 (by decide) ?_
  refine lv_istore (lv' := [(4, .int (0 : Int32)), (0, .ref (h 0)), (3, .int x3)]) hx hb dX12_sayMove_45 hl (by decide) rfl (fun ls hl => ?_)
  exact w_sayMove_47 X hret _ _ _ _ _ _ _ _ hf hM (lv_sub hl [1, 2, 0] rfl)
noncomputable def f_sayMove_0 (x1 : Int32) (x2 : Int32) (I : Nat → Int32) (A : Nat → Nat → Int32) : Option (Int32 × MS) :=
  m_bnd ((301 : Int32) * (I 5)) (fun v1 =>
  m_bnd (v1 + x1) (fun v2 =>
  m_chk (¬ (v2 < 0 ∨ 602 ≤ (v2).toNatClampNeg)) (
  m_bnd (A 8 (v2).toNatClampNeg) (fun v3 =>
  m_cl (f_place (I 5) v3 I A) (fun r4 Ic4 Ac4 =>
  m_if ((Ic4 25) = 0) (
  f_sayMove_36 v2 Ic4 Ac4
  ) (
  m_if (x2 = 0) (
  f_sayMove_82 v2 Ic4 Ac4
  ) (
  f_sayMove_36 v2 Ic4 Ac4
  )
  ))))))

set_option maxRecDepth 100000 in
set_option maxHeartbeats 4000000 in
theorem w_sayMove_0 {p : Program} {l : Launch} {e : Env} {s : State} {m : MethodId} {args : Array Value} {below : List Frame} {meth : Method} {c : Code} {Q : State → Prop} {D : va_G} {cy ci : ClassId} {h : Nat → Nat} {A0 : Nat → Prop} {o : Int32 × MS} (X : CallFix p m c cX12_sayMove 5 s args wsX12_sayMove RX12) (hret : mRv p l e ({ frames := 7, cells := 0, slots := 0, locals := 181 } : Room) s m args below meth c Q cX12_sayMove D cy ci h A0 o) {x1 : Int32} {x2 : Int32} {I : Nat → Int32} {A : Nat → Nat → Int32} {H : Heap} {locs : List Loc} {ls : Array Slot} (hf : f_sayMove_0 x1 x2 I A = some o) (hM : mH D cy ci h A0 s H locs I A) (hl : lv_has ls 5 [(0, .ref (h 0)), (1, .int x1), (2, .int x2)]) : W p l e ({ frames := 7, cells := 0, slots := 0, locals := 181 } : Room) s m args below meth c H locs 0 0 Q (F0 m 0 ls []) := by
  obtain ⟨hx, hb, hml, hown, hts⟩ := id X
  unfold f_sayMove_0 at hf
  refine lv_sipush (v := (301 : Int32)) hx hb dX12_sayMove_0 (by decide) ?_
  refine lv_aload_n hx hb dX12_sayMove_3 rfl (lv_at hl 0 rfl) ?_
  refine m_get (v := .int (I 5)) X hw_sayMove hM 5 (by decide) fl_sayMove_5 rfl dX12_sayMove_4 ?_
  refine lv_imul hx hb dX12_sayMove_7 ?_
  obtain ⟨v1, ev, hf⟩ := m_bndE hf
  refine m_top ev ?_
  clear ev
  refine lv_iload_n hx hb dX12_sayMove_8 rfl (lv_at hl 1 rfl) ?_
  refine lv_iadd hx hb dX12_sayMove_9 ?_
  obtain ⟨v2, ev, hf⟩ := m_bndE hf
  refine m_top ev ?_
  clear ev
  refine lv_istore_n (lv' := [(3, .int v2), (0, .ref (h 0)), (1, .int x1), (2, .int x2)]) hx hb dX12_sayMove_10 rfl hl (by decide) rfl (fun ls hl => ?_)
  refine lv_aload_n hx hb dX12_sayMove_11 rfl (lv_at hl 1 rfl) ?_
  refine lv_aload_n hx hb dX12_sayMove_12 rfl (lv_at hl 1 rfl) ?_
  refine m_get (v := .int (I 5)) X hw_sayMove hM 5 (by decide) fl_sayMove_5 rfl dX12_sayMove_13 ?_
  refine lv_aload_n hx hb dX12_sayMove_16 rfl (lv_at hl 1 rfl) ?_
  refine m_get (v := .ref (h 8)) X hw_sayMove hM 8 (by decide) fl_sayMove_8 rfl dX12_sayMove_17 ?_
  refine lv_iload_n hx hb dX12_sayMove_20 rfl (lv_at hl 0 rfl) ?_
  obtain ⟨cd, hf⟩ := m_chkE hf
  refine m_iald X hM 8 4 602 rfl cd dX12_sayMove_21 ?_
  clear cd
  obtain ⟨v3, ev, hf⟩ := m_bndE hf
  refine m_top ev ?_
  clear ev
  obtain ⟨o4, ho, hf⟩ := m_clE hf
  refine m_callVv X hM (c_place ho) gX12_sayMove_X12_place rfl ⟨rfl, rfl⟩ hd_place ⟨Nat.le_of_ble_eq_true rfl, Nat.le_of_ble_eq_true rfl⟩ rfl hl.1 rfl (Nat.le_of_ble_eq_true rfl) dX12_sayMove_22 (fun H locs hM => ?_)
  clear ho
  refine lv_aload_n hx hb dX12_sayMove_25 rfl (lv_at hl 1 rfl) ?_
  refine m_get (v := .int (o4.2.1 25)) X hw_sayMove hM 25 (by decide) fl_sayMove_25 rfl dX12_sayMove_26 ?_
  refine lv_if_eq (tgt := 36) hx hb dX12_sayMove_29 (by decide) (fun cc1 => ?_) (fun cc1 => ?_)
  · replace hf := m_ifT hf cc1
    exact w_sayMove_36 X hret hf hM (lv_sub hl [1, 0] rfl)
  · replace hf := m_ifF hf cc1
    refine lv_iload_n hx hb dX12_sayMove_32 rfl (lv_at hl 3 rfl) ?_
    refine lv_if_eq (tgt := 82) hx hb dX12_sayMove_33 (by decide) (fun cc1 => ?_) (fun cc1 => ?_)
    · replace hf := m_ifT hf cc1
      exact w_sayMove_82 X hret hf hM (lv_sub hl [1, 0] rfl)
    · replace hf := m_ifF hf cc1
      exact w_sayMove_36 X hret hf hM (lv_sub hl [1, 0] rfl)
noncomputable def f_sayMove (x1 : Int32) (x2 : Int32) (I : Nat → Int32) (A : Nat → Nat → Int32) : Option (Int32 × MS) := f_sayMove_0 x1 x2 I A
theorem c_sayMove {l : Launch} {D : va_G} {cy ci : ClassId} {h : Nat → Nat} {x1 : Int32} {x2 : Int32} {I : Nat → Int32} {A : Nat → Nat → Int32} {o : Int32 × MS} (hf : f_sayMove x1 x2 I A = some o) : mMv l yX12_sayMove wsX12_sayMove ({ frames := 7, cells := 0, slots := 0, locals := 181 } : Room) [.ref (h 0), .int x1, .int x2] D cy ci h I A o :=
  m_entryV (cc := cX12_sayMove) (maxL := 5) (by decide) rfl rfl (Nat.le_of_ble_eq_true rfl) (fun p e s m args below meth c A0 Q H locs ls X hret hM hl => w_sayMove_0 X hret hf hM (lv_sub hl [0, 1, 2] rfl))
theorem hw_sayLine : ∀ w ∈ wsX120, w ∈ wsX12_sayLine := by decide +kernel
theorem fl_sayLine_5 : Cond.fieldLink RX12 347 "MoveTextsModel" "game" "I" ∈ wsX12_sayLine := by decide +kernel
theorem fl_sayLine_10 : Cond.fieldLink RX12 27 "MoveTextsModel" "child" "[I" ∈ wsX12_sayLine := by decide +kernel
theorem fl_sayLine_11 : Cond.fieldLink RX12 30 "MoveTextsModel" "next" "[I" ∈ wsX12_sayLine := by decide +kernel
theorem fl_sayLine_14 : Cond.fieldLink RX12 39 "MoveTextsModel" "remarkSize" "[I" ∈ wsX12_sayLine := by decide +kernel
theorem hd_sayLine : yX12_sayLine.cls = RX12 ∧ yX12_sayLine.cls ≠ "java/lang/invoke/MethodHandle" ∧ yX12_sayLine.cls ≠ "java/lang/invoke/VarHandle" ∧ (parseMethodDescriptor yX12_sayLine.desc).map (fun d => d.parameters.length) = some 2 := by decide +kernel
noncomputable def f_sayLine_141 (rec : Int32 → Int32 → (Nat → Int32) → (Nat → Nat → Int32) → Option (Int32 × MS)) (self8 : Int32 → Int32 → Int32 → (Nat → Int32) → (Nat → Nat → Int32) → Option (Int32 × MS)) (x3 : Int32) (x4 : Int32) (x5 : Int32) (I : Nat → Int32) (A : Nat → Nat → Int32) : Option (Int32 × MS) :=
  self8 x3 x4 x5 I A

set_option maxRecDepth 100000 in
set_option maxHeartbeats 4000000 in
theorem w_sayLine_141 {p : Program} {l : Launch} {e : Env} {s : State} {m : MethodId} {args : Array Value} {below : List Frame} {meth : Method} {c : Code} {Q : State → Prop} {D : va_G} {cy ci : ClassId} {h : Nat → Nat} {A0 : Nat → Prop} {o : Int32 × MS} {R Rr : Room} (hR0 : 8 ≤ R.frames ∧ 205 ≤ R.locals) (hR1 : Rr.cells = 0 ∧ Rr.slots = 0) (hR2 : Rr.frames + 1 ≤ R.frames ∧ 8 + (8 + 11) + Rr.locals ≤ R.locals) {rec : Int32 → Int32 → (Nat → Int32) → (Nat → Nat → Int32) → Option (Int32 × MS)} (hrec : ∀ (x1 : Int32) (x2 : Int32) (I : Nat → Int32) (A : Nat → Nat → Int32) (o9 : Int32 × MS), rec x1 x2 I A = some o9 → mMv l yX12_sayLine wsX12_sayLine Rr [.ref (h 0), .int x1, .int x2] D cy ci h I A o9) (X : CallFix p m c cX12_sayLine 8 s args wsX12_sayLine RX12) (hret : mRv p l e R s m args below meth c Q cX12_sayLine D cy ci h A0 o) {self8 : Int32 → Int32 → Int32 → (Nat → Int32) → (Nat → Nat → Int32) → Option (Int32 × MS)} (hself8 : ∀ (x3 : Int32) (x4 : Int32) (x5 : Int32) (I : Nat → Int32) (A : Nat → Nat → Int32) (H : Heap) (locs : List Loc) (ls : Array Slot), self8 x3 x4 x5 I A = some o → mH D cy ci h A0 s H locs I A → lv_has ls 8 [(0, .ref (h 0)), (3, .int x3), (4, .int x4), (5, .int x5)] → W p l e R s m args below meth c H locs 0 0 Q (F0 m 8 ls [])) {x3 : Int32} {x4 : Int32} {x5 : Int32} {I : Nat → Int32} {A : Nat → Nat → Int32} {H : Heap} {locs : List Loc} {ls : Array Slot} (hf : f_sayLine_141 rec self8 x3 x4 x5 I A = some o) (hM : mH D cy ci h A0 s H locs I A) (hl : lv_has ls 8 [(0, .ref (h 0)), (3, .int x3), (4, .int x4), (5, .int x5)]) : W p l e R s m args below meth c H locs 0 0 Q (F0 m 141 ls []) := by
  obtain ⟨hx, hb, hml, hown, hts⟩ := id X
  unfold f_sayLine_141 at hf
  refine lv_goto (tgt := 8) hx hb dX12_sayLine_141 (by decide) ?_
  exact hself8 _ _ _ _ _ _ _ _ hf hM (lv_sub hl [0, 1, 2, 3] rfl)
noncomputable def f_sayLine_66s (rec : Int32 → Int32 → (Nat → Int32) → (Nat → Nat → Int32) → Option (Int32 × MS)) (self8 : Int32 → Int32 → Int32 → (Nat → Int32) → (Nat → Nat → Int32) → Option (Int32 × MS)) (self66 : Int32 → Int32 → Int32 → (Nat → Int32) → (Nat → Nat → Int32) → Option (Int32 × MS)) (x4 : Int32) (x6 : Int32) (x7 : Int32) (I : Nat → Int32) (A : Nat → Nat → Int32) : Option (Int32 × MS) :=
  m_if (x7 < 0) (
  m_chk (¬ (x6 < 0 ∨ 602 ≤ (x6).toNatClampNeg)) (
  m_bnd (A 10 (x6).toNatClampNeg) (fun v1 =>
  m_if (v1 < 0) (
  f_sayLine_141 rec self8 v1 x4 (1 : Int32) I A
  ) (
  m_cl (f_ink (32 : Int32) I A) (fun r2 Ic2 Ac2 =>
  f_sayLine_141 rec self8 v1 x4 (1 : Int32) Ic2 Ac2)
  )))
  ) (
  m_cl (f_ink (32 : Int32) I A) (fun r3 Ic3 Ac3 =>
  m_cl (f_ink (40 : Int32) Ic3 Ac3) (fun r4 Ic4 Ac4 =>
  m_cl (rec x7 (0 : Int32) Ic4 Ac4) (fun r5 Ic5 Ac5 =>
  m_cl (f_ink (41 : Int32) Ic5 Ac5) (fun r6 Ic6 Ac6 =>
  m_bnd ((301 : Int32) * (Ic6 5)) (fun v7 =>
  m_bnd (v7 + x7) (fun v8 =>
  m_chk (¬ (v8 < 0 ∨ 602 ≤ (v8).toNatClampNeg)) (
  m_bnd (Ac6 11 (v8).toNatClampNeg) (fun v9 =>
  self66 (1 : Int32) x6 v9 Ic6 Ac6))))))))
  )

set_option maxRecDepth 100000 in
set_option maxHeartbeats 4000000 in
theorem ws_sayLine_66 {p : Program} {l : Launch} {e : Env} {s : State} {m : MethodId} {args : Array Value} {below : List Frame} {meth : Method} {c : Code} {Q : State → Prop} {D : va_G} {cy ci : ClassId} {h : Nat → Nat} {A0 : Nat → Prop} {o : Int32 × MS} {R Rr : Room} (hR0 : 8 ≤ R.frames ∧ 205 ≤ R.locals) (hR1 : Rr.cells = 0 ∧ Rr.slots = 0) (hR2 : Rr.frames + 1 ≤ R.frames ∧ 8 + (8 + 11) + Rr.locals ≤ R.locals) {rec : Int32 → Int32 → (Nat → Int32) → (Nat → Nat → Int32) → Option (Int32 × MS)} (hrec : ∀ (x1 : Int32) (x2 : Int32) (I : Nat → Int32) (A : Nat → Nat → Int32) (o9 : Int32 × MS), rec x1 x2 I A = some o9 → mMv l yX12_sayLine wsX12_sayLine Rr [.ref (h 0), .int x1, .int x2] D cy ci h I A o9) (X : CallFix p m c cX12_sayLine 8 s args wsX12_sayLine RX12) (hret : mRv p l e R s m args below meth c Q cX12_sayLine D cy ci h A0 o) {self8 : Int32 → Int32 → Int32 → (Nat → Int32) → (Nat → Nat → Int32) → Option (Int32 × MS)} (hself8 : ∀ (x3 : Int32) (x4 : Int32) (x5 : Int32) (I : Nat → Int32) (A : Nat → Nat → Int32) (H : Heap) (locs : List Loc) (ls : Array Slot), self8 x3 x4 x5 I A = some o → mH D cy ci h A0 s H locs I A → lv_has ls 8 [(0, .ref (h 0)), (3, .int x3), (4, .int x4), (5, .int x5)] → W p l e R s m args below meth c H locs 0 0 Q (F0 m 8 ls [])) {self66 : Int32 → Int32 → Int32 → (Nat → Int32) → (Nat → Nat → Int32) → Option (Int32 × MS)} (hself66 : ∀ (x4 : Int32) (x6 : Int32) (x7 : Int32) (I : Nat → Int32) (A : Nat → Nat → Int32) (H : Heap) (locs : List Loc) (ls : Array Slot), self66 x4 x6 x7 I A = some o → mH D cy ci h A0 s H locs I A → lv_has ls 8 [(0, .ref (h 0)), (4, .int x4), (6, .int x6), (7, .int x7)] → W p l e R s m args below meth c H locs 0 0 Q (F0 m 66 ls [])) {x4 : Int32} {x6 : Int32} {x7 : Int32} {I : Nat → Int32} {A : Nat → Nat → Int32} {H : Heap} {locs : List Loc} {ls : Array Slot} (hf : f_sayLine_66s rec self8 self66 x4 x6 x7 I A = some o) (hM : mH D cy ci h A0 s H locs I A) (hl : lv_has ls 8 [(0, .ref (h 0)), (4, .int x4), (6, .int x6), (7, .int x7)]) : W p l e R s m args below meth c H locs 0 0 Q (F0 m 66 ls []) := by
  obtain ⟨hx, hb, hml, hown, hts⟩ := id X
  unfold f_sayLine_66s at hf
  refine lv_iload hx hb dX12_sayLine_66 (lv_at hl 3 rfl) ?_
  refine lv_if_lt (tgt := 120) hx hb dX12_sayLine_68 (by decide) (fun cc1 => ?_) (fun cc1 => ?_)
  · replace hf := m_ifT hf cc1
    refine lv_iconst (v := (1 : Int32)) hx hb dX12_sayLine_120 (by decide) ?_
    refine lv_istore (lv' := [(5, .int (1 : Int32)), (0, .ref (h 0)), (4, .int x4), (6, .int x6), (7, .int x7)]) hx hb dX12_sayLine_121 hl (by decide) rfl (fun ls hl => ?_)
    refine lv_aload_n hx hb dX12_sayLine_123 rfl (lv_at hl 1 rfl) ?_
    refine m_get (v := .ref (h 10)) X hw_sayLine hM 10 (by decide) fl_sayLine_10 rfl dX12_sayLine_124 ?_
    refine lv_iload hx hb dX12_sayLine_127 (lv_at hl 3 rfl) ?_
    obtain ⟨cd, hf⟩ := m_chkE hf
    refine m_iald X hM 10 6 602 rfl cd dX12_sayLine_129 ?_
    clear cd
    obtain ⟨v1, ev, hf⟩ := m_bndE hf
    refine m_top ev ?_
    clear ev
    refine lv_istore_n (lv' := [(3, .int v1), (5, .int (1 : Int32)), (0, .ref (h 0)), (4, .int x4), (6, .int x6), (7, .int x7)]) hx hb dX12_sayLine_130 rfl hl (by decide) rfl (fun ls hl => ?_)
    refine lv_iload_n hx hb dX12_sayLine_131 rfl (lv_at hl 0 rfl) ?_
    refine lv_if_lt (tgt := 141) hx hb dX12_sayLine_132 (by decide) (fun cc1 => ?_) (fun cc1 => ?_)
    · replace hf := m_ifT hf cc1
      exact w_sayLine_141 hR0 hR1 hR2 hrec X hret hself8 hf hM (lv_sub hl [2, 0, 3, 1] rfl)
    · replace hf := m_ifF hf cc1
      refine lv_aload_n hx hb dX12_sayLine_135 rfl (lv_at hl 2 rfl) ?_
      refine lv_bipush (v := (32 : Int32)) hx hb dX12_sayLine_136 (by decide) ?_
      obtain ⟨o2, ho, hf⟩ := m_clE hf
      refine m_callVv X hM (c_ink ho) gX12_sayLine_X12_ink rfl ⟨rfl, rfl⟩ hd_ink ⟨Nat.le_trans (Nat.le_of_ble_eq_true rfl) hR0.1, Nat.le_trans (Nat.le_of_ble_eq_true rfl) hR0.2⟩ rfl hl.1 rfl (Nat.le_of_ble_eq_true rfl) dX12_sayLine_138 (fun H locs hM => ?_)
      clear ho
      exact w_sayLine_141 hR0 hR1 hR2 hrec X hret hself8 hf hM (lv_sub hl [2, 0, 3, 1] rfl)
  · replace hf := m_ifF hf cc1
    refine lv_aload_n hx hb dX12_sayLine_71 rfl (lv_at hl 0 rfl) ?_
    refine lv_bipush (v := (32 : Int32)) hx hb dX12_sayLine_72 (by decide) ?_
    obtain ⟨o3, ho, hf⟩ := m_clE hf
    refine m_callVv X hM (c_ink ho) gX12_sayLine_X12_ink rfl ⟨rfl, rfl⟩ hd_ink ⟨Nat.le_trans (Nat.le_of_ble_eq_true rfl) hR0.1, Nat.le_trans (Nat.le_of_ble_eq_true rfl) hR0.2⟩ rfl hl.1 rfl (Nat.le_of_ble_eq_true rfl) dX12_sayLine_74 (fun H locs hM => ?_)
    clear ho
    refine lv_aload_n hx hb dX12_sayLine_77 rfl (lv_at hl 0 rfl) ?_
    refine lv_bipush (v := (40 : Int32)) hx hb dX12_sayLine_78 (by decide) ?_
    obtain ⟨o4, ho, hf⟩ := m_clE hf
    refine m_callVv X hM (c_ink ho) gX12_sayLine_X12_ink rfl ⟨rfl, rfl⟩ hd_ink ⟨Nat.le_trans (Nat.le_of_ble_eq_true rfl) hR0.1, Nat.le_trans (Nat.le_of_ble_eq_true rfl) hR0.2⟩ rfl hl.1 rfl (Nat.le_of_ble_eq_true rfl) dX12_sayLine_80 (fun H locs hM => ?_)
    clear ho
    refine lv_aload_n hx hb dX12_sayLine_83 rfl (lv_at hl 0 rfl) ?_
    refine lv_iload hx hb dX12_sayLine_84 (lv_at hl 3 rfl) ?_
    refine lv_iconst (v := (0 : Int32)) hx hb dX12_sayLine_86 (by decide) ?_
    obtain ⟨o5, ho, hf⟩ := m_clE hf
    refine m_callVv X hM (hrec _ _ _ _ _ ho) gX12_sayLine_X12_sayLine rfl hR1 hd_sayLine hR2 rfl hl.1 rfl (Nat.le_of_ble_eq_true rfl) dX12_sayLine_87 (fun H locs hM => ?_)
    clear ho
    refine lv_aload_n hx hb dX12_sayLine_90 rfl (lv_at hl 0 rfl) ?_
    refine lv_bipush (v := (41 : Int32)) hx hb dX12_sayLine_91 (by decide) ?_
    obtain ⟨o6, ho, hf⟩ := m_clE hf
    refine m_callVv X hM (c_ink ho) gX12_sayLine_X12_ink rfl ⟨rfl, rfl⟩ hd_ink ⟨Nat.le_trans (Nat.le_of_ble_eq_true rfl) hR0.1, Nat.le_trans (Nat.le_of_ble_eq_true rfl) hR0.2⟩ rfl hl.1 rfl (Nat.le_of_ble_eq_true rfl) dX12_sayLine_93 (fun H locs hM => ?_)
    clear ho
    refine lv_iconst (v := (1 : Int32)) hx hb dX12_sayLine_96 (by decide) ?_
    refine lv_istore (lv' := [(4, .int (1 : Int32)), (0, .ref (h 0)), (6, .int x6), (7, .int x7)]) hx hb dX12_sayLine_97 hl (by decide) rfl (fun ls hl => ?_)
    refine lv_aload_n hx hb dX12_sayLine_99 rfl (lv_at hl 1 rfl) ?_
    refine m_get (v := .ref (h 11)) X hw_sayLine hM 11 (by decide) fl_sayLine_11 rfl dX12_sayLine_100 ?_
    refine lv_sipush (v := (301 : Int32)) hx hb dX12_sayLine_103 (by decide) ?_
    refine lv_aload_n hx hb dX12_sayLine_106 rfl (lv_at hl 1 rfl) ?_
    refine m_get (v := .int (o6.2.1 5)) X hw_sayLine hM 5 (by decide) fl_sayLine_5 rfl dX12_sayLine_107 ?_
    refine lv_imul hx hb dX12_sayLine_110 ?_
    obtain ⟨v7, ev, hf⟩ := m_bndE hf
    refine m_top ev ?_
    clear ev
    refine lv_iload hx hb dX12_sayLine_111 (lv_at hl 3 rfl) ?_
    refine lv_iadd hx hb dX12_sayLine_113 ?_
    obtain ⟨v8, ev, hf⟩ := m_bndE hf
    refine m_top ev ?_
    clear ev
    obtain ⟨cd, hf⟩ := m_chkE hf
    refine m_iald X hM 11 7 602 rfl cd dX12_sayLine_114 ?_
    clear cd
    obtain ⟨v9, ev, hf⟩ := m_bndE hf
    refine m_top ev ?_
    clear ev
    refine lv_istore (lv' := [(7, .int v9), (4, .int (1 : Int32)), (0, .ref (h 0)), (6, .int x6)]) hx hb dX12_sayLine_115 hl (by decide) rfl (fun ls hl => ?_)
    refine lv_goto (tgt := 66) hx hb dX12_sayLine_117 (by decide) ?_
    exact hself66 _ _ _ _ _ _ _ _ hf hM (lv_sub hl [2, 1, 3, 0] rfl)
noncomputable def f_sayLine_66 (rec : Int32 → Int32 → (Nat → Int32) → (Nat → Nat → Int32) → Option (Int32 × MS)) (self8 : Int32 → Int32 → Int32 → (Nat → Int32) → (Nat → Nat → Int32) → Option (Int32 × MS)) : Nat → Int32 → Int32 → Int32 → (Nat → Int32) → (Nat → Nat → Int32) → Option (Int32 × MS)
  | 0 => fun _ _ _ _ _ => none
  | n + 1 => f_sayLine_66s rec self8 (f_sayLine_66 rec self8 n)
theorem w_sayLine_66 {p : Program} {l : Launch} {e : Env} {s : State} {m : MethodId} {args : Array Value} {below : List Frame} {meth : Method} {c : Code} {Q : State → Prop} {D : va_G} {cy ci : ClassId} {h : Nat → Nat} {A0 : Nat → Prop} {o : Int32 × MS} {R Rr : Room} (hR0 : 8 ≤ R.frames ∧ 205 ≤ R.locals) (hR1 : Rr.cells = 0 ∧ Rr.slots = 0) (hR2 : Rr.frames + 1 ≤ R.frames ∧ 8 + (8 + 11) + Rr.locals ≤ R.locals) {rec : Int32 → Int32 → (Nat → Int32) → (Nat → Nat → Int32) → Option (Int32 × MS)} (hrec : ∀ (x1 : Int32) (x2 : Int32) (I : Nat → Int32) (A : Nat → Nat → Int32) (o9 : Int32 × MS), rec x1 x2 I A = some o9 → mMv l yX12_sayLine wsX12_sayLine Rr [.ref (h 0), .int x1, .int x2] D cy ci h I A o9) (X : CallFix p m c cX12_sayLine 8 s args wsX12_sayLine RX12) (hret : mRv p l e R s m args below meth c Q cX12_sayLine D cy ci h A0 o) {self8 : Int32 → Int32 → Int32 → (Nat → Int32) → (Nat → Nat → Int32) → Option (Int32 × MS)} (hself8 : ∀ (x3 : Int32) (x4 : Int32) (x5 : Int32) (I : Nat → Int32) (A : Nat → Nat → Int32) (H : Heap) (locs : List Loc) (ls : Array Slot), self8 x3 x4 x5 I A = some o → mH D cy ci h A0 s H locs I A → lv_has ls 8 [(0, .ref (h 0)), (3, .int x3), (4, .int x4), (5, .int x5)] → W p l e R s m args below meth c H locs 0 0 Q (F0 m 8 ls [])) (n : Nat) : ∀ (x4 : Int32) (x6 : Int32) (x7 : Int32) (I : Nat → Int32) (A : Nat → Nat → Int32) (H : Heap) (locs : List Loc) (ls : Array Slot), f_sayLine_66 rec self8 n x4 x6 x7 I A = some o → mH D cy ci h A0 s H locs I A → lv_has ls 8 [(0, .ref (h 0)), (4, .int x4), (6, .int x6), (7, .int x7)] → W p l e R s m args below meth c H locs 0 0 Q (F0 m 66 ls []) := by
  induction n with
  | zero => intro x4 x6 x7 I A H locs ls hf; cases hf
  | succ n ih => intro x4 x6 x7 I A H locs ls hf hM hl; exact ws_sayLine_66 hR0 hR1 hR2 hrec X hret hself8 (self66 := f_sayLine_66 rec self8 n) ih hf hM hl
noncomputable def f_sayLine_64 (rec : Int32 → Int32 → (Nat → Int32) → (Nat → Nat → Int32) → Option (Int32 × MS)) (self8 : Int32 → Int32 → Int32 → (Nat → Int32) → (Nat → Nat → Int32) → Option (Int32 × MS)) (x4 : Int32) (x6 : Int32) (t0 : Int32) (I : Nat → Int32) (A : Nat → Nat → Int32) : Option (Int32 × MS) :=
  f_sayLine_66 rec self8 mFuel x4 x6 t0 I A

set_option maxRecDepth 100000 in
set_option maxHeartbeats 4000000 in
theorem w_sayLine_64 {p : Program} {l : Launch} {e : Env} {s : State} {m : MethodId} {args : Array Value} {below : List Frame} {meth : Method} {c : Code} {Q : State → Prop} {D : va_G} {cy ci : ClassId} {h : Nat → Nat} {A0 : Nat → Prop} {o : Int32 × MS} {R Rr : Room} (hR0 : 8 ≤ R.frames ∧ 205 ≤ R.locals) (hR1 : Rr.cells = 0 ∧ Rr.slots = 0) (hR2 : Rr.frames + 1 ≤ R.frames ∧ 8 + (8 + 11) + Rr.locals ≤ R.locals) {rec : Int32 → Int32 → (Nat → Int32) → (Nat → Nat → Int32) → Option (Int32 × MS)} (hrec : ∀ (x1 : Int32) (x2 : Int32) (I : Nat → Int32) (A : Nat → Nat → Int32) (o9 : Int32 × MS), rec x1 x2 I A = some o9 → mMv l yX12_sayLine wsX12_sayLine Rr [.ref (h 0), .int x1, .int x2] D cy ci h I A o9) (X : CallFix p m c cX12_sayLine 8 s args wsX12_sayLine RX12) (hret : mRv p l e R s m args below meth c Q cX12_sayLine D cy ci h A0 o) {self8 : Int32 → Int32 → Int32 → (Nat → Int32) → (Nat → Nat → Int32) → Option (Int32 × MS)} (hself8 : ∀ (x3 : Int32) (x4 : Int32) (x5 : Int32) (I : Nat → Int32) (A : Nat → Nat → Int32) (H : Heap) (locs : List Loc) (ls : Array Slot), self8 x3 x4 x5 I A = some o → mH D cy ci h A0 s H locs I A → lv_has ls 8 [(0, .ref (h 0)), (3, .int x3), (4, .int x4), (5, .int x5)] → W p l e R s m args below meth c H locs 0 0 Q (F0 m 8 ls [])) {x4 : Int32} {x6 : Int32} {t0 : Int32} {I : Nat → Int32} {A : Nat → Nat → Int32} {H : Heap} {locs : List Loc} {ls : Array Slot} (hf : f_sayLine_64 rec self8 x4 x6 t0 I A = some o) (hM : mH D cy ci h A0 s H locs I A) (hl : lv_has ls 8 [(0, .ref (h 0)), (4, .int x4), (6, .int x6)]) : W p l e R s m args below meth c H locs 0 0 Q (F0 m 64 ls [.int t0]) := by
  obtain ⟨hx, hb, hml, hown, hts⟩ := id X
  unfold f_sayLine_64 at hf
  refine lv_istore (lv' := [(7, .int t0), (0, .ref (h 0)), (4, .int x4), (6, .int x6)]) hx hb dX12_sayLine_64 hl (by decide) rfl (fun ls hl => ?_)
  exact w_sayLine_66 hR0 hR1 hR2 hrec X hret hself8 _ _ _ _ _ _ _ _ _ hf hM (lv_sub hl [1, 2, 3, 0] rfl)
noncomputable def f_sayLine_46 (rec : Int32 → Int32 → (Nat → Int32) → (Nat → Nat → Int32) → Option (Int32 × MS)) (self8 : Int32 → Int32 → Int32 → (Nat → Int32) → (Nat → Nat → Int32) → Option (Int32 × MS)) (x5 : Int32) (x6 : Int32) (t0 : Int32) (I : Nat → Int32) (A : Nat → Nat → Int32) : Option (Int32 × MS) :=
  m_if (x5 = 0) (
  f_sayLine_64 rec self8 t0 x6 (-1 : Int32) I A
  ) (
  m_chk (¬ (x6 < 0 ∨ 602 ≤ (x6).toNatClampNeg)) (
  m_bnd (A 11 (x6).toNatClampNeg) (fun v1 =>
  f_sayLine_64 rec self8 t0 x6 v1 I A))
  )

set_option maxRecDepth 100000 in
set_option maxHeartbeats 4000000 in
theorem w_sayLine_46 {p : Program} {l : Launch} {e : Env} {s : State} {m : MethodId} {args : Array Value} {below : List Frame} {meth : Method} {c : Code} {Q : State → Prop} {D : va_G} {cy ci : ClassId} {h : Nat → Nat} {A0 : Nat → Prop} {o : Int32 × MS} {R Rr : Room} (hR0 : 8 ≤ R.frames ∧ 205 ≤ R.locals) (hR1 : Rr.cells = 0 ∧ Rr.slots = 0) (hR2 : Rr.frames + 1 ≤ R.frames ∧ 8 + (8 + 11) + Rr.locals ≤ R.locals) {rec : Int32 → Int32 → (Nat → Int32) → (Nat → Nat → Int32) → Option (Int32 × MS)} (hrec : ∀ (x1 : Int32) (x2 : Int32) (I : Nat → Int32) (A : Nat → Nat → Int32) (o9 : Int32 × MS), rec x1 x2 I A = some o9 → mMv l yX12_sayLine wsX12_sayLine Rr [.ref (h 0), .int x1, .int x2] D cy ci h I A o9) (X : CallFix p m c cX12_sayLine 8 s args wsX12_sayLine RX12) (hret : mRv p l e R s m args below meth c Q cX12_sayLine D cy ci h A0 o) {self8 : Int32 → Int32 → Int32 → (Nat → Int32) → (Nat → Nat → Int32) → Option (Int32 × MS)} (hself8 : ∀ (x3 : Int32) (x4 : Int32) (x5 : Int32) (I : Nat → Int32) (A : Nat → Nat → Int32) (H : Heap) (locs : List Loc) (ls : Array Slot), self8 x3 x4 x5 I A = some o → mH D cy ci h A0 s H locs I A → lv_has ls 8 [(0, .ref (h 0)), (3, .int x3), (4, .int x4), (5, .int x5)] → W p l e R s m args below meth c H locs 0 0 Q (F0 m 8 ls [])) {x5 : Int32} {x6 : Int32} {t0 : Int32} {I : Nat → Int32} {A : Nat → Nat → Int32} {H : Heap} {locs : List Loc} {ls : Array Slot} (hf : f_sayLine_46 rec self8 x5 x6 t0 I A = some o) (hM : mH D cy ci h A0 s H locs I A) (hl : lv_has ls 8 [(0, .ref (h 0)), (5, .int x5), (6, .int x6)]) : W p l e R s m args below meth c H locs 0 0 Q (F0 m 46 ls [.int t0]) := by
  obtain ⟨hx, hb, hml, hown, hts⟩ := id X
  unfold f_sayLine_46 at hf
  refine lv_istore (lv' := [(4, .int t0), (0, .ref (h 0)), (5, .int x5), (6, .int x6)]) hx hb dX12_sayLine_46 hl (by decide) rfl (fun ls hl => ?_)
  refine lv_iload hx hb dX12_sayLine_48 (lv_at hl 2 rfl) ?_
  refine lv_if_eq (tgt := 63) hx hb dX12_sayLine_50 (by decide) (fun cc1 => ?_) (fun cc1 => ?_)
  · replace hf := m_ifT hf cc1
    refine lv_iconst (v := (-1 : Int32)) hx hb dX12_sayLine_63 (by decide) ?_
    exact w_sayLine_64 hR0 hR1 hR2 hrec X hret hself8 hf hM (lv_sub hl [1, 0, 3] rfl)
  · replace hf := m_ifF hf cc1
    refine lv_aload_n hx hb dX12_sayLine_53 rfl (lv_at hl 1 rfl) ?_
    refine m_get (v := .ref (h 11)) X hw_sayLine hM 11 (by decide) fl_sayLine_11 rfl dX12_sayLine_54 ?_
    refine lv_iload hx hb dX12_sayLine_57 (lv_at hl 3 rfl) ?_
    obtain ⟨cd, hf⟩ := m_chkE hf
    refine m_iald X hM 11 7 602 rfl cd dX12_sayLine_59 ?_
    clear cd
    obtain ⟨v1, ev, hf⟩ := m_bndE hf
    refine m_top ev ?_
    clear ev
    refine lv_goto (tgt := 64) hx hb dX12_sayLine_60 (by decide) ?_
    exact w_sayLine_64 hR0 hR1 hR2 hrec X hret hself8 hf hM (lv_sub hl [1, 0, 3] rfl)
noncomputable def f_sayLine_8s (rec : Int32 → Int32 → (Nat → Int32) → (Nat → Nat → Int32) → Option (Int32 × MS)) (self8 : Int32 → Int32 → Int32 → (Nat → Int32) → (Nat → Nat → Int32) → Option (Int32 × MS)) (x3 : Int32) (x4 : Int32) (x5 : Int32) (I : Nat → Int32) (A : Nat → Nat → Int32) : Option (Int32 × MS) :=
  m_if (x3 < 0) (
  some (0, (I, A))
  ) (
  m_bnd ((301 : Int32) * (I 5)) (fun v1 =>
  m_bnd (v1 + x3) (fun v2 =>
  m_cl (f_sayMove x3 x4 I A) (fun r3 Ic3 Ac3 =>
  m_chk (¬ (v2 < 0 ∨ 602 ≤ (v2).toNatClampNeg)) (
  m_bnd (Ac3 14 (v2).toNatClampNeg) (fun v4 =>
  m_if (v4 ≤ 0) (
  f_sayLine_46 rec self8 x5 v2 (0 : Int32) Ic3 Ac3
  ) (
  f_sayLine_46 rec self8 x5 v2 (1 : Int32) Ic3 Ac3
  ))))))
  )

set_option maxRecDepth 100000 in
set_option maxHeartbeats 4000000 in
theorem ws_sayLine_8 {p : Program} {l : Launch} {e : Env} {s : State} {m : MethodId} {args : Array Value} {below : List Frame} {meth : Method} {c : Code} {Q : State → Prop} {D : va_G} {cy ci : ClassId} {h : Nat → Nat} {A0 : Nat → Prop} {o : Int32 × MS} {R Rr : Room} (hR0 : 8 ≤ R.frames ∧ 205 ≤ R.locals) (hR1 : Rr.cells = 0 ∧ Rr.slots = 0) (hR2 : Rr.frames + 1 ≤ R.frames ∧ 8 + (8 + 11) + Rr.locals ≤ R.locals) {rec : Int32 → Int32 → (Nat → Int32) → (Nat → Nat → Int32) → Option (Int32 × MS)} (hrec : ∀ (x1 : Int32) (x2 : Int32) (I : Nat → Int32) (A : Nat → Nat → Int32) (o9 : Int32 × MS), rec x1 x2 I A = some o9 → mMv l yX12_sayLine wsX12_sayLine Rr [.ref (h 0), .int x1, .int x2] D cy ci h I A o9) (X : CallFix p m c cX12_sayLine 8 s args wsX12_sayLine RX12) (hret : mRv p l e R s m args below meth c Q cX12_sayLine D cy ci h A0 o) {self8 : Int32 → Int32 → Int32 → (Nat → Int32) → (Nat → Nat → Int32) → Option (Int32 × MS)} (hself8 : ∀ (x3 : Int32) (x4 : Int32) (x5 : Int32) (I : Nat → Int32) (A : Nat → Nat → Int32) (H : Heap) (locs : List Loc) (ls : Array Slot), self8 x3 x4 x5 I A = some o → mH D cy ci h A0 s H locs I A → lv_has ls 8 [(0, .ref (h 0)), (3, .int x3), (4, .int x4), (5, .int x5)] → W p l e R s m args below meth c H locs 0 0 Q (F0 m 8 ls [])) {x3 : Int32} {x4 : Int32} {x5 : Int32} {I : Nat → Int32} {A : Nat → Nat → Int32} {H : Heap} {locs : List Loc} {ls : Array Slot} (hf : f_sayLine_8s rec self8 x3 x4 x5 I A = some o) (hM : mH D cy ci h A0 s H locs I A) (hl : lv_has ls 8 [(0, .ref (h 0)), (3, .int x3), (4, .int x4), (5, .int x5)]) : W p l e R s m args below meth c H locs 0 0 Q (F0 m 8 ls []) := by
  obtain ⟨hx, hb, hml, hown, hts⟩ := id X
  unfold f_sayLine_8s at hf
  refine lv_iload_n hx hb dX12_sayLine_8 rfl (lv_at hl 1 rfl) ?_
  refine lv_if_lt (tgt := 144) hx hb dX12_sayLine_9 (by decide) (fun cc1 => ?_) (fun cc1 => ?_)
  · replace hf := m_ifT hf cc1
    cases hf
    exact hret H locs _ ls hM dX12_sayLine_144
  · replace hf := m_ifF hf cc1
    refine lv_sipush (v := (301 : Int32)) hx hb dX12_sayLine_12 (by decide) ?_
    refine lv_aload_n hx hb dX12_sayLine_15 rfl (lv_at hl 0 rfl) ?_
    refine m_get (v := .int (I 5)) X hw_sayLine hM 5 (by decide) fl_sayLine_5 rfl dX12_sayLine_16 ?_
    refine lv_imul hx hb dX12_sayLine_19 ?_
    obtain ⟨v1, ev, hf⟩ := m_bndE hf
    refine m_top ev ?_
    clear ev
    refine lv_iload_n hx hb dX12_sayLine_20 rfl (lv_at hl 1 rfl) ?_
    refine lv_iadd hx hb dX12_sayLine_21 ?_
    obtain ⟨v2, ev, hf⟩ := m_bndE hf
    refine m_top ev ?_
    clear ev
    refine lv_istore (lv' := [(6, .int v2), (0, .ref (h 0)), (3, .int x3), (4, .int x4), (5, .int x5)]) hx hb dX12_sayLine_22 hl (by decide) rfl (fun ls hl => ?_)
    refine lv_aload_n hx hb dX12_sayLine_24 rfl (lv_at hl 1 rfl) ?_
    refine lv_iload_n hx hb dX12_sayLine_25 rfl (lv_at hl 2 rfl) ?_
    refine lv_iload hx hb dX12_sayLine_26 (lv_at hl 3 rfl) ?_
    obtain ⟨o3, ho, hf⟩ := m_clE hf
    refine m_callVv X hM (c_sayMove ho) gX12_sayLine_X12_sayMove rfl ⟨rfl, rfl⟩ hd_sayMove ⟨Nat.le_trans (Nat.le_of_ble_eq_true rfl) hR0.1, Nat.le_trans (Nat.le_of_ble_eq_true rfl) hR0.2⟩ rfl hl.1 rfl (Nat.le_of_ble_eq_true rfl) dX12_sayLine_28 (fun H locs hM => ?_)
    clear ho
    refine lv_aload_n hx hb dX12_sayLine_31 rfl (lv_at hl 1 rfl) ?_
    refine m_get (v := .ref (h 14)) X hw_sayLine hM 14 (by decide) fl_sayLine_14 rfl dX12_sayLine_32 ?_
    refine lv_iload hx hb dX12_sayLine_35 (lv_at hl 0 rfl) ?_
    obtain ⟨cd, hf⟩ := m_chkE hf
    refine m_iald X hM 14 10 602 rfl cd dX12_sayLine_37 ?_
    clear cd
    obtain ⟨v4, ev, hf⟩ := m_bndE hf
    refine m_top ev ?_
    clear ev
    refine lv_if_le (tgt := 45) hx hb dX12_sayLine_38 (by decide) (fun cc1 => ?_) (fun cc1 => ?_)
    · replace hf := m_ifT hf cc1
      refine lv_iconst (v := (0 : Int32)) hx hb dX12_sayLine_45 (by decide) ?_
      exact w_sayLine_46 hR0 hR1 hR2 hrec X hret hself8 hf hM (lv_sub hl [1, 4, 0] rfl)
    · replace hf := m_ifF hf cc1
      refine lv_iconst (v := (1 : Int32)) hx hb dX12_sayLine_41 (by decide) ?_
      refine lv_goto (tgt := 46) hx hb dX12_sayLine_42 (by decide) ?_
      exact w_sayLine_46 hR0 hR1 hR2 hrec X hret hself8 hf hM (lv_sub hl [1, 4, 0] rfl)
noncomputable def f_sayLine_8 (rec : Int32 → Int32 → (Nat → Int32) → (Nat → Nat → Int32) → Option (Int32 × MS)) : Nat → Int32 → Int32 → Int32 → (Nat → Int32) → (Nat → Nat → Int32) → Option (Int32 × MS)
  | 0 => fun _ _ _ _ _ => none
  | n + 1 => f_sayLine_8s rec (f_sayLine_8 rec n)
theorem w_sayLine_8 {p : Program} {l : Launch} {e : Env} {s : State} {m : MethodId} {args : Array Value} {below : List Frame} {meth : Method} {c : Code} {Q : State → Prop} {D : va_G} {cy ci : ClassId} {h : Nat → Nat} {A0 : Nat → Prop} {o : Int32 × MS} {R Rr : Room} (hR0 : 8 ≤ R.frames ∧ 205 ≤ R.locals) (hR1 : Rr.cells = 0 ∧ Rr.slots = 0) (hR2 : Rr.frames + 1 ≤ R.frames ∧ 8 + (8 + 11) + Rr.locals ≤ R.locals) {rec : Int32 → Int32 → (Nat → Int32) → (Nat → Nat → Int32) → Option (Int32 × MS)} (hrec : ∀ (x1 : Int32) (x2 : Int32) (I : Nat → Int32) (A : Nat → Nat → Int32) (o9 : Int32 × MS), rec x1 x2 I A = some o9 → mMv l yX12_sayLine wsX12_sayLine Rr [.ref (h 0), .int x1, .int x2] D cy ci h I A o9) (X : CallFix p m c cX12_sayLine 8 s args wsX12_sayLine RX12) (hret : mRv p l e R s m args below meth c Q cX12_sayLine D cy ci h A0 o) (n : Nat) : ∀ (x3 : Int32) (x4 : Int32) (x5 : Int32) (I : Nat → Int32) (A : Nat → Nat → Int32) (H : Heap) (locs : List Loc) (ls : Array Slot), f_sayLine_8 rec n x3 x4 x5 I A = some o → mH D cy ci h A0 s H locs I A → lv_has ls 8 [(0, .ref (h 0)), (3, .int x3), (4, .int x4), (5, .int x5)] → W p l e R s m args below meth c H locs 0 0 Q (F0 m 8 ls []) := by
  induction n with
  | zero => intro x3 x4 x5 I A H locs ls hf; cases hf
  | succ n ih => intro x3 x4 x5 I A H locs ls hf hM hl; exact ws_sayLine_8 hR0 hR1 hR2 hrec X hret (self8 := f_sayLine_8 rec n) ih hf hM hl
noncomputable def f_sayLine_0 (rec : Int32 → Int32 → (Nat → Int32) → (Nat → Nat → Int32) → Option (Int32 × MS)) (x1 : Int32) (x2 : Int32) (I : Nat → Int32) (A : Nat → Nat → Int32) : Option (Int32 × MS) :=
  f_sayLine_8 rec mFuel x1 (1 : Int32) x2 I A

set_option maxRecDepth 100000 in
set_option maxHeartbeats 4000000 in
theorem w_sayLine_0 {p : Program} {l : Launch} {e : Env} {s : State} {m : MethodId} {args : Array Value} {below : List Frame} {meth : Method} {c : Code} {Q : State → Prop} {D : va_G} {cy ci : ClassId} {h : Nat → Nat} {A0 : Nat → Prop} {o : Int32 × MS} {R Rr : Room} (hR0 : 8 ≤ R.frames ∧ 205 ≤ R.locals) (hR1 : Rr.cells = 0 ∧ Rr.slots = 0) (hR2 : Rr.frames + 1 ≤ R.frames ∧ 8 + (8 + 11) + Rr.locals ≤ R.locals) {rec : Int32 → Int32 → (Nat → Int32) → (Nat → Nat → Int32) → Option (Int32 × MS)} (hrec : ∀ (x1 : Int32) (x2 : Int32) (I : Nat → Int32) (A : Nat → Nat → Int32) (o9 : Int32 × MS), rec x1 x2 I A = some o9 → mMv l yX12_sayLine wsX12_sayLine Rr [.ref (h 0), .int x1, .int x2] D cy ci h I A o9) (X : CallFix p m c cX12_sayLine 8 s args wsX12_sayLine RX12) (hret : mRv p l e R s m args below meth c Q cX12_sayLine D cy ci h A0 o) {x1 : Int32} {x2 : Int32} {I : Nat → Int32} {A : Nat → Nat → Int32} {H : Heap} {locs : List Loc} {ls : Array Slot} (hf : f_sayLine_0 rec x1 x2 I A = some o) (hM : mH D cy ci h A0 s H locs I A) (hl : lv_has ls 8 [(0, .ref (h 0)), (1, .int x1), (2, .int x2)]) : W p l e R s m args below meth c H locs 0 0 Q (F0 m 0 ls []) := by
  obtain ⟨hx, hb, hml, hown, hts⟩ := id X
  unfold f_sayLine_0 at hf
  refine lv_iload_n hx hb dX12_sayLine_0 rfl (lv_at hl 1 rfl) ?_
  refine lv_istore_n (lv' := [(3, .int x1), (0, .ref (h 0)), (1, .int x1), (2, .int x2)]) hx hb dX12_sayLine_1 rfl hl (by decide) rfl (fun ls hl => ?_)
  refine lv_iconst (v := (1 : Int32)) hx hb dX12_sayLine_2 (by decide) ?_
  refine lv_istore (lv' := [(4, .int (1 : Int32)), (3, .int x1), (0, .ref (h 0)), (1, .int x1), (2, .int x2)]) hx hb dX12_sayLine_3 hl (by decide) rfl (fun ls hl => ?_)
  refine lv_iload_n hx hb dX12_sayLine_5 rfl (lv_at hl 4 rfl) ?_
  refine lv_istore (lv' := [(5, .int x2), (4, .int (1 : Int32)), (3, .int x1), (0, .ref (h 0)), (1, .int x1), (2, .int x2)]) hx hb dX12_sayLine_6 hl (by decide) rfl (fun ls hl => ?_)
  exact w_sayLine_8 hR0 hR1 hR2 hrec X hret _ _ _ _ _ _ _ _ _ hf hM (lv_sub hl [3, 2, 1, 0] rfl)
noncomputable def fr_sayLine : Nat → Int32 → Int32 → (Nat → Int32) → (Nat → Nat → Int32) → Option (Int32 × MS)
  | 0 => fun _ _ _ _ => none
  | n + 1 => fun x1 x2 I A => f_sayLine_0 (fr_sayLine n) x1 x2 I A
noncomputable abbrev rr_sayLine (n : Nat) : Room := { frames := 8 + n, cells := 0, slots := 0, locals := 205 + n * 27 }
theorem cr_sayLine {l : Launch} {D : va_G} {cy ci : ClassId} {h : Nat → Nat} (n : Nat) : ∀ (x1 : Int32) (x2 : Int32) (I : Nat → Int32) (A : Nat → Nat → Int32) (o : Int32 × MS), fr_sayLine n x1 x2 I A = some o → mMv l yX12_sayLine wsX12_sayLine (rr_sayLine n) [.ref (h 0), .int x1, .int x2] D cy ci h I A o := by
  induction n with
  | zero => intro x1 x2 I A o hf; cases hf
  | succ n ih =>
    intro x1 x2 I A o hf
    exact m_entryV (cc := cX12_sayLine) (maxL := 8) (by decide) rfl rfl (Nat.le_of_ble_eq_true rfl) (fun p e s m args below meth c A0 Q H locs ls X hret hM hl => w_sayLine_0 ⟨by show 8 ≤ 8 + (n + 1); omega, by show 205 ≤ 205 + (n + 1) * 27; omega⟩ ⟨rfl, rfl⟩ ⟨by show 8 + n + 1 ≤ 8 + (n + 1); omega, by show 8 + (8 + 11) + (205 + n * 27) ≤ 205 + (n + 1) * 27; omega⟩ ih X hret hf hM (lv_sub hl [0, 1, 2] rfl))
noncomputable def f_sayLine (x1 : Int32) (x2 : Int32) (I : Nat → Int32) (A : Nat → Nat → Int32) : Option (Int32 × MS) := fr_sayLine 8 x1 x2 I A
theorem c_sayLine {l : Launch} {D : va_G} {cy ci : ClassId} {h : Nat → Nat} {x1 : Int32} {x2 : Int32} {I : Nat → Int32} {A : Nat → Nat → Int32} {o : Int32 × MS} (hf : f_sayLine x1 x2 I A = some o) : mMv l yX12_sayLine wsX12_sayLine ({ frames := 16, cells := 0, slots := 0, locals := 421 } : Room) [.ref (h 0), .int x1, .int x2] D cy ci h I A o := cr_sayLine 8 x1 x2 I A o hf
theorem hw_write : ∀ w ∈ wsX120, w ∈ wsX12_write := by decide +kernel
theorem fl_write_0 : Cond.fieldLink RX12 99 "MoveTextsModel" "thrown" "I" ∈ wsX12_write := by decide +kernel
theorem fl_write_3 : Cond.fieldLink RX12 364 "MoveTextsModel" "told" "I" ∈ wsX12_write := by decide +kernel
theorem fl_write_5 : Cond.fieldLink RX12 347 "MoveTextsModel" "game" "I" ∈ wsX12_write := by decide +kernel
theorem fl_write_6 : Cond.fieldLink RX12 353 "MoveTextsModel" "here" "I" ∈ wsX12_write := by decide +kernel
theorem fl_write_10 : Cond.fieldLink RX12 27 "MoveTextsModel" "child" "[I" ∈ wsX12_write := by decide +kernel
theorem fl_write_14 : Cond.fieldLink RX12 39 "MoveTextsModel" "remarkSize" "[I" ∈ wsX12_write := by decide +kernel
theorem fl_write_18 : Cond.fieldLink RX12 52 "MoveTextsModel" "tagCount" "[I" ∈ wsX12_write := by decide +kernel
theorem fl_write_19 : Cond.fieldLink RX12 55 "MoveTextsModel" "nameSize" "[I" ∈ wsX12_write := by decide +kernel
theorem fl_write_20 : Cond.fieldLink RX12 58 "MoveTextsModel" "names" "[C" ∈ wsX12_write := by decide +kernel
theorem fl_write_21 : Cond.fieldLink RX12 61 "MoveTextsModel" "valueSize" "[I" ∈ wsX12_write := by decide +kernel
theorem fl_write_22 : Cond.fieldLink RX12 64 "MoveTextsModel" "values" "[C" ∈ wsX12_write := by decide +kernel
theorem fl_write_23 : Cond.fieldLink RX12 67 "MoveTextsModel" "results" "[I" ∈ wsX12_write := by decide +kernel
theorem hd_write : yX12_write.cls = RX12 ∧ yX12_write.cls ≠ "java/lang/invoke/MethodHandle" ∧ yX12_write.cls ≠ "java/lang/invoke/VarHandle" ∧ (parseMethodDescriptor yX12_write.desc).map (fun d => d.parameters.length) = some 0 := by decide +kernel
noncomputable def f_write_280s (self280 : Int32 → (Nat → Int32) → (Nat → Nat → Int32) → Option (Int32 × MS)) (x1 : Int32) (I : Nat → Int32) (A : Nat → Nat → Int32) : Option (Int32 × MS) :=
  m_chk (¬ ((I 5) < 0 ∨ 2 ≤ ((I 5)).toNatClampNeg)) (
  m_bnd (A 23 ((I 5)).toNatClampNeg) (fun v1 =>
  m_cl (f_resultSize v1 I A) (fun r2 Ic2 Ac2 =>
  m_if (r2 ≤ x1) (
  m_cl (f_place (Ic2 5) (Ic2 6) Ic2 Ac2) (fun r3 Ic3 Ac3 =>
  some ((Ic3 3), (Ic3, Ac3)))
  ) (
  m_chk (¬ ((Ic2 5) < 0 ∨ 2 ≤ ((Ic2 5)).toNatClampNeg)) (
  m_bnd (Ac2 23 ((Ic2 5)).toNatClampNeg) (fun v4 =>
  m_cl (f_resultSign v4 x1 Ic2 Ac2) (fun r5 Ic5 Ac5 =>
  m_cl (f_ink r5 Ic5 Ac5) (fun r6 Ic6 Ac6 =>
  m_bnd (x1 + (1 : Int32)) (fun v7 =>
  self280 v7 Ic6 Ac6)))))
  ))))

set_option maxRecDepth 100000 in
set_option maxHeartbeats 4000000 in
theorem ws_write_280 {p : Program} {l : Launch} {e : Env} {s : State} {m : MethodId} {args : Array Value} {below : List Frame} {meth : Method} {c : Code} {Q : State → Prop} {D : va_G} {cy ci : ClassId} {h : Nat → Nat} {A0 : Nat → Prop} {o : Int32 × MS} (X : CallFix p m c cX12_write 4 s args wsX12_write RX12) (hret : mRi p l e ({ frames := 17, cells := 0, slots := 0, locals := 448 } : Room) s m args below meth c Q cX12_write D cy ci h A0 .int o) {self280 : Int32 → (Nat → Int32) → (Nat → Nat → Int32) → Option (Int32 × MS)} (hself280 : ∀ (x1 : Int32) (I : Nat → Int32) (A : Nat → Nat → Int32) (H : Heap) (locs : List Loc) (ls : Array Slot), self280 x1 I A = some o → mH D cy ci h A0 s H locs I A → lv_has ls 4 [(0, .ref (h 0)), (1, .int x1)] → W p l e ({ frames := 17, cells := 0, slots := 0, locals := 448 } : Room) s m args below meth c H locs 0 0 Q (F0 m 280 ls [])) {x1 : Int32} {I : Nat → Int32} {A : Nat → Nat → Int32} {H : Heap} {locs : List Loc} {ls : Array Slot} (hf : f_write_280s self280 x1 I A = some o) (hM : mH D cy ci h A0 s H locs I A) (hl : lv_has ls 4 [(0, .ref (h 0)), (1, .int x1)]) : W p l e ({ frames := 17, cells := 0, slots := 0, locals := 448 } : Room) s m args below meth c H locs 0 0 Q (F0 m 280 ls []) := by
  obtain ⟨hx, hb, hml, hown, hts⟩ := id X
  unfold f_write_280s at hf
  refine lv_iload_n hx hb dX12_write_280 rfl (lv_at hl 1 rfl) ?_
  refine lv_aload_n hx hb dX12_write_281 rfl (lv_at hl 0 rfl) ?_
  refine m_get (v := .ref (h 23)) X hw_write hM 23 (by decide) fl_write_23 rfl dX12_write_282 ?_
  refine lv_aload_n hx hb dX12_write_285 rfl (lv_at hl 0 rfl) ?_
  refine m_get (v := .int (I 5)) X hw_write hM 5 (by decide) fl_write_5 rfl dX12_write_286 ?_
  obtain ⟨cd, hf⟩ := m_chkE hf
  refine m_iald X hM 23 19 2 rfl cd dX12_write_289 ?_
  clear cd
  obtain ⟨v1, ev, hf⟩ := m_bndE hf
  refine m_top ev ?_
  clear ev
  obtain ⟨o2, ho, hf⟩ := m_clE hf
  refine m_callSi X hM (c_resultSize ho) gX12_write_X12_resultSize rfl ⟨rfl, rfl⟩ hd_resultSize ⟨Nat.le_of_ble_eq_true rfl, Nat.le_of_ble_eq_true rfl⟩ rfl hl.1 rfl (Nat.le_of_ble_eq_true rfl) dX12_write_290 (fun H locs hM => ?_)
  clear ho
  refine lv_icmp_ge (tgt := 319) hx hb dX12_write_293 (by decide) (fun cc1 => ?_) (fun cc1 => ?_)
  · replace hf := m_ifT hf cc1
    refine lv_aload_n hx hb dX12_write_319 rfl (lv_at hl 0 rfl) ?_
    refine lv_aload_n hx hb dX12_write_320 rfl (lv_at hl 0 rfl) ?_
    refine m_get (v := .int (o2.2.1 5)) X hw_write hM 5 (by decide) fl_write_5 rfl dX12_write_321 ?_
    refine lv_aload_n hx hb dX12_write_324 rfl (lv_at hl 0 rfl) ?_
    refine m_get (v := .int (o2.2.1 6)) X hw_write hM 6 (by decide) fl_write_6 rfl dX12_write_325 ?_
    obtain ⟨o3, ho, hf⟩ := m_clE hf
    refine m_callVv X hM (c_place ho) gX12_write_X12_place rfl ⟨rfl, rfl⟩ hd_place ⟨Nat.le_of_ble_eq_true rfl, Nat.le_of_ble_eq_true rfl⟩ rfl hl.1 rfl (Nat.le_of_ble_eq_true rfl) dX12_write_328 (fun H locs hM => ?_)
    clear ho
    refine lv_aload_n hx hb dX12_write_331 rfl (lv_at hl 0 rfl) ?_
    refine m_get (v := .int (o3.2.1 3)) X hw_write hM 3 (by decide) fl_write_3 rfl dX12_write_332 ?_
    cases hf
    exact hret H locs _ ls hM rfl dX12_write_335
  · replace hf := m_ifF hf cc1
    refine lv_aload_n hx hb dX12_write_296 rfl (lv_at hl 0 rfl) ?_
    refine lv_aload_n hx hb dX12_write_297 rfl (lv_at hl 0 rfl) ?_
    refine m_get (v := .ref (h 23)) X hw_write hM 23 (by decide) fl_write_23 rfl dX12_write_298 ?_
    refine lv_aload_n hx hb dX12_write_301 rfl (lv_at hl 0 rfl) ?_
    refine m_get (v := .int (o2.2.1 5)) X hw_write hM 5 (by decide) fl_write_5 rfl dX12_write_302 ?_
    obtain ⟨cd, hf⟩ := m_chkE hf
    refine m_iald X hM 23 19 2 rfl cd dX12_write_305 ?_
    clear cd
    obtain ⟨v4, ev, hf⟩ := m_bndE hf
    refine m_top ev ?_
    clear ev
    refine lv_iload_n hx hb dX12_write_306 rfl (lv_at hl 1 rfl) ?_
    obtain ⟨o5, ho, hf⟩ := m_clE hf
    refine m_callSi X hM (c_resultSign ho) gX12_write_X12_resultSign rfl ⟨rfl, rfl⟩ hd_resultSign ⟨Nat.le_of_ble_eq_true rfl, Nat.le_of_ble_eq_true rfl⟩ rfl hl.1 rfl (Nat.le_of_ble_eq_true rfl) dX12_write_307 (fun H locs hM => ?_)
    clear ho
    obtain ⟨o6, ho, hf⟩ := m_clE hf
    refine m_callVv X hM (c_ink ho) gX12_write_X12_ink rfl ⟨rfl, rfl⟩ hd_ink ⟨Nat.le_of_ble_eq_true rfl, Nat.le_of_ble_eq_true rfl⟩ rfl hl.1 rfl (Nat.le_of_ble_eq_true rfl) dX12_write_310 (fun H locs hM => ?_)
    clear ho
    obtain ⟨v7, ev, hf⟩ := m_bndE hf
    refine lv_iinc (v := v7) (lv' := [(1, .int v7), (0, .ref (h 0))]) hx hb dX12_write_313 hl (k := 1) rfl (by rw [ev]; rfl) (by decide) rfl (fun ls hl => ?_)
    clear ev
    refine lv_goto (tgt := 280) hx hb dX12_write_316 (by decide) ?_
    exact hself280 _ _ _ _ _ _ hf hM (lv_sub hl [1, 0] rfl)
noncomputable def f_write_280 : Nat → Int32 → (Nat → Int32) → (Nat → Nat → Int32) → Option (Int32 × MS)
  | 0 => fun _ _ _ => none
  | n + 1 => f_write_280s (f_write_280 n)
theorem w_write_280 {p : Program} {l : Launch} {e : Env} {s : State} {m : MethodId} {args : Array Value} {below : List Frame} {meth : Method} {c : Code} {Q : State → Prop} {D : va_G} {cy ci : ClassId} {h : Nat → Nat} {A0 : Nat → Prop} {o : Int32 × MS} (X : CallFix p m c cX12_write 4 s args wsX12_write RX12) (hret : mRi p l e ({ frames := 17, cells := 0, slots := 0, locals := 448 } : Room) s m args below meth c Q cX12_write D cy ci h A0 .int o) (n : Nat) : ∀ (x1 : Int32) (I : Nat → Int32) (A : Nat → Nat → Int32) (H : Heap) (locs : List Loc) (ls : Array Slot), f_write_280 n x1 I A = some o → mH D cy ci h A0 s H locs I A → lv_has ls 4 [(0, .ref (h 0)), (1, .int x1)] → W p l e ({ frames := 17, cells := 0, slots := 0, locals := 448 } : Room) s m args below meth c H locs 0 0 Q (F0 m 280 ls []) := by
  induction n with
  | zero => intro x1 I A H locs ls hf; cases hf
  | succ n ih => intro x1 I A H locs ls hf hM hl; exact ws_write_280 X hret (self280 := f_write_280 n) ih hf hM hl
noncomputable def f_write_278 (I : Nat → Int32) (A : Nat → Nat → Int32) : Option (Int32 × MS) :=
  f_write_280 mFuel (0 : Int32) I A

set_option maxRecDepth 100000 in
set_option maxHeartbeats 4000000 in
theorem w_write_278 {p : Program} {l : Launch} {e : Env} {s : State} {m : MethodId} {args : Array Value} {below : List Frame} {meth : Method} {c : Code} {Q : State → Prop} {D : va_G} {cy ci : ClassId} {h : Nat → Nat} {A0 : Nat → Prop} {o : Int32 × MS} (X : CallFix p m c cX12_write 4 s args wsX12_write RX12) (hret : mRi p l e ({ frames := 17, cells := 0, slots := 0, locals := 448 } : Room) s m args below meth c Q cX12_write D cy ci h A0 .int o) {I : Nat → Int32} {A : Nat → Nat → Int32} {H : Heap} {locs : List Loc} {ls : Array Slot} (hf : f_write_278  I A = some o) (hM : mH D cy ci h A0 s H locs I A) (hl : lv_has ls 4 [(0, .ref (h 0))]) : W p l e ({ frames := 17, cells := 0, slots := 0, locals := 448 } : Room) s m args below meth c H locs 0 0 Q (F0 m 278 ls []) := by
  obtain ⟨hx, hb, hml, hown, hts⟩ := id X
  unfold f_write_278 at hf
  refine lv_iconst (v := (0 : Int32)) hx hb dX12_write_278 (by decide) ?_
  refine lv_istore_n (lv' := [(1, .int (0 : Int32)), (0, .ref (h 0))]) hx hb dX12_write_279 rfl hl (by decide) rfl (fun ls hl => ?_)
  exact w_write_280 X hret _ _ _ _ _ _ _ hf hM (lv_sub hl [1, 0] rfl)
noncomputable def f_write_238 (I : Nat → Int32) (A : Nat → Nat → Int32) : Option (Int32 × MS) :=
  m_bnd ((301 : Int32) * (I 5)) (fun v1 =>
  m_chk (¬ (v1 < 0 ∨ 602 ≤ (v1).toNatClampNeg)) (
  m_bnd (A 10 (v1).toNatClampNeg) (fun v2 =>
  m_if (v2 < 0) (
  f_write_278  I A
  ) (
  m_bnd ((301 : Int32) * (I 5)) (fun v3 =>
  m_chk (¬ (v3 < 0 ∨ 602 ≤ (v3).toNatClampNeg)) (
  m_bnd (A 10 (v3).toNatClampNeg) (fun v4 =>
  m_cl (f_sayLine v4 (1 : Int32) I A) (fun r5 Ic5 Ac5 =>
  m_cl (f_ink (32 : Int32) Ic5 Ac5) (fun r6 Ic6 Ac6 =>
  f_write_278  Ic6 Ac6)))))
  ))))

set_option maxRecDepth 100000 in
set_option maxHeartbeats 4000000 in
theorem w_write_238 {p : Program} {l : Launch} {e : Env} {s : State} {m : MethodId} {args : Array Value} {below : List Frame} {meth : Method} {c : Code} {Q : State → Prop} {D : va_G} {cy ci : ClassId} {h : Nat → Nat} {A0 : Nat → Prop} {o : Int32 × MS} (X : CallFix p m c cX12_write 4 s args wsX12_write RX12) (hret : mRi p l e ({ frames := 17, cells := 0, slots := 0, locals := 448 } : Room) s m args below meth c Q cX12_write D cy ci h A0 .int o) {I : Nat → Int32} {A : Nat → Nat → Int32} {H : Heap} {locs : List Loc} {ls : Array Slot} (hf : f_write_238  I A = some o) (hM : mH D cy ci h A0 s H locs I A) (hl : lv_has ls 4 [(0, .ref (h 0))]) : W p l e ({ frames := 17, cells := 0, slots := 0, locals := 448 } : Room) s m args below meth c H locs 0 0 Q (F0 m 238 ls []) := by
  obtain ⟨hx, hb, hml, hown, hts⟩ := id X
  unfold f_write_238 at hf
  refine lv_aload_n hx hb dX12_write_238 rfl (lv_at hl 0 rfl) ?_
  refine m_get (v := .ref (h 10)) X hw_write hM 10 (by decide) fl_write_10 rfl dX12_write_239 ?_
  refine lv_sipush (v := (301 : Int32)) hx hb dX12_write_242 (by decide) ?_
  refine lv_aload_n hx hb dX12_write_245 rfl (lv_at hl 0 rfl) ?_
  refine m_get (v := .int (I 5)) X hw_write hM 5 (by decide) fl_write_5 rfl dX12_write_246 ?_
  refine lv_imul hx hb dX12_write_249 ?_
  obtain ⟨v1, ev, hf⟩ := m_bndE hf
  refine m_top ev ?_
  clear ev
  obtain ⟨cd, hf⟩ := m_chkE hf
  refine m_iald X hM 10 6 602 rfl cd dX12_write_250 ?_
  clear cd
  obtain ⟨v2, ev, hf⟩ := m_bndE hf
  refine m_top ev ?_
  clear ev
  refine lv_if_lt (tgt := 278) hx hb dX12_write_251 (by decide) (fun cc1 => ?_) (fun cc1 => ?_)
  · replace hf := m_ifT hf cc1
    exact w_write_278 X hret hf hM (lv_sub hl [0] rfl)
  · replace hf := m_ifF hf cc1
    refine lv_aload_n hx hb dX12_write_254 rfl (lv_at hl 0 rfl) ?_
    refine lv_aload_n hx hb dX12_write_255 rfl (lv_at hl 0 rfl) ?_
    refine m_get (v := .ref (h 10)) X hw_write hM 10 (by decide) fl_write_10 rfl dX12_write_256 ?_
    refine lv_sipush (v := (301 : Int32)) hx hb dX12_write_259 (by decide) ?_
    refine lv_aload_n hx hb dX12_write_262 rfl (lv_at hl 0 rfl) ?_
    refine m_get (v := .int (I 5)) X hw_write hM 5 (by decide) fl_write_5 rfl dX12_write_263 ?_
    refine lv_imul hx hb dX12_write_266 ?_
    obtain ⟨v3, ev, hf⟩ := m_bndE hf
    refine m_top ev ?_
    clear ev
    obtain ⟨cd, hf⟩ := m_chkE hf
    refine m_iald X hM 10 6 602 rfl cd dX12_write_267 ?_
    clear cd
    obtain ⟨v4, ev, hf⟩ := m_bndE hf
    refine m_top ev ?_
    clear ev
    refine lv_iconst (v := (1 : Int32)) hx hb dX12_write_268 (by decide) ?_
    obtain ⟨o5, ho, hf⟩ := m_clE hf
    refine m_callVv X hM (c_sayLine ho) gX12_write_X12_sayLine rfl ⟨rfl, rfl⟩ hd_sayLine ⟨Nat.le_of_ble_eq_true rfl, Nat.le_of_ble_eq_true rfl⟩ rfl hl.1 rfl (Nat.le_of_ble_eq_true rfl) dX12_write_269 (fun H locs hM => ?_)
    clear ho
    refine lv_aload_n hx hb dX12_write_272 rfl (lv_at hl 0 rfl) ?_
    refine lv_bipush (v := (32 : Int32)) hx hb dX12_write_273 (by decide) ?_
    obtain ⟨o6, ho, hf⟩ := m_clE hf
    refine m_callVv X hM (c_ink ho) gX12_write_X12_ink rfl ⟨rfl, rfl⟩ hd_ink ⟨Nat.le_of_ble_eq_true rfl, Nat.le_of_ble_eq_true rfl⟩ rfl hl.1 rfl (Nat.le_of_ble_eq_true rfl) dX12_write_275 (fun H locs hM => ?_)
    clear ho
    exact w_write_278 X hret hf hM (lv_sub hl [0] rfl)
noncomputable def f_write_204 (I : Nat → Int32) (A : Nat → Nat → Int32) : Option (Int32 × MS) :=
  m_bnd ((301 : Int32) * (I 5)) (fun v1 =>
  m_chk (¬ (v1 < 0 ∨ 602 ≤ (v1).toNatClampNeg)) (
  m_bnd (A 14 (v1).toNatClampNeg) (fun v2 =>
  m_if (v2 ≤ 0) (
  f_write_238  I A
  ) (
  m_bnd ((301 : Int32) * (I 5)) (fun v3 =>
  m_cl (f_sayRemark v3 I A) (fun r4 Ic4 Ac4 =>
  m_cl (f_ink (32 : Int32) Ic4 Ac4) (fun r5 Ic5 Ac5 =>
  f_write_238  Ic5 Ac5)))
  ))))

set_option maxRecDepth 100000 in
set_option maxHeartbeats 4000000 in
theorem w_write_204 {p : Program} {l : Launch} {e : Env} {s : State} {m : MethodId} {args : Array Value} {below : List Frame} {meth : Method} {c : Code} {Q : State → Prop} {D : va_G} {cy ci : ClassId} {h : Nat → Nat} {A0 : Nat → Prop} {o : Int32 × MS} (X : CallFix p m c cX12_write 4 s args wsX12_write RX12) (hret : mRi p l e ({ frames := 17, cells := 0, slots := 0, locals := 448 } : Room) s m args below meth c Q cX12_write D cy ci h A0 .int o) {I : Nat → Int32} {A : Nat → Nat → Int32} {H : Heap} {locs : List Loc} {ls : Array Slot} (hf : f_write_204  I A = some o) (hM : mH D cy ci h A0 s H locs I A) (hl : lv_has ls 4 [(0, .ref (h 0))]) : W p l e ({ frames := 17, cells := 0, slots := 0, locals := 448 } : Room) s m args below meth c H locs 0 0 Q (F0 m 204 ls []) := by
  obtain ⟨hx, hb, hml, hown, hts⟩ := id X
  unfold f_write_204 at hf
  refine lv_aload_n hx hb dX12_write_204 rfl (lv_at hl 0 rfl) ?_
  refine m_get (v := .ref (h 14)) X hw_write hM 14 (by decide) fl_write_14 rfl dX12_write_205 ?_
  refine lv_sipush (v := (301 : Int32)) hx hb dX12_write_208 (by decide) ?_
  refine lv_aload_n hx hb dX12_write_211 rfl (lv_at hl 0 rfl) ?_
  refine m_get (v := .int (I 5)) X hw_write hM 5 (by decide) fl_write_5 rfl dX12_write_212 ?_
  refine lv_imul hx hb dX12_write_215 ?_
  obtain ⟨v1, ev, hf⟩ := m_bndE hf
  refine m_top ev ?_
  clear ev
  obtain ⟨cd, hf⟩ := m_chkE hf
  refine m_iald X hM 14 10 602 rfl cd dX12_write_216 ?_
  clear cd
  obtain ⟨v2, ev, hf⟩ := m_bndE hf
  refine m_top ev ?_
  clear ev
  refine lv_if_le (tgt := 238) hx hb dX12_write_217 (by decide) (fun cc1 => ?_) (fun cc1 => ?_)
  · replace hf := m_ifT hf cc1
    exact w_write_238 X hret hf hM (lv_sub hl [0] rfl)
  · replace hf := m_ifF hf cc1
    refine lv_aload_n hx hb dX12_write_220 rfl (lv_at hl 0 rfl) ?_
    refine lv_sipush (v := (301 : Int32)) hx hb dX12_write_221 (by decide) ?_
    refine lv_aload_n hx hb dX12_write_224 rfl (lv_at hl 0 rfl) ?_
    refine m_get (v := .int (I 5)) X hw_write hM 5 (by decide) fl_write_5 rfl dX12_write_225 ?_
    refine lv_imul hx hb dX12_write_228 ?_
    obtain ⟨v3, ev, hf⟩ := m_bndE hf
    refine m_top ev ?_
    clear ev
    obtain ⟨o4, ho, hf⟩ := m_clE hf
    refine m_callVv X hM (c_sayRemark ho) gX12_write_X12_sayRemark rfl ⟨rfl, rfl⟩ hd_sayRemark ⟨Nat.le_of_ble_eq_true rfl, Nat.le_of_ble_eq_true rfl⟩ rfl hl.1 rfl (Nat.le_of_ble_eq_true rfl) dX12_write_229 (fun H locs hM => ?_)
    clear ho
    refine lv_aload_n hx hb dX12_write_232 rfl (lv_at hl 0 rfl) ?_
    refine lv_bipush (v := (32 : Int32)) hx hb dX12_write_233 (by decide) ?_
    obtain ⟨o5, ho, hf⟩ := m_clE hf
    refine m_callVv X hM (c_ink ho) gX12_write_X12_ink rfl ⟨rfl, rfl⟩ hd_ink ⟨Nat.le_of_ble_eq_true rfl, Nat.le_of_ble_eq_true rfl⟩ rfl hl.1 rfl (Nat.le_of_ble_eq_true rfl) dX12_write_235 (fun H locs hM => ?_)
    clear ho
    exact w_write_238 X hret hf hM (lv_sub hl [0] rfl)
noncomputable def f_write_151 (self12 : Int32 → (Nat → Int32) → (Nat → Nat → Int32) → Option (Int32 × MS)) (self94 : Int32 → Int32 → (Nat → Int32) → (Nat → Nat → Int32) → Option (Int32 × MS)) (x1 : Int32) (x2 : Int32) (x3 : Int32) (I : Nat → Int32) (A : Nat → Nat → Int32) : Option (Int32 × MS) :=
  m_cl (f_ink x3 I A) (fun r1 Ic1 Ac1 =>
  m_bnd (x2 + (1 : Int32)) (fun v2 =>
  self94 x1 v2 Ic1 Ac1))

set_option maxRecDepth 100000 in
set_option maxHeartbeats 4000000 in
theorem w_write_151 {p : Program} {l : Launch} {e : Env} {s : State} {m : MethodId} {args : Array Value} {below : List Frame} {meth : Method} {c : Code} {Q : State → Prop} {D : va_G} {cy ci : ClassId} {h : Nat → Nat} {A0 : Nat → Prop} {o : Int32 × MS} (X : CallFix p m c cX12_write 4 s args wsX12_write RX12) (hret : mRi p l e ({ frames := 17, cells := 0, slots := 0, locals := 448 } : Room) s m args below meth c Q cX12_write D cy ci h A0 .int o) {self12 : Int32 → (Nat → Int32) → (Nat → Nat → Int32) → Option (Int32 × MS)} (hself12 : ∀ (x1 : Int32) (I : Nat → Int32) (A : Nat → Nat → Int32) (H : Heap) (locs : List Loc) (ls : Array Slot), self12 x1 I A = some o → mH D cy ci h A0 s H locs I A → lv_has ls 4 [(0, .ref (h 0)), (1, .int x1)] → W p l e ({ frames := 17, cells := 0, slots := 0, locals := 448 } : Room) s m args below meth c H locs 0 0 Q (F0 m 12 ls [])) {self94 : Int32 → Int32 → (Nat → Int32) → (Nat → Nat → Int32) → Option (Int32 × MS)} (hself94 : ∀ (x1 : Int32) (x2 : Int32) (I : Nat → Int32) (A : Nat → Nat → Int32) (H : Heap) (locs : List Loc) (ls : Array Slot), self94 x1 x2 I A = some o → mH D cy ci h A0 s H locs I A → lv_has ls 4 [(0, .ref (h 0)), (1, .int x1), (2, .int x2)] → W p l e ({ frames := 17, cells := 0, slots := 0, locals := 448 } : Room) s m args below meth c H locs 0 0 Q (F0 m 94 ls [])) {x1 : Int32} {x2 : Int32} {x3 : Int32} {I : Nat → Int32} {A : Nat → Nat → Int32} {H : Heap} {locs : List Loc} {ls : Array Slot} (hf : f_write_151 self12 self94 x1 x2 x3 I A = some o) (hM : mH D cy ci h A0 s H locs I A) (hl : lv_has ls 4 [(0, .ref (h 0)), (1, .int x1), (2, .int x2), (3, .int x3)]) : W p l e ({ frames := 17, cells := 0, slots := 0, locals := 448 } : Room) s m args below meth c H locs 0 0 Q (F0 m 151 ls []) := by
  obtain ⟨hx, hb, hml, hown, hts⟩ := id X
  unfold f_write_151 at hf
  refine lv_aload_n hx hb dX12_write_151 rfl (lv_at hl 0 rfl) ?_
  refine lv_iload_n hx hb dX12_write_152 rfl (lv_at hl 3 rfl) ?_
  obtain ⟨o1, ho, hf⟩ := m_clE hf
  refine m_callVv X hM (c_ink ho) gX12_write_X12_ink rfl ⟨rfl, rfl⟩ hd_ink ⟨Nat.le_of_ble_eq_true rfl, Nat.le_of_ble_eq_true rfl⟩ rfl hl.1 rfl (Nat.le_of_ble_eq_true rfl) dX12_write_153 (fun H locs hM => ?_)
  clear ho
  obtain ⟨v2, ev, hf⟩ := m_bndE hf
  refine lv_iinc (v := v2) (lv' := [(2, .int v2), (0, .ref (h 0)), (1, .int x1), (3, .int x3)]) hx hb dX12_write_156 hl (k := 2) rfl (by rw [ev]; rfl) (by decide) rfl (fun ls hl => ?_)
  clear ev
  refine lv_goto (tgt := 94) hx hb dX12_write_159 (by decide) ?_
  exact hself94 _ _ _ _ _ _ _ hf hM (lv_sub hl [1, 2, 0] rfl)
noncomputable def f_write_145 (self12 : Int32 → (Nat → Int32) → (Nat → Nat → Int32) → Option (Int32 × MS)) (self94 : Int32 → Int32 → (Nat → Int32) → (Nat → Nat → Int32) → Option (Int32 × MS)) (x1 : Int32) (x2 : Int32) (x3 : Int32) (I : Nat → Int32) (A : Nat → Nat → Int32) : Option (Int32 × MS) :=
  m_cl (f_ink (92 : Int32) I A) (fun r1 Ic1 Ac1 =>
  f_write_151 self12 self94 x1 x2 x3 Ic1 Ac1)

set_option maxRecDepth 100000 in
set_option maxHeartbeats 4000000 in
theorem w_write_145 {p : Program} {l : Launch} {e : Env} {s : State} {m : MethodId} {args : Array Value} {below : List Frame} {meth : Method} {c : Code} {Q : State → Prop} {D : va_G} {cy ci : ClassId} {h : Nat → Nat} {A0 : Nat → Prop} {o : Int32 × MS} (X : CallFix p m c cX12_write 4 s args wsX12_write RX12) (hret : mRi p l e ({ frames := 17, cells := 0, slots := 0, locals := 448 } : Room) s m args below meth c Q cX12_write D cy ci h A0 .int o) {self12 : Int32 → (Nat → Int32) → (Nat → Nat → Int32) → Option (Int32 × MS)} (hself12 : ∀ (x1 : Int32) (I : Nat → Int32) (A : Nat → Nat → Int32) (H : Heap) (locs : List Loc) (ls : Array Slot), self12 x1 I A = some o → mH D cy ci h A0 s H locs I A → lv_has ls 4 [(0, .ref (h 0)), (1, .int x1)] → W p l e ({ frames := 17, cells := 0, slots := 0, locals := 448 } : Room) s m args below meth c H locs 0 0 Q (F0 m 12 ls [])) {self94 : Int32 → Int32 → (Nat → Int32) → (Nat → Nat → Int32) → Option (Int32 × MS)} (hself94 : ∀ (x1 : Int32) (x2 : Int32) (I : Nat → Int32) (A : Nat → Nat → Int32) (H : Heap) (locs : List Loc) (ls : Array Slot), self94 x1 x2 I A = some o → mH D cy ci h A0 s H locs I A → lv_has ls 4 [(0, .ref (h 0)), (1, .int x1), (2, .int x2)] → W p l e ({ frames := 17, cells := 0, slots := 0, locals := 448 } : Room) s m args below meth c H locs 0 0 Q (F0 m 94 ls [])) {x1 : Int32} {x2 : Int32} {x3 : Int32} {I : Nat → Int32} {A : Nat → Nat → Int32} {H : Heap} {locs : List Loc} {ls : Array Slot} (hf : f_write_145 self12 self94 x1 x2 x3 I A = some o) (hM : mH D cy ci h A0 s H locs I A) (hl : lv_has ls 4 [(0, .ref (h 0)), (1, .int x1), (2, .int x2), (3, .int x3)]) : W p l e ({ frames := 17, cells := 0, slots := 0, locals := 448 } : Room) s m args below meth c H locs 0 0 Q (F0 m 145 ls []) := by
  obtain ⟨hx, hb, hml, hown, hts⟩ := id X
  unfold f_write_145 at hf
  refine lv_aload_n hx hb dX12_write_145 rfl (lv_at hl 0 rfl) ?_
  refine lv_bipush (v := (92 : Int32)) hx hb dX12_write_146 (by decide) ?_
  obtain ⟨o1, ho, hf⟩ := m_clE hf
  refine m_callVv X hM (c_ink ho) gX12_write_X12_ink rfl ⟨rfl, rfl⟩ hd_ink ⟨Nat.le_of_ble_eq_true rfl, Nat.le_of_ble_eq_true rfl⟩ rfl hl.1 rfl (Nat.le_of_ble_eq_true rfl) dX12_write_148 (fun H locs hM => ?_)
  clear ho
  exact w_write_151 X hret hself12 hself94 hf hM (lv_sub hl [0, 1, 2, 3] rfl)
noncomputable def f_write_94s (self12 : Int32 → (Nat → Int32) → (Nat → Nat → Int32) → Option (Int32 × MS)) (self94 : Int32 → Int32 → (Nat → Int32) → (Nat → Nat → Int32) → Option (Int32 × MS)) (x1 : Int32) (x2 : Int32) (I : Nat → Int32) (A : Nat → Nat → Int32) : Option (Int32 × MS) :=
  m_bnd ((8 : Int32) * (I 5)) (fun v1 =>
  m_bnd (v1 + x1) (fun v2 =>
  m_chk (¬ (v2 < 0 ∨ 16 ≤ (v2).toNatClampNeg)) (
  m_bnd (A 21 (v2).toNatClampNeg) (fun v3 =>
  m_if (v3 ≤ x2) (
  m_cl (f_ink (34 : Int32) I A) (fun r4 Ic4 Ac4 =>
  m_cl (f_ink (93 : Int32) Ic4 Ac4) (fun r5 Ic5 Ac5 =>
  m_cl (f_ink (10 : Int32) Ic5 Ac5) (fun r6 Ic6 Ac6 =>
  m_bnd (x1 + (1 : Int32)) (fun v7 =>
  self12 v7 Ic6 Ac6))))
  ) (
  m_bnd ((768 : Int32) * (I 5)) (fun v8 =>
  m_bnd ((96 : Int32) * x1) (fun v9 =>
  m_bnd (v8 + v9) (fun v10 =>
  m_bnd (v10 + x2) (fun v11 =>
  m_chk (¬ (v11 < 0 ∨ 1536 ≤ (v11).toNatClampNeg)) (
  m_bnd (A 22 (v11).toNatClampNeg) (fun v12 =>
  m_if (v12 = (34 : Int32)) (
  f_write_145 self12 self94 x1 x2 v12 I A
  ) (
  m_if (v12 = (92 : Int32)) (
  f_write_145 self12 self94 x1 x2 v12 I A
  ) (
  f_write_151 self12 self94 x1 x2 v12 I A
  )
  )))))))
  )))))

set_option maxRecDepth 100000 in
set_option maxHeartbeats 4000000 in
theorem ws_write_94 {p : Program} {l : Launch} {e : Env} {s : State} {m : MethodId} {args : Array Value} {below : List Frame} {meth : Method} {c : Code} {Q : State → Prop} {D : va_G} {cy ci : ClassId} {h : Nat → Nat} {A0 : Nat → Prop} {o : Int32 × MS} (X : CallFix p m c cX12_write 4 s args wsX12_write RX12) (hret : mRi p l e ({ frames := 17, cells := 0, slots := 0, locals := 448 } : Room) s m args below meth c Q cX12_write D cy ci h A0 .int o) {self12 : Int32 → (Nat → Int32) → (Nat → Nat → Int32) → Option (Int32 × MS)} (hself12 : ∀ (x1 : Int32) (I : Nat → Int32) (A : Nat → Nat → Int32) (H : Heap) (locs : List Loc) (ls : Array Slot), self12 x1 I A = some o → mH D cy ci h A0 s H locs I A → lv_has ls 4 [(0, .ref (h 0)), (1, .int x1)] → W p l e ({ frames := 17, cells := 0, slots := 0, locals := 448 } : Room) s m args below meth c H locs 0 0 Q (F0 m 12 ls [])) {self94 : Int32 → Int32 → (Nat → Int32) → (Nat → Nat → Int32) → Option (Int32 × MS)} (hself94 : ∀ (x1 : Int32) (x2 : Int32) (I : Nat → Int32) (A : Nat → Nat → Int32) (H : Heap) (locs : List Loc) (ls : Array Slot), self94 x1 x2 I A = some o → mH D cy ci h A0 s H locs I A → lv_has ls 4 [(0, .ref (h 0)), (1, .int x1), (2, .int x2)] → W p l e ({ frames := 17, cells := 0, slots := 0, locals := 448 } : Room) s m args below meth c H locs 0 0 Q (F0 m 94 ls [])) {x1 : Int32} {x2 : Int32} {I : Nat → Int32} {A : Nat → Nat → Int32} {H : Heap} {locs : List Loc} {ls : Array Slot} (hf : f_write_94s self12 self94 x1 x2 I A = some o) (hM : mH D cy ci h A0 s H locs I A) (hl : lv_has ls 4 [(0, .ref (h 0)), (1, .int x1), (2, .int x2)]) : W p l e ({ frames := 17, cells := 0, slots := 0, locals := 448 } : Room) s m args below meth c H locs 0 0 Q (F0 m 94 ls []) := by
  obtain ⟨hx, hb, hml, hown, hts⟩ := id X
  unfold f_write_94s at hf
  refine lv_iload_n hx hb dX12_write_94 rfl (lv_at hl 2 rfl) ?_
  refine lv_aload_n hx hb dX12_write_95 rfl (lv_at hl 0 rfl) ?_
  refine m_get (v := .ref (h 21)) X hw_write hM 21 (by decide) fl_write_21 rfl dX12_write_96 ?_
  refine lv_bipush (v := (8 : Int32)) hx hb dX12_write_99 (by decide) ?_
  refine lv_aload_n hx hb dX12_write_101 rfl (lv_at hl 0 rfl) ?_
  refine m_get (v := .int (I 5)) X hw_write hM 5 (by decide) fl_write_5 rfl dX12_write_102 ?_
  refine lv_imul hx hb dX12_write_105 ?_
  obtain ⟨v1, ev, hf⟩ := m_bndE hf
  refine m_top ev ?_
  clear ev
  refine lv_iload_n hx hb dX12_write_106 rfl (lv_at hl 1 rfl) ?_
  refine lv_iadd hx hb dX12_write_107 ?_
  obtain ⟨v2, ev, hf⟩ := m_bndE hf
  refine m_top ev ?_
  clear ev
  obtain ⟨cd, hf⟩ := m_chkE hf
  refine m_iald X hM 21 17 16 rfl cd dX12_write_108 ?_
  clear cd
  obtain ⟨v3, ev, hf⟩ := m_bndE hf
  refine m_top ev ?_
  clear ev
  refine lv_icmp_ge (tgt := 162) hx hb dX12_write_109 (by decide) (fun cc1 => ?_) (fun cc1 => ?_)
  · replace hf := m_ifT hf cc1
    refine lv_aload_n hx hb dX12_write_162 rfl (lv_at hl 0 rfl) ?_
    refine lv_bipush (v := (34 : Int32)) hx hb dX12_write_163 (by decide) ?_
    obtain ⟨o4, ho, hf⟩ := m_clE hf
    refine m_callVv X hM (c_ink ho) gX12_write_X12_ink rfl ⟨rfl, rfl⟩ hd_ink ⟨Nat.le_of_ble_eq_true rfl, Nat.le_of_ble_eq_true rfl⟩ rfl hl.1 rfl (Nat.le_of_ble_eq_true rfl) dX12_write_165 (fun H locs hM => ?_)
    clear ho
    refine lv_aload_n hx hb dX12_write_168 rfl (lv_at hl 0 rfl) ?_
    refine lv_bipush (v := (93 : Int32)) hx hb dX12_write_169 (by decide) ?_
    obtain ⟨o5, ho, hf⟩ := m_clE hf
    refine m_callVv X hM (c_ink ho) gX12_write_X12_ink rfl ⟨rfl, rfl⟩ hd_ink ⟨Nat.le_of_ble_eq_true rfl, Nat.le_of_ble_eq_true rfl⟩ rfl hl.1 rfl (Nat.le_of_ble_eq_true rfl) dX12_write_171 (fun H locs hM => ?_)
    clear ho
    refine lv_aload_n hx hb dX12_write_174 rfl (lv_at hl 0 rfl) ?_
    refine lv_bipush (v := (10 : Int32)) hx hb dX12_write_175 (by decide) ?_
    obtain ⟨o6, ho, hf⟩ := m_clE hf
    refine m_callVv X hM (c_ink ho) gX12_write_X12_ink rfl ⟨rfl, rfl⟩ hd_ink ⟨Nat.le_of_ble_eq_true rfl, Nat.le_of_ble_eq_true rfl⟩ rfl hl.1 rfl (Nat.le_of_ble_eq_true rfl) dX12_write_177 (fun H locs hM => ?_)
    clear ho
    obtain ⟨v7, ev, hf⟩ := m_bndE hf
    refine lv_iinc (v := v7) (lv' := [(1, .int v7), (0, .ref (h 0)), (2, .int x2)]) hx hb dX12_write_180 hl (k := 1) rfl (by rw [ev]; rfl) (by decide) rfl (fun ls hl => ?_)
    clear ev
    refine lv_goto (tgt := 12) hx hb dX12_write_183 (by decide) ?_
    exact hself12 _ _ _ _ _ _ hf hM (lv_sub hl [1, 0] rfl)
  · replace hf := m_ifF hf cc1
    refine lv_aload_n hx hb dX12_write_112 rfl (lv_at hl 0 rfl) ?_
    refine m_get (v := .ref (h 22)) X hw_write hM 22 (by decide) fl_write_22 rfl dX12_write_113 ?_
    refine lv_sipush (v := (768 : Int32)) hx hb dX12_write_116 (by decide) ?_
    refine lv_aload_n hx hb dX12_write_119 rfl (lv_at hl 0 rfl) ?_
    refine m_get (v := .int (I 5)) X hw_write hM 5 (by decide) fl_write_5 rfl dX12_write_120 ?_
    refine lv_imul hx hb dX12_write_123 ?_
    obtain ⟨v8, ev, hf⟩ := m_bndE hf
    refine m_top ev ?_
    clear ev
    refine lv_bipush (v := (96 : Int32)) hx hb dX12_write_124 (by decide) ?_
    refine lv_iload_n hx hb dX12_write_126 rfl (lv_at hl 1 rfl) ?_
    refine lv_imul hx hb dX12_write_127 ?_
    obtain ⟨v9, ev, hf⟩ := m_bndE hf
    refine m_top ev ?_
    clear ev
    refine lv_iadd hx hb dX12_write_128 ?_
    obtain ⟨v10, ev, hf⟩ := m_bndE hf
    refine m_top ev ?_
    clear ev
    refine lv_iload_n hx hb dX12_write_129 rfl (lv_at hl 2 rfl) ?_
    refine lv_iadd hx hb dX12_write_130 ?_
    obtain ⟨v11, ev, hf⟩ := m_bndE hf
    refine m_top ev ?_
    clear ev
    obtain ⟨cd, hf⟩ := m_chkE hf
    refine m_cald X hM 22 18 1536 rfl cd dX12_write_131 ?_
    clear cd
    obtain ⟨v12, ev, hf⟩ := m_bndE hf
    refine m_top ev ?_
    clear ev
    refine lv_istore_n (lv' := [(3, .int v12), (0, .ref (h 0)), (1, .int x1), (2, .int x2)]) hx hb dX12_write_132 rfl hl (by decide) rfl (fun ls hl => ?_)
    refine lv_iload_n hx hb dX12_write_133 rfl (lv_at hl 0 rfl) ?_
    refine lv_bipush (v := (34 : Int32)) hx hb dX12_write_134 (by decide) ?_
    refine lv_icmp_eq (tgt := 145) hx hb dX12_write_136 (by decide) (fun cc1 => ?_) (fun cc1 => ?_)
    · replace hf := m_ifT hf cc1
      exact w_write_145 X hret hself12 hself94 hf hM (lv_sub hl [1, 2, 3, 0] rfl)
    · replace hf := m_ifF hf cc1
      refine lv_iload_n hx hb dX12_write_139 rfl (lv_at hl 0 rfl) ?_
      refine lv_bipush (v := (92 : Int32)) hx hb dX12_write_140 (by decide) ?_
      refine lv_icmp_ne (tgt := 151) hx hb dX12_write_142 (by decide) (fun cc1 => ?_) (fun cc1 => ?_)
      · replace hf := m_ifF hf cc1
        exact w_write_151 X hret hself12 hself94 hf hM (lv_sub hl [1, 2, 3, 0] rfl)
      · replace hf := m_ifT hf cc1
        exact w_write_145 X hret hself12 hself94 hf hM (lv_sub hl [1, 2, 3, 0] rfl)
noncomputable def f_write_94 (self12 : Int32 → (Nat → Int32) → (Nat → Nat → Int32) → Option (Int32 × MS)) : Nat → Int32 → Int32 → (Nat → Int32) → (Nat → Nat → Int32) → Option (Int32 × MS)
  | 0 => fun _ _ _ _ => none
  | n + 1 => f_write_94s self12 (f_write_94 self12 n)
theorem w_write_94 {p : Program} {l : Launch} {e : Env} {s : State} {m : MethodId} {args : Array Value} {below : List Frame} {meth : Method} {c : Code} {Q : State → Prop} {D : va_G} {cy ci : ClassId} {h : Nat → Nat} {A0 : Nat → Prop} {o : Int32 × MS} (X : CallFix p m c cX12_write 4 s args wsX12_write RX12) (hret : mRi p l e ({ frames := 17, cells := 0, slots := 0, locals := 448 } : Room) s m args below meth c Q cX12_write D cy ci h A0 .int o) {self12 : Int32 → (Nat → Int32) → (Nat → Nat → Int32) → Option (Int32 × MS)} (hself12 : ∀ (x1 : Int32) (I : Nat → Int32) (A : Nat → Nat → Int32) (H : Heap) (locs : List Loc) (ls : Array Slot), self12 x1 I A = some o → mH D cy ci h A0 s H locs I A → lv_has ls 4 [(0, .ref (h 0)), (1, .int x1)] → W p l e ({ frames := 17, cells := 0, slots := 0, locals := 448 } : Room) s m args below meth c H locs 0 0 Q (F0 m 12 ls [])) (n : Nat) : ∀ (x1 : Int32) (x2 : Int32) (I : Nat → Int32) (A : Nat → Nat → Int32) (H : Heap) (locs : List Loc) (ls : Array Slot), f_write_94 self12 n x1 x2 I A = some o → mH D cy ci h A0 s H locs I A → lv_has ls 4 [(0, .ref (h 0)), (1, .int x1), (2, .int x2)] → W p l e ({ frames := 17, cells := 0, slots := 0, locals := 448 } : Room) s m args below meth c H locs 0 0 Q (F0 m 94 ls []) := by
  induction n with
  | zero => intro x1 x2 I A H locs ls hf; cases hf
  | succ n ih => intro x1 x2 I A H locs ls hf hM hl; exact ws_write_94 X hret hself12 (self94 := f_write_94 self12 n) ih hf hM hl
noncomputable def f_write_33s (self12 : Int32 → (Nat → Int32) → (Nat → Nat → Int32) → Option (Int32 × MS)) (self33 : Int32 → Int32 → (Nat → Int32) → (Nat → Nat → Int32) → Option (Int32 × MS)) (x1 : Int32) (x2 : Int32) (I : Nat → Int32) (A : Nat → Nat → Int32) : Option (Int32 × MS) :=
  m_bnd ((8 : Int32) * (I 5)) (fun v1 =>
  m_bnd (v1 + x1) (fun v2 =>
  m_chk (¬ (v2 < 0 ∨ 16 ≤ (v2).toNatClampNeg)) (
  m_bnd (A 19 (v2).toNatClampNeg) (fun v3 =>
  m_if (v3 ≤ x2) (
  m_cl (f_ink (32 : Int32) I A) (fun r4 Ic4 Ac4 =>
  m_cl (f_ink (34 : Int32) Ic4 Ac4) (fun r5 Ic5 Ac5 =>
  f_write_94 self12 mFuel x1 (0 : Int32) Ic5 Ac5))
  ) (
  m_bnd ((96 : Int32) * (I 5)) (fun v6 =>
  m_bnd ((12 : Int32) * x1) (fun v7 =>
  m_bnd (v6 + v7) (fun v8 =>
  m_bnd (v8 + x2) (fun v9 =>
  m_chk (¬ (v9 < 0 ∨ 192 ≤ (v9).toNatClampNeg)) (
  m_bnd (A 20 (v9).toNatClampNeg) (fun v10 =>
  m_cl (f_ink v10 I A) (fun r11 Ic11 Ac11 =>
  m_bnd (x2 + (1 : Int32)) (fun v12 =>
  self33 x1 v12 Ic11 Ac11))))))))
  )))))

set_option maxRecDepth 100000 in
set_option maxHeartbeats 4000000 in
theorem ws_write_33 {p : Program} {l : Launch} {e : Env} {s : State} {m : MethodId} {args : Array Value} {below : List Frame} {meth : Method} {c : Code} {Q : State → Prop} {D : va_G} {cy ci : ClassId} {h : Nat → Nat} {A0 : Nat → Prop} {o : Int32 × MS} (X : CallFix p m c cX12_write 4 s args wsX12_write RX12) (hret : mRi p l e ({ frames := 17, cells := 0, slots := 0, locals := 448 } : Room) s m args below meth c Q cX12_write D cy ci h A0 .int o) {self12 : Int32 → (Nat → Int32) → (Nat → Nat → Int32) → Option (Int32 × MS)} (hself12 : ∀ (x1 : Int32) (I : Nat → Int32) (A : Nat → Nat → Int32) (H : Heap) (locs : List Loc) (ls : Array Slot), self12 x1 I A = some o → mH D cy ci h A0 s H locs I A → lv_has ls 4 [(0, .ref (h 0)), (1, .int x1)] → W p l e ({ frames := 17, cells := 0, slots := 0, locals := 448 } : Room) s m args below meth c H locs 0 0 Q (F0 m 12 ls [])) {self33 : Int32 → Int32 → (Nat → Int32) → (Nat → Nat → Int32) → Option (Int32 × MS)} (hself33 : ∀ (x1 : Int32) (x2 : Int32) (I : Nat → Int32) (A : Nat → Nat → Int32) (H : Heap) (locs : List Loc) (ls : Array Slot), self33 x1 x2 I A = some o → mH D cy ci h A0 s H locs I A → lv_has ls 4 [(0, .ref (h 0)), (1, .int x1), (2, .int x2)] → W p l e ({ frames := 17, cells := 0, slots := 0, locals := 448 } : Room) s m args below meth c H locs 0 0 Q (F0 m 33 ls [])) {x1 : Int32} {x2 : Int32} {I : Nat → Int32} {A : Nat → Nat → Int32} {H : Heap} {locs : List Loc} {ls : Array Slot} (hf : f_write_33s self12 self33 x1 x2 I A = some o) (hM : mH D cy ci h A0 s H locs I A) (hl : lv_has ls 4 [(0, .ref (h 0)), (1, .int x1), (2, .int x2)]) : W p l e ({ frames := 17, cells := 0, slots := 0, locals := 448 } : Room) s m args below meth c H locs 0 0 Q (F0 m 33 ls []) := by
  obtain ⟨hx, hb, hml, hown, hts⟩ := id X
  unfold f_write_33s at hf
  refine lv_iload_n hx hb dX12_write_33 rfl (lv_at hl 2 rfl) ?_
  refine lv_aload_n hx hb dX12_write_34 rfl (lv_at hl 0 rfl) ?_
  refine m_get (v := .ref (h 19)) X hw_write hM 19 (by decide) fl_write_19 rfl dX12_write_35 ?_
  refine lv_bipush (v := (8 : Int32)) hx hb dX12_write_38 (by decide) ?_
  refine lv_aload_n hx hb dX12_write_40 rfl (lv_at hl 0 rfl) ?_
  refine m_get (v := .int (I 5)) X hw_write hM 5 (by decide) fl_write_5 rfl dX12_write_41 ?_
  refine lv_imul hx hb dX12_write_44 ?_
  obtain ⟨v1, ev, hf⟩ := m_bndE hf
  refine m_top ev ?_
  clear ev
  refine lv_iload_n hx hb dX12_write_45 rfl (lv_at hl 1 rfl) ?_
  refine lv_iadd hx hb dX12_write_46 ?_
  obtain ⟨v2, ev, hf⟩ := m_bndE hf
  refine m_top ev ?_
  clear ev
  obtain ⟨cd, hf⟩ := m_chkE hf
  refine m_iald X hM 19 15 16 rfl cd dX12_write_47 ?_
  clear cd
  obtain ⟨v3, ev, hf⟩ := m_bndE hf
  refine m_top ev ?_
  clear ev
  refine lv_icmp_ge (tgt := 80) hx hb dX12_write_48 (by decide) (fun cc1 => ?_) (fun cc1 => ?_)
  · replace hf := m_ifT hf cc1
    refine lv_aload_n hx hb dX12_write_80 rfl (lv_at hl 0 rfl) ?_
    refine lv_bipush (v := (32 : Int32)) hx hb dX12_write_81 (by decide) ?_
    obtain ⟨o4, ho, hf⟩ := m_clE hf
    refine m_callVv X hM (c_ink ho) gX12_write_X12_ink rfl ⟨rfl, rfl⟩ hd_ink ⟨Nat.le_of_ble_eq_true rfl, Nat.le_of_ble_eq_true rfl⟩ rfl hl.1 rfl (Nat.le_of_ble_eq_true rfl) dX12_write_83 (fun H locs hM => ?_)
    clear ho
    refine lv_aload_n hx hb dX12_write_86 rfl (lv_at hl 0 rfl) ?_
    refine lv_bipush (v := (34 : Int32)) hx hb dX12_write_87 (by decide) ?_
    obtain ⟨o5, ho, hf⟩ := m_clE hf
    refine m_callVv X hM (c_ink ho) gX12_write_X12_ink rfl ⟨rfl, rfl⟩ hd_ink ⟨Nat.le_of_ble_eq_true rfl, Nat.le_of_ble_eq_true rfl⟩ rfl hl.1 rfl (Nat.le_of_ble_eq_true rfl) dX12_write_89 (fun H locs hM => ?_)
    clear ho
    refine lv_iconst (v := (0 : Int32)) hx hb dX12_write_92 (by decide) ?_
    refine lv_istore_n (lv' := [(2, .int (0 : Int32)), (0, .ref (h 0)), (1, .int x1)]) hx hb dX12_write_93 rfl hl (by decide) rfl (fun ls hl => ?_)
    exact w_write_94 X hret hself12 _ _ _ _ _ _ _ _ hf hM (lv_sub hl [1, 2, 0] rfl)
  · replace hf := m_ifF hf cc1
    refine lv_aload_n hx hb dX12_write_51 rfl (lv_at hl 0 rfl) ?_
    refine lv_aload_n hx hb dX12_write_52 rfl (lv_at hl 0 rfl) ?_
    refine m_get (v := .ref (h 20)) X hw_write hM 20 (by decide) fl_write_20 rfl dX12_write_53 ?_
    refine lv_bipush (v := (96 : Int32)) hx hb dX12_write_56 (by decide) ?_
    refine lv_aload_n hx hb dX12_write_58 rfl (lv_at hl 0 rfl) ?_
    refine m_get (v := .int (I 5)) X hw_write hM 5 (by decide) fl_write_5 rfl dX12_write_59 ?_
    refine lv_imul hx hb dX12_write_62 ?_
    obtain ⟨v6, ev, hf⟩ := m_bndE hf
    refine m_top ev ?_
    clear ev
    refine lv_bipush (v := (12 : Int32)) hx hb dX12_write_63 (by decide) ?_
    refine lv_iload_n hx hb dX12_write_65 rfl (lv_at hl 1 rfl) ?_
    refine lv_imul hx hb dX12_write_66 ?_
    obtain ⟨v7, ev, hf⟩ := m_bndE hf
    refine m_top ev ?_
    clear ev
    refine lv_iadd hx hb dX12_write_67 ?_
    obtain ⟨v8, ev, hf⟩ := m_bndE hf
    refine m_top ev ?_
    clear ev
    refine lv_iload_n hx hb dX12_write_68 rfl (lv_at hl 2 rfl) ?_
    refine lv_iadd hx hb dX12_write_69 ?_
    obtain ⟨v9, ev, hf⟩ := m_bndE hf
    refine m_top ev ?_
    clear ev
    obtain ⟨cd, hf⟩ := m_chkE hf
    refine m_cald X hM 20 16 192 rfl cd dX12_write_70 ?_
    clear cd
    obtain ⟨v10, ev, hf⟩ := m_bndE hf
    refine m_top ev ?_
    clear ev
    obtain ⟨o11, ho, hf⟩ := m_clE hf
    refine m_callVv X hM (c_ink ho) gX12_write_X12_ink rfl ⟨rfl, rfl⟩ hd_ink ⟨Nat.le_of_ble_eq_true rfl, Nat.le_of_ble_eq_true rfl⟩ rfl hl.1 rfl (Nat.le_of_ble_eq_true rfl) dX12_write_71 (fun H locs hM => ?_)
    clear ho
    obtain ⟨v12, ev, hf⟩ := m_bndE hf
    refine lv_iinc (v := v12) (lv' := [(2, .int v12), (0, .ref (h 0)), (1, .int x1)]) hx hb dX12_write_74 hl (k := 2) rfl (by rw [ev]; rfl) (by decide) rfl (fun ls hl => ?_)
    clear ev
    refine lv_goto (tgt := 33) hx hb dX12_write_77 (by decide) ?_
    exact hself33 _ _ _ _ _ _ _ hf hM (lv_sub hl [1, 2, 0] rfl)
noncomputable def f_write_33 (self12 : Int32 → (Nat → Int32) → (Nat → Nat → Int32) → Option (Int32 × MS)) : Nat → Int32 → Int32 → (Nat → Int32) → (Nat → Nat → Int32) → Option (Int32 × MS)
  | 0 => fun _ _ _ _ => none
  | n + 1 => f_write_33s self12 (f_write_33 self12 n)
theorem w_write_33 {p : Program} {l : Launch} {e : Env} {s : State} {m : MethodId} {args : Array Value} {below : List Frame} {meth : Method} {c : Code} {Q : State → Prop} {D : va_G} {cy ci : ClassId} {h : Nat → Nat} {A0 : Nat → Prop} {o : Int32 × MS} (X : CallFix p m c cX12_write 4 s args wsX12_write RX12) (hret : mRi p l e ({ frames := 17, cells := 0, slots := 0, locals := 448 } : Room) s m args below meth c Q cX12_write D cy ci h A0 .int o) {self12 : Int32 → (Nat → Int32) → (Nat → Nat → Int32) → Option (Int32 × MS)} (hself12 : ∀ (x1 : Int32) (I : Nat → Int32) (A : Nat → Nat → Int32) (H : Heap) (locs : List Loc) (ls : Array Slot), self12 x1 I A = some o → mH D cy ci h A0 s H locs I A → lv_has ls 4 [(0, .ref (h 0)), (1, .int x1)] → W p l e ({ frames := 17, cells := 0, slots := 0, locals := 448 } : Room) s m args below meth c H locs 0 0 Q (F0 m 12 ls [])) (n : Nat) : ∀ (x1 : Int32) (x2 : Int32) (I : Nat → Int32) (A : Nat → Nat → Int32) (H : Heap) (locs : List Loc) (ls : Array Slot), f_write_33 self12 n x1 x2 I A = some o → mH D cy ci h A0 s H locs I A → lv_has ls 4 [(0, .ref (h 0)), (1, .int x1), (2, .int x2)] → W p l e ({ frames := 17, cells := 0, slots := 0, locals := 448 } : Room) s m args below meth c H locs 0 0 Q (F0 m 33 ls []) := by
  induction n with
  | zero => intro x1 x2 I A H locs ls hf; cases hf
  | succ n ih => intro x1 x2 I A H locs ls hf hM hl; exact ws_write_33 X hret hself12 (self33 := f_write_33 self12 n) ih hf hM hl
noncomputable def f_write_12s (self12 : Int32 → (Nat → Int32) → (Nat → Nat → Int32) → Option (Int32 × MS)) (x1 : Int32) (I : Nat → Int32) (A : Nat → Nat → Int32) : Option (Int32 × MS) :=
  m_chk (¬ ((I 5) < 0 ∨ 2 ≤ ((I 5)).toNatClampNeg)) (
  m_bnd (A 18 ((I 5)).toNatClampNeg) (fun v1 =>
  m_if (v1 ≤ x1) (
  m_chk (¬ ((I 5) < 0 ∨ 2 ≤ ((I 5)).toNatClampNeg)) (
  m_bnd (A 18 ((I 5)).toNatClampNeg) (fun v2 =>
  m_if (v2 ≤ 0) (
  f_write_204  I A
  ) (
  m_cl (f_ink (10 : Int32) I A) (fun r3 Ic3 Ac3 =>
  f_write_204  Ic3 Ac3)
  )))
  ) (
  m_cl (f_ink (91 : Int32) I A) (fun r4 Ic4 Ac4 =>
  f_write_33 self12 mFuel x1 (0 : Int32) Ic4 Ac4)
  )))

set_option maxRecDepth 100000 in
set_option maxHeartbeats 4000000 in
theorem ws_write_12 {p : Program} {l : Launch} {e : Env} {s : State} {m : MethodId} {args : Array Value} {below : List Frame} {meth : Method} {c : Code} {Q : State → Prop} {D : va_G} {cy ci : ClassId} {h : Nat → Nat} {A0 : Nat → Prop} {o : Int32 × MS} (X : CallFix p m c cX12_write 4 s args wsX12_write RX12) (hret : mRi p l e ({ frames := 17, cells := 0, slots := 0, locals := 448 } : Room) s m args below meth c Q cX12_write D cy ci h A0 .int o) {self12 : Int32 → (Nat → Int32) → (Nat → Nat → Int32) → Option (Int32 × MS)} (hself12 : ∀ (x1 : Int32) (I : Nat → Int32) (A : Nat → Nat → Int32) (H : Heap) (locs : List Loc) (ls : Array Slot), self12 x1 I A = some o → mH D cy ci h A0 s H locs I A → lv_has ls 4 [(0, .ref (h 0)), (1, .int x1)] → W p l e ({ frames := 17, cells := 0, slots := 0, locals := 448 } : Room) s m args below meth c H locs 0 0 Q (F0 m 12 ls [])) {x1 : Int32} {I : Nat → Int32} {A : Nat → Nat → Int32} {H : Heap} {locs : List Loc} {ls : Array Slot} (hf : f_write_12s self12 x1 I A = some o) (hM : mH D cy ci h A0 s H locs I A) (hl : lv_has ls 4 [(0, .ref (h 0)), (1, .int x1)]) : W p l e ({ frames := 17, cells := 0, slots := 0, locals := 448 } : Room) s m args below meth c H locs 0 0 Q (F0 m 12 ls []) := by
  obtain ⟨hx, hb, hml, hown, hts⟩ := id X
  unfold f_write_12s at hf
  refine lv_iload_n hx hb dX12_write_12 rfl (lv_at hl 1 rfl) ?_
  refine lv_aload_n hx hb dX12_write_13 rfl (lv_at hl 0 rfl) ?_
  refine m_get (v := .ref (h 18)) X hw_write hM 18 (by decide) fl_write_18 rfl dX12_write_14 ?_
  refine lv_aload_n hx hb dX12_write_17 rfl (lv_at hl 0 rfl) ?_
  refine m_get (v := .int (I 5)) X hw_write hM 5 (by decide) fl_write_5 rfl dX12_write_18 ?_
  obtain ⟨cd, hf⟩ := m_chkE hf
  refine m_iald X hM 18 14 2 rfl cd dX12_write_21 ?_
  clear cd
  obtain ⟨v1, ev, hf⟩ := m_bndE hf
  refine m_top ev ?_
  clear ev
  refine lv_icmp_ge (tgt := 186) hx hb dX12_write_22 (by decide) (fun cc1 => ?_) (fun cc1 => ?_)
  · replace hf := m_ifT hf cc1
    refine lv_aload_n hx hb dX12_write_186 rfl (lv_at hl 0 rfl) ?_
    refine m_get (v := .ref (h 18)) X hw_write hM 18 (by decide) fl_write_18 rfl dX12_write_187 ?_
    refine lv_aload_n hx hb dX12_write_190 rfl (lv_at hl 0 rfl) ?_
    refine m_get (v := .int (I 5)) X hw_write hM 5 (by decide) fl_write_5 rfl dX12_write_191 ?_
    obtain ⟨cd, hf⟩ := m_chkE hf
    refine m_iald X hM 18 14 2 rfl cd dX12_write_194 ?_
    clear cd
    obtain ⟨v2, ev, hf⟩ := m_bndE hf
    refine m_top ev ?_
    clear ev
    refine lv_if_le (tgt := 204) hx hb dX12_write_195 (by decide) (fun cc1 => ?_) (fun cc1 => ?_)
    · replace hf := m_ifT hf cc1
      exact w_write_204 X hret hf hM (lv_sub hl [0] rfl)
    · replace hf := m_ifF hf cc1
      refine lv_aload_n hx hb dX12_write_198 rfl (lv_at hl 0 rfl) ?_
      refine lv_bipush (v := (10 : Int32)) hx hb dX12_write_199 (by decide) ?_
      obtain ⟨o3, ho, hf⟩ := m_clE hf
      refine m_callVv X hM (c_ink ho) gX12_write_X12_ink rfl ⟨rfl, rfl⟩ hd_ink ⟨Nat.le_of_ble_eq_true rfl, Nat.le_of_ble_eq_true rfl⟩ rfl hl.1 rfl (Nat.le_of_ble_eq_true rfl) dX12_write_201 (fun H locs hM => ?_)
      clear ho
      exact w_write_204 X hret hf hM (lv_sub hl [0] rfl)
  · replace hf := m_ifF hf cc1
    refine lv_aload_n hx hb dX12_write_25 rfl (lv_at hl 0 rfl) ?_
    refine lv_bipush (v := (91 : Int32)) hx hb dX12_write_26 (by decide) ?_
    obtain ⟨o4, ho, hf⟩ := m_clE hf
    refine m_callVv X hM (c_ink ho) gX12_write_X12_ink rfl ⟨rfl, rfl⟩ hd_ink ⟨Nat.le_of_ble_eq_true rfl, Nat.le_of_ble_eq_true rfl⟩ rfl hl.1 rfl (Nat.le_of_ble_eq_true rfl) dX12_write_28 (fun H locs hM => ?_)
    clear ho
    refine lv_iconst (v := (0 : Int32)) hx hb dX12_write_31 (by decide) ?_
    refine lv_istore_n (lv' := [(2, .int (0 : Int32)), (0, .ref (h 0)), (1, .int x1)]) hx hb dX12_write_32 rfl hl (by decide) rfl (fun ls hl => ?_)
    exact w_write_33 X hret hself12 _ _ _ _ _ _ _ _ hf hM (lv_sub hl [1, 2, 0] rfl)
noncomputable def f_write_12 : Nat → Int32 → (Nat → Int32) → (Nat → Nat → Int32) → Option (Int32 × MS)
  | 0 => fun _ _ _ => none
  | n + 1 => f_write_12s (f_write_12 n)
theorem w_write_12 {p : Program} {l : Launch} {e : Env} {s : State} {m : MethodId} {args : Array Value} {below : List Frame} {meth : Method} {c : Code} {Q : State → Prop} {D : va_G} {cy ci : ClassId} {h : Nat → Nat} {A0 : Nat → Prop} {o : Int32 × MS} (X : CallFix p m c cX12_write 4 s args wsX12_write RX12) (hret : mRi p l e ({ frames := 17, cells := 0, slots := 0, locals := 448 } : Room) s m args below meth c Q cX12_write D cy ci h A0 .int o) (n : Nat) : ∀ (x1 : Int32) (I : Nat → Int32) (A : Nat → Nat → Int32) (H : Heap) (locs : List Loc) (ls : Array Slot), f_write_12 n x1 I A = some o → mH D cy ci h A0 s H locs I A → lv_has ls 4 [(0, .ref (h 0)), (1, .int x1)] → W p l e ({ frames := 17, cells := 0, slots := 0, locals := 448 } : Room) s m args below meth c H locs 0 0 Q (F0 m 12 ls []) := by
  induction n with
  | zero => intro x1 I A H locs ls hf; cases hf
  | succ n ih => intro x1 I A H locs ls hf hM hl; exact ws_write_12 X hret (self12 := f_write_12 n) ih hf hM hl
noncomputable def f_write_0 (I : Nat → Int32) (A : Nat → Nat → Int32) : Option (Int32 × MS) :=
  m_bnd (upd I 0 (0 : Int32)) (fun I1 =>
  m_bnd (upd I1 3 (0 : Int32)) (fun I2 =>
  f_write_12 mFuel (0 : Int32) I2 A))

set_option maxRecDepth 100000 in
set_option maxHeartbeats 4000000 in
theorem w_write_0 {p : Program} {l : Launch} {e : Env} {s : State} {m : MethodId} {args : Array Value} {below : List Frame} {meth : Method} {c : Code} {Q : State → Prop} {D : va_G} {cy ci : ClassId} {h : Nat → Nat} {A0 : Nat → Prop} {o : Int32 × MS} (X : CallFix p m c cX12_write 4 s args wsX12_write RX12) (hret : mRi p l e ({ frames := 17, cells := 0, slots := 0, locals := 448 } : Room) s m args below meth c Q cX12_write D cy ci h A0 .int o) {I : Nat → Int32} {A : Nat → Nat → Int32} {H : Heap} {locs : List Loc} {ls : Array Slot} (hf : f_write_0  I A = some o) (hM : mH D cy ci h A0 s H locs I A) (hl : lv_has ls 4 [(0, .ref (h 0))]) : W p l e ({ frames := 17, cells := 0, slots := 0, locals := 448 } : Room) s m args below meth c H locs 0 0 Q (F0 m 0 ls []) := by
  obtain ⟨hx, hb, hml, hown, hts⟩ := id X
  unfold f_write_0 at hf
  refine lv_aload_n hx hb dX12_write_0 rfl (lv_at hl 0 rfl) ?_
  refine lv_iconst (v := (0 : Int32)) hx hb dX12_write_1 (by decide) ?_
  refine m_put X hw_write hM 0 (by decide) fl_write_0 mi_0 rfl (tyX12_ok 0 (by decide)) dX12_write_2 (fun H locs hM => ?_)
  obtain ⟨I1, ev, hf⟩ := m_bndE hf
  replace hM := m_hI hM ev
  clear ev
  refine lv_aload_n hx hb dX12_write_5 rfl (lv_at hl 0 rfl) ?_
  refine lv_iconst (v := (0 : Int32)) hx hb dX12_write_6 (by decide) ?_
  refine m_put X hw_write hM 3 (by decide) fl_write_3 mi_3 rfl (tyX12_ok 3 (by decide)) dX12_write_7 (fun H locs hM => ?_)
  obtain ⟨I2, ev, hf⟩ := m_bndE hf
  replace hM := m_hI hM ev
  clear ev
  refine lv_iconst (v := (0 : Int32)) hx hb dX12_write_10 (by decide) ?_
  refine lv_istore_n (lv' := [(1, .int (0 : Int32)), (0, .ref (h 0))]) hx hb dX12_write_11 rfl hl (by decide) rfl (fun ls hl => ?_)
  exact w_write_12 X hret _ _ _ _ _ _ _ hf hM (lv_sub hl [1, 0] rfl)
noncomputable def f_write (I : Nat → Int32) (A : Nat → Nat → Int32) : Option (Int32 × MS) := f_write_0  I A
theorem c_write {l : Launch} {D : va_G} {cy ci : ClassId} {h : Nat → Nat} {I : Nat → Int32} {A : Nat → Nat → Int32} {o : Int32 × MS} (hf : f_write  I A = some o) : mMi l yX12_write wsX12_write ({ frames := 17, cells := 0, slots := 0, locals := 448 } : Room) [.ref (h 0)] D cy ci h I A o :=
  m_entryI (cc := cX12_write) (maxL := 4) (by decide) rfl rfl (Nat.le_of_ble_eq_true rfl) (fun p e s m args below meth c A0 Q H locs ls X hret hM hl => w_write_0 X hret hf hM (lv_sub hl [0] rfl))
theorem hw_isLegal : ∀ w ∈ wsX120, w ∈ wsX12_isLegal := by decide +kernel
theorem fl_isLegal_32 : Cond.fieldLink RX12 79 "MoveTextsModel" "list" "[I" ∈ wsX12_isLegal := by decide +kernel
theorem fl_isLegal_33 : Cond.fieldLink RX12 170 "MoveTextsModel" "moves" "I" ∈ wsX12_isLegal := by decide +kernel
theorem hd_isLegal : yX12_isLegal.cls = RX12 ∧ yX12_isLegal.cls ≠ "java/lang/invoke/MethodHandle" ∧ yX12_isLegal.cls ≠ "java/lang/invoke/VarHandle" ∧ (parseMethodDescriptor yX12_isLegal.desc).map (fun d => d.parameters.length) = some 1 := by decide +kernel
noncomputable def f_isLegal_31 (self4 : Int32 → Int32 → Int32 → (Nat → Int32) → (Nat → Nat → Int32) → Option (Int32 × MS)) (x1 : Int32) (x3 : Int32) (t0 : Int32) (I : Nat → Int32) (A : Nat → Nat → Int32) : Option (Int32 × MS) :=
  m_bnd (x3 + (1 : Int32)) (fun v1 =>
  self4 x1 t0 v1 I A)

set_option maxRecDepth 100000 in
set_option maxHeartbeats 4000000 in
theorem w_isLegal_31 {p : Program} {l : Launch} {e : Env} {s : State} {m : MethodId} {args : Array Value} {below : List Frame} {meth : Method} {c : Code} {Q : State → Prop} {D : va_G} {cy ci : ClassId} {h : Nat → Nat} {A0 : Nat → Prop} {o : Int32 × MS} (X : CallFix p m c cX12_isLegal 4 s args wsX12_isLegal RX12) (hret : mRi p l e ({ frames := 0, cells := 0, slots := 0, locals := 0 } : Room) s m args below meth c Q cX12_isLegal D cy ci h A0 .boolean o) {self4 : Int32 → Int32 → Int32 → (Nat → Int32) → (Nat → Nat → Int32) → Option (Int32 × MS)} (hself4 : ∀ (x1 : Int32) (x2 : Int32) (x3 : Int32) (I : Nat → Int32) (A : Nat → Nat → Int32) (H : Heap) (locs : List Loc) (ls : Array Slot), self4 x1 x2 x3 I A = some o → mH D cy ci h A0 s H locs I A → lv_has ls 4 [(0, .ref (h 0)), (1, .int x1), (2, .int x2), (3, .int x3)] → W p l e ({ frames := 0, cells := 0, slots := 0, locals := 0 } : Room) s m args below meth c H locs 0 0 Q (F0 m 4 ls [])) {x1 : Int32} {x3 : Int32} {t0 : Int32} {I : Nat → Int32} {A : Nat → Nat → Int32} {H : Heap} {locs : List Loc} {ls : Array Slot} (hf : f_isLegal_31 self4 x1 x3 t0 I A = some o) (hM : mH D cy ci h A0 s H locs I A) (hl : lv_has ls 4 [(0, .ref (h 0)), (1, .int x1), (3, .int x3)]) : W p l e ({ frames := 0, cells := 0, slots := 0, locals := 0 } : Room) s m args below meth c H locs 0 0 Q (F0 m 31 ls [.int t0]) := by
  obtain ⟨hx, hb, hml, hown, hts⟩ := id X
  unfold f_isLegal_31 at hf
  refine lv_istore_n (lv' := [(2, .int t0), (0, .ref (h 0)), (1, .int x1), (3, .int x3)]) hx hb dX12_isLegal_31 rfl hl (by decide) rfl (fun ls hl => ?_)
  obtain ⟨v1, ev, hf⟩ := m_bndE hf
  refine lv_iinc (v := v1) (lv' := [(3, .int v1), (2, .int t0), (0, .ref (h 0)), (1, .int x1)]) hx hb dX12_isLegal_32 hl (k := 3) rfl (by rw [ev]; rfl) (by decide) rfl (fun ls hl => ?_)
  clear ev
  refine lv_goto (tgt := 4) hx hb dX12_isLegal_35 (by decide) ?_
  exact hself4 _ _ _ _ _ _ _ _ hf hM (lv_sub hl [2, 3, 1, 0] rfl)
noncomputable def f_isLegal_26 (self4 : Int32 → Int32 → Int32 → (Nat → Int32) → (Nat → Nat → Int32) → Option (Int32 × MS)) (x1 : Int32) (x3 : Int32) (I : Nat → Int32) (A : Nat → Nat → Int32) : Option (Int32 × MS) :=
  f_isLegal_31 self4 x1 x3 (1 : Int32) I A

set_option maxRecDepth 100000 in
set_option maxHeartbeats 4000000 in
theorem w_isLegal_26 {p : Program} {l : Launch} {e : Env} {s : State} {m : MethodId} {args : Array Value} {below : List Frame} {meth : Method} {c : Code} {Q : State → Prop} {D : va_G} {cy ci : ClassId} {h : Nat → Nat} {A0 : Nat → Prop} {o : Int32 × MS} (X : CallFix p m c cX12_isLegal 4 s args wsX12_isLegal RX12) (hret : mRi p l e ({ frames := 0, cells := 0, slots := 0, locals := 0 } : Room) s m args below meth c Q cX12_isLegal D cy ci h A0 .boolean o) {self4 : Int32 → Int32 → Int32 → (Nat → Int32) → (Nat → Nat → Int32) → Option (Int32 × MS)} (hself4 : ∀ (x1 : Int32) (x2 : Int32) (x3 : Int32) (I : Nat → Int32) (A : Nat → Nat → Int32) (H : Heap) (locs : List Loc) (ls : Array Slot), self4 x1 x2 x3 I A = some o → mH D cy ci h A0 s H locs I A → lv_has ls 4 [(0, .ref (h 0)), (1, .int x1), (2, .int x2), (3, .int x3)] → W p l e ({ frames := 0, cells := 0, slots := 0, locals := 0 } : Room) s m args below meth c H locs 0 0 Q (F0 m 4 ls [])) {x1 : Int32} {x3 : Int32} {I : Nat → Int32} {A : Nat → Nat → Int32} {H : Heap} {locs : List Loc} {ls : Array Slot} (hf : f_isLegal_26 self4 x1 x3 I A = some o) (hM : mH D cy ci h A0 s H locs I A) (hl : lv_has ls 4 [(0, .ref (h 0)), (1, .int x1), (3, .int x3)]) : W p l e ({ frames := 0, cells := 0, slots := 0, locals := 0 } : Room) s m args below meth c H locs 0 0 Q (F0 m 26 ls []) := by
  obtain ⟨hx, hb, hml, hown, hts⟩ := id X
  unfold f_isLegal_26 at hf
  refine lv_iconst (v := (1 : Int32)) hx hb dX12_isLegal_26 (by decide) ?_
  refine lv_goto (tgt := 31) hx hb dX12_isLegal_27 (by decide) ?_
  exact w_isLegal_31 X hret hself4 hf hM (lv_sub hl [0, 1, 2] rfl)
noncomputable def f_isLegal_4s (self4 : Int32 → Int32 → Int32 → (Nat → Int32) → (Nat → Nat → Int32) → Option (Int32 × MS)) (x1 : Int32) (x2 : Int32) (x3 : Int32) (I : Nat → Int32) (A : Nat → Nat → Int32) : Option (Int32 × MS) :=
  m_if ((I 33) ≤ x3) (
  m_chk (vp_nar .boolean x2 = x2) (some (x2, (I, A)))
  ) (
  m_if (x2 = 0) (
  m_chk (¬ (x3 < 0 ∨ 2048 ≤ (x3).toNatClampNeg)) (
  m_bnd (A 32 (x3).toNatClampNeg) (fun v1 =>
  m_if (v1 = x1) (
  f_isLegal_26 self4 x1 x3 I A
  ) (
  f_isLegal_31 self4 x1 x3 (0 : Int32) I A
  )))
  ) (
  f_isLegal_26 self4 x1 x3 I A
  )
  )

set_option maxRecDepth 100000 in
set_option maxHeartbeats 4000000 in
theorem ws_isLegal_4 {p : Program} {l : Launch} {e : Env} {s : State} {m : MethodId} {args : Array Value} {below : List Frame} {meth : Method} {c : Code} {Q : State → Prop} {D : va_G} {cy ci : ClassId} {h : Nat → Nat} {A0 : Nat → Prop} {o : Int32 × MS} (X : CallFix p m c cX12_isLegal 4 s args wsX12_isLegal RX12) (hret : mRi p l e ({ frames := 0, cells := 0, slots := 0, locals := 0 } : Room) s m args below meth c Q cX12_isLegal D cy ci h A0 .boolean o) {self4 : Int32 → Int32 → Int32 → (Nat → Int32) → (Nat → Nat → Int32) → Option (Int32 × MS)} (hself4 : ∀ (x1 : Int32) (x2 : Int32) (x3 : Int32) (I : Nat → Int32) (A : Nat → Nat → Int32) (H : Heap) (locs : List Loc) (ls : Array Slot), self4 x1 x2 x3 I A = some o → mH D cy ci h A0 s H locs I A → lv_has ls 4 [(0, .ref (h 0)), (1, .int x1), (2, .int x2), (3, .int x3)] → W p l e ({ frames := 0, cells := 0, slots := 0, locals := 0 } : Room) s m args below meth c H locs 0 0 Q (F0 m 4 ls [])) {x1 : Int32} {x2 : Int32} {x3 : Int32} {I : Nat → Int32} {A : Nat → Nat → Int32} {H : Heap} {locs : List Loc} {ls : Array Slot} (hf : f_isLegal_4s self4 x1 x2 x3 I A = some o) (hM : mH D cy ci h A0 s H locs I A) (hl : lv_has ls 4 [(0, .ref (h 0)), (1, .int x1), (2, .int x2), (3, .int x3)]) : W p l e ({ frames := 0, cells := 0, slots := 0, locals := 0 } : Room) s m args below meth c H locs 0 0 Q (F0 m 4 ls []) := by
  obtain ⟨hx, hb, hml, hown, hts⟩ := id X
  unfold f_isLegal_4s at hf
  refine lv_iload_n hx hb dX12_isLegal_4 rfl (lv_at hl 3 rfl) ?_
  refine lv_aload_n hx hb dX12_isLegal_5 rfl (lv_at hl 0 rfl) ?_
  refine m_get (v := .int (I 33)) X hw_isLegal hM 33 (by decide) fl_isLegal_33 rfl dX12_isLegal_6 ?_
  refine lv_icmp_ge (tgt := 38) hx hb dX12_isLegal_9 (by decide) (fun cc1 => ?_) (fun cc1 => ?_)
  · replace hf := m_ifT hf cc1
    refine lv_iload_n hx hb dX12_isLegal_38 rfl (lv_at hl 2 rfl) ?_
    obtain ⟨cd, hf⟩ := m_chkE hf
    cases hf
    exact hret H locs _ ls hM (m_nb cd) dX12_isLegal_39
  · replace hf := m_ifF hf cc1
    refine lv_iload_n hx hb dX12_isLegal_12 rfl (lv_at hl 2 rfl) ?_
    refine lv_if_ne (tgt := 26) hx hb dX12_isLegal_13 (by decide) (fun cc1 => ?_) (fun cc1 => ?_)
    · replace hf := m_ifF hf cc1
      exact w_isLegal_26 X hret hself4 hf hM (lv_sub hl [0, 1, 3] rfl)
    · replace hf := m_ifT hf cc1
      refine lv_aload_n hx hb dX12_isLegal_16 rfl (lv_at hl 0 rfl) ?_
      refine m_get (v := .ref (h 32)) X hw_isLegal hM 32 (by decide) fl_isLegal_32 rfl dX12_isLegal_17 ?_
      refine lv_iload_n hx hb dX12_isLegal_20 rfl (lv_at hl 3 rfl) ?_
      obtain ⟨cd, hf⟩ := m_chkE hf
      refine m_iald X hM 32 23 2048 rfl cd dX12_isLegal_21 ?_
      clear cd
      obtain ⟨v1, ev, hf⟩ := m_bndE hf
      refine m_top ev ?_
      clear ev
      refine lv_iload_n hx hb dX12_isLegal_22 rfl (lv_at hl 1 rfl) ?_
      refine lv_icmp_ne (tgt := 30) hx hb dX12_isLegal_23 (by decide) (fun cc1 => ?_) (fun cc1 => ?_)
      · replace hf := m_ifF hf cc1
        refine lv_iconst (v := (0 : Int32)) hx hb dX12_isLegal_30 (by decide) ?_
        exact w_isLegal_31 X hret hself4 hf hM (lv_sub hl [0, 1, 3] rfl)
      · replace hf := m_ifT hf cc1
        exact w_isLegal_26 X hret hself4 hf hM (lv_sub hl [0, 1, 3] rfl)
noncomputable def f_isLegal_4 : Nat → Int32 → Int32 → Int32 → (Nat → Int32) → (Nat → Nat → Int32) → Option (Int32 × MS)
  | 0 => fun _ _ _ _ _ => none
  | n + 1 => f_isLegal_4s (f_isLegal_4 n)
theorem w_isLegal_4 {p : Program} {l : Launch} {e : Env} {s : State} {m : MethodId} {args : Array Value} {below : List Frame} {meth : Method} {c : Code} {Q : State → Prop} {D : va_G} {cy ci : ClassId} {h : Nat → Nat} {A0 : Nat → Prop} {o : Int32 × MS} (X : CallFix p m c cX12_isLegal 4 s args wsX12_isLegal RX12) (hret : mRi p l e ({ frames := 0, cells := 0, slots := 0, locals := 0 } : Room) s m args below meth c Q cX12_isLegal D cy ci h A0 .boolean o) (n : Nat) : ∀ (x1 : Int32) (x2 : Int32) (x3 : Int32) (I : Nat → Int32) (A : Nat → Nat → Int32) (H : Heap) (locs : List Loc) (ls : Array Slot), f_isLegal_4 n x1 x2 x3 I A = some o → mH D cy ci h A0 s H locs I A → lv_has ls 4 [(0, .ref (h 0)), (1, .int x1), (2, .int x2), (3, .int x3)] → W p l e ({ frames := 0, cells := 0, slots := 0, locals := 0 } : Room) s m args below meth c H locs 0 0 Q (F0 m 4 ls []) := by
  induction n with
  | zero => intro x1 x2 x3 I A H locs ls hf; cases hf
  | succ n ih => intro x1 x2 x3 I A H locs ls hf hM hl; exact ws_isLegal_4 X hret (self4 := f_isLegal_4 n) ih hf hM hl
noncomputable def f_isLegal_0 (x1 : Int32) (I : Nat → Int32) (A : Nat → Nat → Int32) : Option (Int32 × MS) :=
  f_isLegal_4 mFuel x1 (0 : Int32) (0 : Int32) I A

set_option maxRecDepth 100000 in
set_option maxHeartbeats 4000000 in
theorem w_isLegal_0 {p : Program} {l : Launch} {e : Env} {s : State} {m : MethodId} {args : Array Value} {below : List Frame} {meth : Method} {c : Code} {Q : State → Prop} {D : va_G} {cy ci : ClassId} {h : Nat → Nat} {A0 : Nat → Prop} {o : Int32 × MS} (X : CallFix p m c cX12_isLegal 4 s args wsX12_isLegal RX12) (hret : mRi p l e ({ frames := 0, cells := 0, slots := 0, locals := 0 } : Room) s m args below meth c Q cX12_isLegal D cy ci h A0 .boolean o) {x1 : Int32} {I : Nat → Int32} {A : Nat → Nat → Int32} {H : Heap} {locs : List Loc} {ls : Array Slot} (hf : f_isLegal_0 x1 I A = some o) (hM : mH D cy ci h A0 s H locs I A) (hl : lv_has ls 4 [(0, .ref (h 0)), (1, .int x1)]) : W p l e ({ frames := 0, cells := 0, slots := 0, locals := 0 } : Room) s m args below meth c H locs 0 0 Q (F0 m 0 ls []) := by
  obtain ⟨hx, hb, hml, hown, hts⟩ := id X
  unfold f_isLegal_0 at hf
  refine lv_iconst (v := (0 : Int32)) hx hb dX12_isLegal_0 (by decide) ?_
  refine lv_istore_n (lv' := [(2, .int (0 : Int32)), (0, .ref (h 0)), (1, .int x1)]) hx hb dX12_isLegal_1 rfl hl (by decide) rfl (fun ls hl => ?_)
  refine lv_iconst (v := (0 : Int32)) hx hb dX12_isLegal_2 (by decide) ?_
  refine lv_istore_n (lv' := [(3, .int (0 : Int32)), (2, .int (0 : Int32)), (0, .ref (h 0)), (1, .int x1)]) hx hb dX12_isLegal_3 rfl hl (by decide) rfl (fun ls hl => ?_)
  exact w_isLegal_4 X hret _ _ _ _ _ _ _ _ _ hf hM (lv_sub hl [2, 3, 1, 0] rfl)
noncomputable def f_isLegal (x1 : Int32) (I : Nat → Int32) (A : Nat → Nat → Int32) : Option (Int32 × MS) := f_isLegal_0 x1 I A
theorem c_isLegal {l : Launch} {D : va_G} {cy ci : ClassId} {h : Nat → Nat} {x1 : Int32} {I : Nat → Int32} {A : Nat → Nat → Int32} {o : Int32 × MS} (hf : f_isLegal x1 I A = some o) : mMi l yX12_isLegal wsX12_isLegal ({ frames := 0, cells := 0, slots := 0, locals := 0 } : Room) [.ref (h 0), .int x1] D cy ci h I A o :=
  m_entryI (cc := cX12_isLegal) (maxL := 4) (by decide) rfl rfl (Nat.le_of_ble_eq_true rfl) (fun p e s m args below meth c A0 Q H locs ls X hret hM hl => w_isLegal_0 X hret hf hM (lv_sub hl [0, 1] rfl))
theorem hw_signs : ∀ w ∈ wsX120, w ∈ wsX12_signs := by decide +kernel
theorem fl_signs_0 : Cond.fieldLink RX12 99 "MoveTextsModel" "thrown" "I" ∈ wsX12_signs := by decide +kernel
theorem fl_signs_3 : Cond.fieldLink RX12 364 "MoveTextsModel" "told" "I" ∈ wsX12_signs := by decide +kernel
theorem fl_signs_4 : Cond.fieldLink RX12 14 "MoveTextsModel" "out" "[C" ∈ wsX12_signs := by decide +kernel
theorem fl_signs_35 : Cond.fieldLink RX12 85 "MoveTextsModel" "spelled" "[C" ∈ wsX12_signs := by decide +kernel
theorem fl_signs_36 : Cond.fieldLink RX12 191 "MoveTextsModel" "spelledSize" "I" ∈ wsX12_signs := by decide +kernel
theorem hd_signs : yX12_signs.cls = RX12 ∧ yX12_signs.cls ≠ "java/lang/invoke/MethodHandle" ∧ yX12_signs.cls ≠ "java/lang/invoke/VarHandle" ∧ (parseMethodDescriptor yX12_signs.desc).map (fun d => d.parameters.length) = some 1 := by decide +kernel
noncomputable def f_signs_33s (self33 : Int32 → (Nat → Int32) → (Nat → Nat → Int32) → Option (Int32 × MS)) (x2 : Int32) (I : Nat → Int32) (A : Nat → Nat → Int32) : Option (Int32 × MS) :=
  m_if ((I 36) ≤ x2) (
  m_bnd (upd I 3 (I 36)) (fun I1 =>
  some ((I1 3), (I1, A)))
  ) (
  m_chk (¬ (x2 < 0 ∨ 16 ≤ (x2).toNatClampNeg)) (
  m_bnd (A 35 (x2).toNatClampNeg) (fun v2 =>
  m_chk (¬ (x2 < 0 ∨ 80000 ≤ (x2).toNatClampNeg)) (
  m_bnd (va_up A 4 (upd (A 4) (x2).toNatClampNeg (vp_nar .char v2))) (fun A3 =>
  m_bnd (x2 + (1 : Int32)) (fun v4 =>
  self33 v4 I A3)))))
  )

set_option maxRecDepth 100000 in
set_option maxHeartbeats 4000000 in
theorem ws_signs_33 {p : Program} {l : Launch} {e : Env} {s : State} {m : MethodId} {args : Array Value} {below : List Frame} {meth : Method} {c : Code} {Q : State → Prop} {D : va_G} {cy ci : ClassId} {h : Nat → Nat} {A0 : Nat → Prop} {o : Int32 × MS} (X : CallFix p m c cX12_signs 3 s args wsX12_signs RX12) (hret : mRi p l e ({ frames := 7, cells := 0, slots := 0, locals := 178 } : Room) s m args below meth c Q cX12_signs D cy ci h A0 .int o) {self33 : Int32 → (Nat → Int32) → (Nat → Nat → Int32) → Option (Int32 × MS)} (hself33 : ∀ (x2 : Int32) (I : Nat → Int32) (A : Nat → Nat → Int32) (H : Heap) (locs : List Loc) (ls : Array Slot), self33 x2 I A = some o → mH D cy ci h A0 s H locs I A → lv_has ls 3 [(0, .ref (h 0)), (2, .int x2)] → W p l e ({ frames := 7, cells := 0, slots := 0, locals := 178 } : Room) s m args below meth c H locs 0 0 Q (F0 m 33 ls [])) {x2 : Int32} {I : Nat → Int32} {A : Nat → Nat → Int32} {H : Heap} {locs : List Loc} {ls : Array Slot} (hf : f_signs_33s self33 x2 I A = some o) (hM : mH D cy ci h A0 s H locs I A) (hl : lv_has ls 3 [(0, .ref (h 0)), (2, .int x2)]) : W p l e ({ frames := 7, cells := 0, slots := 0, locals := 178 } : Room) s m args below meth c H locs 0 0 Q (F0 m 33 ls []) := by
  obtain ⟨hx, hb, hml, hown, hts⟩ := id X
  unfold f_signs_33s at hf
  refine lv_iload_n hx hb dX12_signs_33 rfl (lv_at hl 1 rfl) ?_
  refine lv_aload_n hx hb dX12_signs_34 rfl (lv_at hl 0 rfl) ?_
  refine m_get (v := .int (I 36)) X hw_signs hM 36 (by decide) fl_signs_36 rfl dX12_signs_35 ?_
  refine lv_icmp_ge (tgt := 59) hx hb dX12_signs_38 (by decide) (fun cc1 => ?_) (fun cc1 => ?_)
  · replace hf := m_ifT hf cc1
    refine lv_aload_n hx hb dX12_signs_59 rfl (lv_at hl 0 rfl) ?_
    refine lv_aload_n hx hb dX12_signs_60 rfl (lv_at hl 0 rfl) ?_
    refine m_get (v := .int (I 36)) X hw_signs hM 36 (by decide) fl_signs_36 rfl dX12_signs_61 ?_
    refine m_put X hw_signs hM 3 (by decide) fl_signs_3 mi_3 rfl (tyX12_ok 3 (by decide)) dX12_signs_64 (fun H locs hM => ?_)
    obtain ⟨I1, ev, hf⟩ := m_bndE hf
    replace hM := m_hI hM ev
    clear ev
    refine lv_aload_n hx hb dX12_signs_67 rfl (lv_at hl 0 rfl) ?_
    refine m_get (v := .int (I1 3)) X hw_signs hM 3 (by decide) fl_signs_3 rfl dX12_signs_68 ?_
    cases hf
    exact hret H locs _ ls hM rfl dX12_signs_71
  · replace hf := m_ifF hf cc1
    refine lv_aload_n hx hb dX12_signs_41 rfl (lv_at hl 0 rfl) ?_
    refine m_get (v := .ref (h 4)) X hw_signs hM 4 (by decide) fl_signs_4 rfl dX12_signs_42 ?_
    refine lv_iload_n hx hb dX12_signs_45 rfl (lv_at hl 1 rfl) ?_
    refine lv_aload_n hx hb dX12_signs_46 rfl (lv_at hl 0 rfl) ?_
    refine m_get (v := .ref (h 35)) X hw_signs hM 35 (by decide) fl_signs_35 rfl dX12_signs_47 ?_
    refine lv_iload_n hx hb dX12_signs_50 rfl (lv_at hl 1 rfl) ?_
    obtain ⟨cd, hf⟩ := m_chkE hf
    refine m_cald X hM 35 25 16 rfl cd dX12_signs_51 ?_
    clear cd
    obtain ⟨v2, ev, hf⟩ := m_bndE hf
    refine m_top ev ?_
    clear ev
    obtain ⟨cd, hf⟩ := m_chkE hf
    refine m_cast X hM 4 2 80000 rfl ma_4 cd dX12_signs_52 (fun H locs hM => ?_)
    clear cd
    obtain ⟨A3, ev, hf⟩ := m_bndE hf
    replace hM := m_hA hM ev
    clear ev
    obtain ⟨v4, ev, hf⟩ := m_bndE hf
    refine lv_iinc (v := v4) (lv' := [(2, .int v4), (0, .ref (h 0))]) hx hb dX12_signs_53 hl (k := 1) rfl (by rw [ev]; rfl) (by decide) rfl (fun ls hl => ?_)
    clear ev
    refine lv_goto (tgt := 33) hx hb dX12_signs_56 (by decide) ?_
    exact hself33 _ _ _ _ _ _ hf hM (lv_sub hl [1, 0] rfl)
noncomputable def f_signs_33 : Nat → Int32 → (Nat → Int32) → (Nat → Nat → Int32) → Option (Int32 × MS)
  | 0 => fun _ _ _ => none
  | n + 1 => f_signs_33s (f_signs_33 n)
theorem w_signs_33 {p : Program} {l : Launch} {e : Env} {s : State} {m : MethodId} {args : Array Value} {below : List Frame} {meth : Method} {c : Code} {Q : State → Prop} {D : va_G} {cy ci : ClassId} {h : Nat → Nat} {A0 : Nat → Prop} {o : Int32 × MS} (X : CallFix p m c cX12_signs 3 s args wsX12_signs RX12) (hret : mRi p l e ({ frames := 7, cells := 0, slots := 0, locals := 178 } : Room) s m args below meth c Q cX12_signs D cy ci h A0 .int o) (n : Nat) : ∀ (x2 : Int32) (I : Nat → Int32) (A : Nat → Nat → Int32) (H : Heap) (locs : List Loc) (ls : Array Slot), f_signs_33 n x2 I A = some o → mH D cy ci h A0 s H locs I A → lv_has ls 3 [(0, .ref (h 0)), (2, .int x2)] → W p l e ({ frames := 7, cells := 0, slots := 0, locals := 178 } : Room) s m args below meth c H locs 0 0 Q (F0 m 33 ls []) := by
  induction n with
  | zero => intro x2 I A H locs ls hf; cases hf
  | succ n ih => intro x2 I A H locs ls hf hM hl; exact ws_signs_33 X hret (self33 := f_signs_33 n) ih hf hM hl
noncomputable def f_signs_14 (x1 : Int32) (t0 : Int32) (I : Nat → Int32) (A : Nat → Nat → Int32) : Option (Int32 × MS) :=
  m_bnd (upd I 0 t0) (fun I1 =>
  m_if ((I1 0) ≤ 0) (
  m_cl (f_spellWhole x1 I1 A) (fun r2 Ic2 Ac2 =>
  f_signs_33 mFuel (0 : Int32) Ic2 Ac2)
  ) (
  some ((0 : Int32), (I1, A))
  ))

set_option maxRecDepth 100000 in
set_option maxHeartbeats 4000000 in
theorem w_signs_14 {p : Program} {l : Launch} {e : Env} {s : State} {m : MethodId} {args : Array Value} {below : List Frame} {meth : Method} {c : Code} {Q : State → Prop} {D : va_G} {cy ci : ClassId} {h : Nat → Nat} {A0 : Nat → Prop} {o : Int32 × MS} (X : CallFix p m c cX12_signs 3 s args wsX12_signs RX12) (hret : mRi p l e ({ frames := 7, cells := 0, slots := 0, locals := 178 } : Room) s m args below meth c Q cX12_signs D cy ci h A0 .int o) {x1 : Int32} {t0 : Int32} {I : Nat → Int32} {A : Nat → Nat → Int32} {H : Heap} {locs : List Loc} {ls : Array Slot} (hf : f_signs_14 x1 t0 I A = some o) (hM : mH D cy ci h A0 s H locs I A) (hl : lv_has ls 3 [(0, .ref (h 0)), (1, .int x1)]) : W p l e ({ frames := 7, cells := 0, slots := 0, locals := 178 } : Room) s m args below meth c H locs 0 0 Q (F0 m 14 ls [.int t0, .ref (h 0)]) := by
  obtain ⟨hx, hb, hml, hown, hts⟩ := id X
  unfold f_signs_14 at hf
  refine m_put X hw_signs hM 0 (by decide) fl_signs_0 mi_0 rfl (tyX12_ok 0 (by decide)) dX12_signs_14 (fun H locs hM => ?_)
  obtain ⟨I1, ev, hf⟩ := m_bndE hf
  replace hM := m_hI hM ev
  clear ev
  refine lv_aload_n hx hb dX12_signs_17 rfl (lv_at hl 0 rfl) ?_
  refine m_get (v := .int (I1 0)) X hw_signs hM 0 (by decide) fl_signs_0 rfl dX12_signs_18 ?_
  refine lv_if_le (tgt := 26) hx hb dX12_signs_21 (by decide) (fun cc1 => ?_) (fun cc1 => ?_)
  · replace hf := m_ifT hf cc1
    refine lv_aload_n hx hb dX12_signs_26 rfl (lv_at hl 0 rfl) ?_
    refine lv_iload_n hx hb dX12_signs_27 rfl (lv_at hl 1 rfl) ?_
    obtain ⟨o2, ho, hf⟩ := m_clE hf
    refine m_callVv X hM (c_spellWhole ho) gX12_signs_X12_spellWhole rfl ⟨rfl, rfl⟩ hd_spellWhole ⟨Nat.le_of_ble_eq_true rfl, Nat.le_of_ble_eq_true rfl⟩ rfl hl.1 rfl (Nat.le_of_ble_eq_true rfl) dX12_signs_28 (fun H locs hM => ?_)
    clear ho
    refine lv_iconst (v := (0 : Int32)) hx hb dX12_signs_31 (by decide) ?_
    refine lv_istore_n (lv' := [(2, .int (0 : Int32)), (0, .ref (h 0)), (1, .int x1)]) hx hb dX12_signs_32 rfl hl (by decide) rfl (fun ls hl => ?_)
    exact w_signs_33 X hret _ _ _ _ _ _ _ hf hM (lv_sub hl [1, 0] rfl)
  · replace hf := m_ifF hf cc1
    refine lv_iconst (v := (0 : Int32)) hx hb dX12_signs_24 (by decide) ?_
    cases hf
    exact hret H locs _ ls hM rfl dX12_signs_25
noncomputable def f_signs_0 (x1 : Int32) (I : Nat → Int32) (A : Nat → Nat → Int32) : Option (Int32 × MS) :=
  m_cl (f_isLegal x1 I A) (fun r1 Ic1 Ac1 =>
  m_if (r1 = 0) (
  f_signs_14 x1 (1 : Int32) Ic1 Ac1
  ) (
  f_signs_14 x1 (0 : Int32) Ic1 Ac1
  ))

set_option maxRecDepth 100000 in
set_option maxHeartbeats 4000000 in
theorem w_signs_0 {p : Program} {l : Launch} {e : Env} {s : State} {m : MethodId} {args : Array Value} {below : List Frame} {meth : Method} {c : Code} {Q : State → Prop} {D : va_G} {cy ci : ClassId} {h : Nat → Nat} {A0 : Nat → Prop} {o : Int32 × MS} (X : CallFix p m c cX12_signs 3 s args wsX12_signs RX12) (hret : mRi p l e ({ frames := 7, cells := 0, slots := 0, locals := 178 } : Room) s m args below meth c Q cX12_signs D cy ci h A0 .int o) {x1 : Int32} {I : Nat → Int32} {A : Nat → Nat → Int32} {H : Heap} {locs : List Loc} {ls : Array Slot} (hf : f_signs_0 x1 I A = some o) (hM : mH D cy ci h A0 s H locs I A) (hl : lv_has ls 3 [(0, .ref (h 0)), (1, .int x1)]) : W p l e ({ frames := 7, cells := 0, slots := 0, locals := 178 } : Room) s m args below meth c H locs 0 0 Q (F0 m 0 ls []) := by
  obtain ⟨hx, hb, hml, hown, hts⟩ := id X
  unfold f_signs_0 at hf
  refine lv_aload_n hx hb dX12_signs_0 rfl (lv_at hl 0 rfl) ?_
  refine lv_aload_n hx hb dX12_signs_1 rfl (lv_at hl 0 rfl) ?_
  refine lv_iload_n hx hb dX12_signs_2 rfl (lv_at hl 1 rfl) ?_
  obtain ⟨o1, ho, hf⟩ := m_clE hf
  refine m_callVi X hM (c_isLegal ho) gX12_signs_X12_isLegal rfl ⟨rfl, rfl⟩ hd_isLegal ⟨Nat.le_of_ble_eq_true rfl, Nat.le_of_ble_eq_true rfl⟩ rfl hl.1 rfl (Nat.le_of_ble_eq_true rfl) dX12_signs_3 (fun H locs hM => ?_)
  clear ho
  refine lv_if_eq (tgt := 13) hx hb dX12_signs_6 (by decide) (fun cc1 => ?_) (fun cc1 => ?_)
  · replace hf := m_ifT hf cc1
    refine lv_iconst (v := (1 : Int32)) hx hb dX12_signs_13 (by decide) ?_
    exact w_signs_14 X hret hf hM (lv_sub hl [0, 1] rfl)
  · replace hf := m_ifF hf cc1
    refine lv_iconst (v := (0 : Int32)) hx hb dX12_signs_9 (by decide) ?_
    refine lv_goto (tgt := 14) hx hb dX12_signs_10 (by decide) ?_
    exact w_signs_14 X hret hf hM (lv_sub hl [0, 1] rfl)
noncomputable def f_signs (x1 : Int32) (I : Nat → Int32) (A : Nat → Nat → Int32) : Option (Int32 × MS) := f_signs_0 x1 I A
theorem c_signs {l : Launch} {D : va_G} {cy ci : ClassId} {h : Nat → Nat} {x1 : Int32} {I : Nat → Int32} {A : Nat → Nat → Int32} {o : Int32 × MS} (hf : f_signs x1 I A = some o) : mMi l yX12_signs wsX12_signs ({ frames := 7, cells := 0, slots := 0, locals := 178 } : Room) [.ref (h 0), .int x1] D cy ci h I A o :=
  m_entryI (cc := cX12_signs) (maxL := 3) (by decide) rfl rfl (Nat.le_of_ble_eq_true rfl) (fun p e s m args below meth c A0 Q H locs ls X hret hM hl => w_signs_0 X hret hf hM (lv_sub hl [0, 1] rfl))
theorem hw_out : ∀ w ∈ wsX120, w ∈ wsX12_out := by decide +kernel
theorem fl_out_0 : Cond.fieldLink RX12 99 "MoveTextsModel" "thrown" "I" ∈ wsX12_out := by decide +kernel
theorem fl_out_3 : Cond.fieldLink RX12 364 "MoveTextsModel" "told" "I" ∈ wsX12_out := by decide +kernel
theorem fl_out_4 : Cond.fieldLink RX12 14 "MoveTextsModel" "out" "[C" ∈ wsX12_out := by decide +kernel
theorem hd_out : yX12_out.cls = RX12 ∧ yX12_out.cls ≠ "java/lang/invoke/MethodHandle" ∧ yX12_out.cls ≠ "java/lang/invoke/VarHandle" ∧ (parseMethodDescriptor yX12_out.desc).map (fun d => d.parameters.length) = some 1 := by decide +kernel
noncomputable def f_out_27 (t0 : Int32) (I : Nat → Int32) (A : Nat → Nat → Int32) : Option (Int32 × MS) :=
  some (t0, (I, A))

set_option maxRecDepth 100000 in
set_option maxHeartbeats 4000000 in
theorem w_out_27 {p : Program} {l : Launch} {e : Env} {s : State} {m : MethodId} {args : Array Value} {below : List Frame} {meth : Method} {c : Code} {Q : State → Prop} {D : va_G} {cy ci : ClassId} {h : Nat → Nat} {A0 : Nat → Prop} {o : Int32 × MS} (X : CallFix p m c cX12_out 2 s args wsX12_out RX12) (hret : mRi p l e ({ frames := 0, cells := 0, slots := 0, locals := 0 } : Room) s m args below meth c Q cX12_out D cy ci h A0 .int o) {t0 : Int32} {I : Nat → Int32} {A : Nat → Nat → Int32} {H : Heap} {locs : List Loc} {ls : Array Slot} (hf : f_out_27 t0 I A = some o) (hM : mH D cy ci h A0 s H locs I A) (hl : lv_has ls 2 []) : W p l e ({ frames := 0, cells := 0, slots := 0, locals := 0 } : Room) s m args below meth c H locs 0 0 Q (F0 m 27 ls [.int t0]) := by
  obtain ⟨hx, hb, hml, hown, hts⟩ := id X
  unfold f_out_27 at hf
  cases hf
  exact hret H locs _ ls hM rfl dX12_out_27
noncomputable def f_out_17 (I : Nat → Int32) (A : Nat → Nat → Int32) : Option (Int32 × MS) :=
  f_out_27 (0 : Int32) I A

set_option maxRecDepth 100000 in
set_option maxHeartbeats 4000000 in
theorem w_out_17 {p : Program} {l : Launch} {e : Env} {s : State} {m : MethodId} {args : Array Value} {below : List Frame} {meth : Method} {c : Code} {Q : State → Prop} {D : va_G} {cy ci : ClassId} {h : Nat → Nat} {A0 : Nat → Prop} {o : Int32 × MS} (X : CallFix p m c cX12_out 2 s args wsX12_out RX12) (hret : mRi p l e ({ frames := 0, cells := 0, slots := 0, locals := 0 } : Room) s m args below meth c Q cX12_out D cy ci h A0 .int o) {I : Nat → Int32} {A : Nat → Nat → Int32} {H : Heap} {locs : List Loc} {ls : Array Slot} (hf : f_out_17  I A = some o) (hM : mH D cy ci h A0 s H locs I A) (hl : lv_has ls 2 []) : W p l e ({ frames := 0, cells := 0, slots := 0, locals := 0 } : Room) s m args below meth c H locs 0 0 Q (F0 m 17 ls []) := by
  obtain ⟨hx, hb, hml, hown, hts⟩ := id X
  unfold f_out_17 at hf
  refine lv_iconst (v := (0 : Int32)) hx hb dX12_out_17 (by decide) ?_
  refine lv_goto (tgt := 27) hx hb dX12_out_18 (by decide) ?_
  exact w_out_27 X hret hf hM (lv_sub hl [] rfl)
noncomputable def f_out_0 (x1 : Int32) (I : Nat → Int32) (A : Nat → Nat → Int32) : Option (Int32 × MS) :=
  m_bnd (upd I 0 (0 : Int32)) (fun I1 =>
  m_if (x1 < 0) (
  f_out_17  I1 A
  ) (
  m_if (x1 < (I1 3)) (
  m_chk (¬ (x1 < 0 ∨ 80000 ≤ (x1).toNatClampNeg)) (
  m_bnd (A 4 (x1).toNatClampNeg) (fun v2 =>
  f_out_27 v2 I1 A))
  ) (
  f_out_17  I1 A
  )
  ))

set_option maxRecDepth 100000 in
set_option maxHeartbeats 4000000 in
theorem w_out_0 {p : Program} {l : Launch} {e : Env} {s : State} {m : MethodId} {args : Array Value} {below : List Frame} {meth : Method} {c : Code} {Q : State → Prop} {D : va_G} {cy ci : ClassId} {h : Nat → Nat} {A0 : Nat → Prop} {o : Int32 × MS} (X : CallFix p m c cX12_out 2 s args wsX12_out RX12) (hret : mRi p l e ({ frames := 0, cells := 0, slots := 0, locals := 0 } : Room) s m args below meth c Q cX12_out D cy ci h A0 .int o) {x1 : Int32} {I : Nat → Int32} {A : Nat → Nat → Int32} {H : Heap} {locs : List Loc} {ls : Array Slot} (hf : f_out_0 x1 I A = some o) (hM : mH D cy ci h A0 s H locs I A) (hl : lv_has ls 2 [(0, .ref (h 0)), (1, .int x1)]) : W p l e ({ frames := 0, cells := 0, slots := 0, locals := 0 } : Room) s m args below meth c H locs 0 0 Q (F0 m 0 ls []) := by
  obtain ⟨hx, hb, hml, hown, hts⟩ := id X
  unfold f_out_0 at hf
  refine lv_aload_n hx hb dX12_out_0 rfl (lv_at hl 0 rfl) ?_
  refine lv_iconst (v := (0 : Int32)) hx hb dX12_out_1 (by decide) ?_
  refine m_put X hw_out hM 0 (by decide) fl_out_0 mi_0 rfl (tyX12_ok 0 (by decide)) dX12_out_2 (fun H locs hM => ?_)
  obtain ⟨I1, ev, hf⟩ := m_bndE hf
  replace hM := m_hI hM ev
  clear ev
  refine lv_iload_n hx hb dX12_out_5 rfl (lv_at hl 1 rfl) ?_
  refine lv_if_lt (tgt := 17) hx hb dX12_out_6 (by decide) (fun cc1 => ?_) (fun cc1 => ?_)
  · replace hf := m_ifT hf cc1
    exact w_out_17 X hret hf hM (lv_sub hl [] rfl)
  · replace hf := m_ifF hf cc1
    refine lv_iload_n hx hb dX12_out_9 rfl (lv_at hl 1 rfl) ?_
    refine lv_aload_n hx hb dX12_out_10 rfl (lv_at hl 0 rfl) ?_
    refine m_get (v := .int (I1 3)) X hw_out hM 3 (by decide) fl_out_3 rfl dX12_out_11 ?_
    refine lv_icmp_lt (tgt := 21) hx hb dX12_out_14 (by decide) (fun cc1 => ?_) (fun cc1 => ?_)
    · replace hf := m_ifT hf cc1
      refine lv_aload_n hx hb dX12_out_21 rfl (lv_at hl 0 rfl) ?_
      refine m_get (v := .ref (h 4)) X hw_out hM 4 (by decide) fl_out_4 rfl dX12_out_22 ?_
      refine lv_iload_n hx hb dX12_out_25 rfl (lv_at hl 1 rfl) ?_
      obtain ⟨cd, hf⟩ := m_chkE hf
      refine m_cald X hM 4 2 80000 rfl cd dX12_out_26 ?_
      clear cd
      obtain ⟨v2, ev, hf⟩ := m_bndE hf
      refine m_top ev ?_
      clear ev
      exact w_out_27 X hret hf hM (lv_sub hl [] rfl)
    · replace hf := m_ifF hf cc1
      exact w_out_17 X hret hf hM (lv_sub hl [] rfl)
noncomputable def f_out (x1 : Int32) (I : Nat → Int32) (A : Nat → Nat → Int32) : Option (Int32 × MS) := f_out_0 x1 I A
theorem c_out {l : Launch} {D : va_G} {cy ci : ClassId} {h : Nat → Nat} {x1 : Int32} {I : Nat → Int32} {A : Nat → Nat → Int32} {o : Int32 × MS} (hf : f_out x1 I A = some o) : mMi l yX12_out wsX12_out ({ frames := 0, cells := 0, slots := 0, locals := 0 } : Room) [.ref (h 0), .int x1] D cy ci h I A o :=
  m_entryI (cc := cX12_out) (maxL := 2) (by decide) rfl rfl (Nat.le_of_ble_eq_true rfl) (fun p e s m args below meth c A0 Q H locs ls X hret hM hl => w_out_0 X hret hf hM (lv_sub hl [0, 1] rfl))
theorem hw_isNode : ∀ w ∈ wsX120, w ∈ wsX12_isNode := by decide +kernel
theorem fl_isNode_5 : Cond.fieldLink RX12 347 "MoveTextsModel" "game" "I" ∈ wsX12_isNode := by decide +kernel
theorem fl_isNode_7 : Cond.fieldLink RX12 17 "MoveTextsModel" "count" "[I" ∈ wsX12_isNode := by decide +kernel
theorem hd_isNode : yX12_isNode.cls = RX12 ∧ yX12_isNode.cls ≠ "java/lang/invoke/MethodHandle" ∧ yX12_isNode.cls ≠ "java/lang/invoke/VarHandle" ∧ (parseMethodDescriptor yX12_isNode.desc).map (fun d => d.parameters.length) = some 1 := by decide +kernel
noncomputable def f_isNode_22 (t0 : Int32) (I : Nat → Int32) (A : Nat → Nat → Int32) : Option (Int32 × MS) :=
  m_chk (vp_nar .boolean t0 = t0) (some (t0, (I, A)))

set_option maxRecDepth 100000 in
set_option maxHeartbeats 4000000 in
theorem w_isNode_22 {p : Program} {l : Launch} {e : Env} {s : State} {m : MethodId} {args : Array Value} {below : List Frame} {meth : Method} {c : Code} {Q : State → Prop} {D : va_G} {cy ci : ClassId} {h : Nat → Nat} {A0 : Nat → Prop} {o : Int32 × MS} (X : CallFix p m c cX12_isNode 2 s args wsX12_isNode RX12) (hret : mRi p l e ({ frames := 0, cells := 0, slots := 0, locals := 0 } : Room) s m args below meth c Q cX12_isNode D cy ci h A0 .boolean o) {t0 : Int32} {I : Nat → Int32} {A : Nat → Nat → Int32} {H : Heap} {locs : List Loc} {ls : Array Slot} (hf : f_isNode_22 t0 I A = some o) (hM : mH D cy ci h A0 s H locs I A) (hl : lv_has ls 2 []) : W p l e ({ frames := 0, cells := 0, slots := 0, locals := 0 } : Room) s m args below meth c H locs 0 0 Q (F0 m 22 ls [.int t0]) := by
  obtain ⟨hx, hb, hml, hown, hts⟩ := id X
  unfold f_isNode_22 at hf
  obtain ⟨cd, hf⟩ := m_chkE hf
  cases hf
  exact hret H locs _ ls hM (m_nb cd) dX12_isNode_22
noncomputable def f_isNode_21 (I : Nat → Int32) (A : Nat → Nat → Int32) : Option (Int32 × MS) :=
  f_isNode_22 (0 : Int32) I A

set_option maxRecDepth 100000 in
set_option maxHeartbeats 4000000 in
theorem w_isNode_21 {p : Program} {l : Launch} {e : Env} {s : State} {m : MethodId} {args : Array Value} {below : List Frame} {meth : Method} {c : Code} {Q : State → Prop} {D : va_G} {cy ci : ClassId} {h : Nat → Nat} {A0 : Nat → Prop} {o : Int32 × MS} (X : CallFix p m c cX12_isNode 2 s args wsX12_isNode RX12) (hret : mRi p l e ({ frames := 0, cells := 0, slots := 0, locals := 0 } : Room) s m args below meth c Q cX12_isNode D cy ci h A0 .boolean o) {I : Nat → Int32} {A : Nat → Nat → Int32} {H : Heap} {locs : List Loc} {ls : Array Slot} (hf : f_isNode_21  I A = some o) (hM : mH D cy ci h A0 s H locs I A) (hl : lv_has ls 2 []) : W p l e ({ frames := 0, cells := 0, slots := 0, locals := 0 } : Room) s m args below meth c H locs 0 0 Q (F0 m 21 ls []) := by
  obtain ⟨hx, hb, hml, hown, hts⟩ := id X
  unfold f_isNode_21 at hf
  refine lv_iconst (v := (0 : Int32)) hx hb dX12_isNode_21 (by decide) ?_
  exact w_isNode_22 X hret hf hM (lv_sub hl [] rfl)
noncomputable def f_isNode_0 (x1 : Int32) (I : Nat → Int32) (A : Nat → Nat → Int32) : Option (Int32 × MS) :=
  m_if (x1 < 0) (
  f_isNode_21  I A
  ) (
  m_chk (¬ ((I 5) < 0 ∨ 2 ≤ ((I 5)).toNatClampNeg)) (
  m_bnd (A 7 ((I 5)).toNatClampNeg) (fun v1 =>
  m_if (v1 < x1) (
  f_isNode_21  I A
  ) (
  f_isNode_22 (1 : Int32) I A
  )))
  )

set_option maxRecDepth 100000 in
set_option maxHeartbeats 4000000 in
theorem w_isNode_0 {p : Program} {l : Launch} {e : Env} {s : State} {m : MethodId} {args : Array Value} {below : List Frame} {meth : Method} {c : Code} {Q : State → Prop} {D : va_G} {cy ci : ClassId} {h : Nat → Nat} {A0 : Nat → Prop} {o : Int32 × MS} (X : CallFix p m c cX12_isNode 2 s args wsX12_isNode RX12) (hret : mRi p l e ({ frames := 0, cells := 0, slots := 0, locals := 0 } : Room) s m args below meth c Q cX12_isNode D cy ci h A0 .boolean o) {x1 : Int32} {I : Nat → Int32} {A : Nat → Nat → Int32} {H : Heap} {locs : List Loc} {ls : Array Slot} (hf : f_isNode_0 x1 I A = some o) (hM : mH D cy ci h A0 s H locs I A) (hl : lv_has ls 2 [(0, .ref (h 0)), (1, .int x1)]) : W p l e ({ frames := 0, cells := 0, slots := 0, locals := 0 } : Room) s m args below meth c H locs 0 0 Q (F0 m 0 ls []) := by
  obtain ⟨hx, hb, hml, hown, hts⟩ := id X
  unfold f_isNode_0 at hf
  refine lv_iload_n hx hb dX12_isNode_0 rfl (lv_at hl 1 rfl) ?_
  refine lv_if_lt (tgt := 21) hx hb dX12_isNode_1 (by decide) (fun cc1 => ?_) (fun cc1 => ?_)
  · replace hf := m_ifT hf cc1
    exact w_isNode_21 X hret hf hM (lv_sub hl [] rfl)
  · replace hf := m_ifF hf cc1
    refine lv_iload_n hx hb dX12_isNode_4 rfl (lv_at hl 1 rfl) ?_
    refine lv_aload_n hx hb dX12_isNode_5 rfl (lv_at hl 0 rfl) ?_
    refine m_get (v := .ref (h 7)) X hw_isNode hM 7 (by decide) fl_isNode_7 rfl dX12_isNode_6 ?_
    refine lv_aload_n hx hb dX12_isNode_9 rfl (lv_at hl 0 rfl) ?_
    refine m_get (v := .int (I 5)) X hw_isNode hM 5 (by decide) fl_isNode_5 rfl dX12_isNode_10 ?_
    obtain ⟨cd, hf⟩ := m_chkE hf
    refine m_iald X hM 7 3 2 rfl cd dX12_isNode_13 ?_
    clear cd
    obtain ⟨v1, ev, hf⟩ := m_bndE hf
    refine m_top ev ?_
    clear ev
    refine lv_icmp_gt (tgt := 21) hx hb dX12_isNode_14 (by decide) (fun cc1 => ?_) (fun cc1 => ?_)
    · replace hf := m_ifT hf cc1
      exact w_isNode_21 X hret hf hM (lv_sub hl [] rfl)
    · replace hf := m_ifF hf cc1
      refine lv_iconst (v := (1 : Int32)) hx hb dX12_isNode_17 (by decide) ?_
      refine lv_goto (tgt := 22) hx hb dX12_isNode_18 (by decide) ?_
      exact w_isNode_22 X hret hf hM (lv_sub hl [] rfl)
noncomputable def f_isNode (x1 : Int32) (I : Nat → Int32) (A : Nat → Nat → Int32) : Option (Int32 × MS) := f_isNode_0 x1 I A
theorem c_isNode {l : Launch} {D : va_G} {cy ci : ClassId} {h : Nat → Nat} {x1 : Int32} {I : Nat → Int32} {A : Nat → Nat → Int32} {o : Int32 × MS} (hf : f_isNode x1 I A = some o) : mMi l yX12_isNode wsX12_isNode ({ frames := 0, cells := 0, slots := 0, locals := 0 } : Room) [.ref (h 0), .int x1] D cy ci h I A o :=
  m_entryI (cc := cX12_isNode) (maxL := 2) (by decide) rfl rfl (Nat.le_of_ble_eq_true rfl) (fun p e s m args below meth c A0 Q H locs ls X hret hM hl => w_isNode_0 X hret hf hM (lv_sub hl [0, 1] rfl))
theorem hw_nodes : ∀ w ∈ wsX120, w ∈ wsX12_nodes := by decide +kernel
theorem fl_nodes_0 : Cond.fieldLink RX12 99 "MoveTextsModel" "thrown" "I" ∈ wsX12_nodes := by decide +kernel
theorem fl_nodes_5 : Cond.fieldLink RX12 347 "MoveTextsModel" "game" "I" ∈ wsX12_nodes := by decide +kernel
theorem fl_nodes_7 : Cond.fieldLink RX12 17 "MoveTextsModel" "count" "[I" ∈ wsX12_nodes := by decide +kernel
theorem hd_nodes : yX12_nodes.cls = RX12 ∧ yX12_nodes.cls ≠ "java/lang/invoke/MethodHandle" ∧ yX12_nodes.cls ≠ "java/lang/invoke/VarHandle" ∧ (parseMethodDescriptor yX12_nodes.desc).map (fun d => d.parameters.length) = some 0 := by decide +kernel
noncomputable def f_nodes_0 (I : Nat → Int32) (A : Nat → Nat → Int32) : Option (Int32 × MS) :=
  m_bnd (upd I 0 (0 : Int32)) (fun I1 =>
  m_chk (¬ ((I1 5) < 0 ∨ 2 ≤ ((I1 5)).toNatClampNeg)) (
  m_bnd (A 7 ((I1 5)).toNatClampNeg) (fun v2 =>
  some (v2, (I1, A)))))

set_option maxRecDepth 100000 in
set_option maxHeartbeats 4000000 in
theorem w_nodes_0 {p : Program} {l : Launch} {e : Env} {s : State} {m : MethodId} {args : Array Value} {below : List Frame} {meth : Method} {c : Code} {Q : State → Prop} {D : va_G} {cy ci : ClassId} {h : Nat → Nat} {A0 : Nat → Prop} {o : Int32 × MS} (X : CallFix p m c cX12_nodes 1 s args wsX12_nodes RX12) (hret : mRi p l e ({ frames := 0, cells := 0, slots := 0, locals := 0 } : Room) s m args below meth c Q cX12_nodes D cy ci h A0 .int o) {I : Nat → Int32} {A : Nat → Nat → Int32} {H : Heap} {locs : List Loc} {ls : Array Slot} (hf : f_nodes_0  I A = some o) (hM : mH D cy ci h A0 s H locs I A) (hl : lv_has ls 1 [(0, .ref (h 0))]) : W p l e ({ frames := 0, cells := 0, slots := 0, locals := 0 } : Room) s m args below meth c H locs 0 0 Q (F0 m 0 ls []) := by
  obtain ⟨hx, hb, hml, hown, hts⟩ := id X
  unfold f_nodes_0 at hf
  refine lv_aload_n hx hb dX12_nodes_0 rfl (lv_at hl 0 rfl) ?_
  refine lv_iconst (v := (0 : Int32)) hx hb dX12_nodes_1 (by decide) ?_
  refine m_put X hw_nodes hM 0 (by decide) fl_nodes_0 mi_0 rfl (tyX12_ok 0 (by decide)) dX12_nodes_2 (fun H locs hM => ?_)
  obtain ⟨I1, ev, hf⟩ := m_bndE hf
  replace hM := m_hI hM ev
  clear ev
  refine lv_aload_n hx hb dX12_nodes_5 rfl (lv_at hl 0 rfl) ?_
  refine m_get (v := .ref (h 7)) X hw_nodes hM 7 (by decide) fl_nodes_7 rfl dX12_nodes_6 ?_
  refine lv_aload_n hx hb dX12_nodes_9 rfl (lv_at hl 0 rfl) ?_
  refine m_get (v := .int (I1 5)) X hw_nodes hM 5 (by decide) fl_nodes_5 rfl dX12_nodes_10 ?_
  obtain ⟨cd, hf⟩ := m_chkE hf
  refine m_iald X hM 7 3 2 rfl cd dX12_nodes_13 ?_
  clear cd
  obtain ⟨v2, ev, hf⟩ := m_bndE hf
  refine m_top ev ?_
  clear ev
  cases hf
  exact hret H locs _ ls hM rfl dX12_nodes_14
noncomputable def f_nodes (I : Nat → Int32) (A : Nat → Nat → Int32) : Option (Int32 × MS) := f_nodes_0  I A
theorem c_nodes {l : Launch} {D : va_G} {cy ci : ClassId} {h : Nat → Nat} {I : Nat → Int32} {A : Nat → Nat → Int32} {o : Int32 × MS} (hf : f_nodes  I A = some o) : mMi l yX12_nodes wsX12_nodes ({ frames := 0, cells := 0, slots := 0, locals := 0 } : Room) [.ref (h 0)] D cy ci h I A o :=
  m_entryI (cc := cX12_nodes) (maxL := 1) (by decide) rfl rfl (Nat.le_of_ble_eq_true rfl) (fun p e s m args below meth c A0 Q H locs ls X hret hM hl => w_nodes_0 X hret hf hM (lv_sub hl [0] rfl))
theorem hw_node : ∀ w ∈ wsX120, w ∈ wsX12_node := by decide +kernel
theorem fl_node_0 : Cond.fieldLink RX12 99 "MoveTextsModel" "thrown" "I" ∈ wsX12_node := by decide +kernel
theorem fl_node_5 : Cond.fieldLink RX12 347 "MoveTextsModel" "game" "I" ∈ wsX12_node := by decide +kernel
theorem fl_node_8 : Cond.fieldLink RX12 21 "MoveTextsModel" "parent" "[I" ∈ wsX12_node := by decide +kernel
theorem fl_node_9 : Cond.fieldLink RX12 24 "MoveTextsModel" "moveOf" "[I" ∈ wsX12_node := by decide +kernel
theorem fl_node_10 : Cond.fieldLink RX12 27 "MoveTextsModel" "child" "[I" ∈ wsX12_node := by decide +kernel
theorem fl_node_11 : Cond.fieldLink RX12 30 "MoveTextsModel" "next" "[I" ∈ wsX12_node := by decide +kernel
theorem fl_node_12 : Cond.fieldLink RX12 33 "MoveTextsModel" "markCount" "[I" ∈ wsX12_node := by decide +kernel
theorem fl_node_14 : Cond.fieldLink RX12 39 "MoveTextsModel" "remarkSize" "[I" ∈ wsX12_node := by decide +kernel
theorem hd_node : yX12_node.cls = RX12 ∧ yX12_node.cls ≠ "java/lang/invoke/MethodHandle" ∧ yX12_node.cls ≠ "java/lang/invoke/VarHandle" ∧ (parseMethodDescriptor yX12_node.desc).map (fun d => d.parameters.length) = some 2 := by decide +kernel
noncomputable def f_node_23 (x1 : Int32) (x2 : Int32) (t0 : Int32) (I : Nat → Int32) (A : Nat → Nat → Int32) : Option (Int32 × MS) :=
  m_bnd (upd I 0 t0) (fun I1 =>
  m_if ((I1 0) ≤ 0) (
  m_bnd ((301 : Int32) * (I1 5)) (fun v2 =>
  m_bnd (v2 + x1) (fun v3 =>
  m_if (x2 = (0 : Int32)) (
  m_chk (¬ (v3 < 0 ∨ 602 ≤ (v3).toNatClampNeg)) (
  m_bnd (A 8 (v3).toNatClampNeg) (fun v4 =>
  some (v4, (I1, A))))
  ) (
  m_if (x2 = (1 : Int32)) (
  m_chk (¬ (v3 < 0 ∨ 602 ≤ (v3).toNatClampNeg)) (
  m_bnd (A 9 (v3).toNatClampNeg) (fun v5 =>
  some (v5, (I1, A))))
  ) (
  m_if (x2 = (2 : Int32)) (
  m_chk (¬ (v3 < 0 ∨ 602 ≤ (v3).toNatClampNeg)) (
  m_bnd (A 10 (v3).toNatClampNeg) (fun v6 =>
  some (v6, (I1, A))))
  ) (
  m_if (x2 = (3 : Int32)) (
  m_chk (¬ (v3 < 0 ∨ 602 ≤ (v3).toNatClampNeg)) (
  m_bnd (A 11 (v3).toNatClampNeg) (fun v7 =>
  some (v7, (I1, A))))
  ) (
  m_if (x2 = (4 : Int32)) (
  m_chk (¬ (v3 < 0 ∨ 602 ≤ (v3).toNatClampNeg)) (
  m_bnd (A 12 (v3).toNatClampNeg) (fun v8 =>
  some (v8, (I1, A))))
  ) (
  m_chk (¬ (v3 < 0 ∨ 602 ≤ (v3).toNatClampNeg)) (
  m_bnd (A 14 (v3).toNatClampNeg) (fun v9 =>
  some (v9, (I1, A))))
  )))))))
  ) (
  some ((0 : Int32), (I1, A))
  ))

set_option maxRecDepth 100000 in
set_option maxHeartbeats 4000000 in
theorem w_node_23 {p : Program} {l : Launch} {e : Env} {s : State} {m : MethodId} {args : Array Value} {below : List Frame} {meth : Method} {c : Code} {Q : State → Prop} {D : va_G} {cy ci : ClassId} {h : Nat → Nat} {A0 : Nat → Prop} {o : Int32 × MS} (X : CallFix p m c cX12_node 4 s args wsX12_node RX12) (hret : mRi p l e ({ frames := 1, cells := 0, slots := 0, locals := 21 } : Room) s m args below meth c Q cX12_node D cy ci h A0 .int o) {x1 : Int32} {x2 : Int32} {t0 : Int32} {I : Nat → Int32} {A : Nat → Nat → Int32} {H : Heap} {locs : List Loc} {ls : Array Slot} (hf : f_node_23 x1 x2 t0 I A = some o) (hM : mH D cy ci h A0 s H locs I A) (hl : lv_has ls 4 [(0, .ref (h 0)), (1, .int x1), (2, .int x2)]) : W p l e ({ frames := 1, cells := 0, slots := 0, locals := 21 } : Room) s m args below meth c H locs 0 0 Q (F0 m 23 ls [.int t0, .ref (h 0)]) := by
  obtain ⟨hx, hb, hml, hown, hts⟩ := id X
  unfold f_node_23 at hf
  refine m_put X hw_node hM 0 (by decide) fl_node_0 mi_0 rfl (tyX12_ok 0 (by decide)) dX12_node_23 (fun H locs hM => ?_)
  obtain ⟨I1, ev, hf⟩ := m_bndE hf
  replace hM := m_hI hM ev
  clear ev
  refine lv_aload_n hx hb dX12_node_26 rfl (lv_at hl 0 rfl) ?_
  refine m_get (v := .int (I1 0)) X hw_node hM 0 (by decide) fl_node_0 rfl dX12_node_27 ?_
  refine lv_if_le (tgt := 35) hx hb dX12_node_30 (by decide) (fun cc1 => ?_) (fun cc1 => ?_)
  · replace hf := m_ifT hf cc1
    refine lv_sipush (v := (301 : Int32)) hx hb dX12_node_35 (by decide) ?_
    refine lv_aload_n hx hb dX12_node_38 rfl (lv_at hl 0 rfl) ?_
    refine m_get (v := .int (I1 5)) X hw_node hM 5 (by decide) fl_node_5 rfl dX12_node_39 ?_
    refine lv_imul hx hb dX12_node_42 ?_
    obtain ⟨v2, ev, hf⟩ := m_bndE hf
    refine m_top ev ?_
    clear ev
    refine lv_iload_n hx hb dX12_node_43 rfl (lv_at hl 1 rfl) ?_
    refine lv_iadd hx hb dX12_node_44 ?_
    obtain ⟨v3, ev, hf⟩ := m_bndE hf
    refine m_top ev ?_
    clear ev
    refine lv_istore_n (lv' := [(3, .int v3), (0, .ref (h 0)), (1, .int x1), (2, .int x2)]) hx hb dX12_node_45 rfl hl (by decide) rfl (fun ls hl => ?_)
    refine lv_iload_n hx hb dX12_node_46 rfl (lv_at hl 3 rfl) ?_
    by_cases ck0 : x2 = (0 : Int32)
    · replace hf := m_ifT hf ck0
      refine lv_tableIn (off := 33) (tgt := 80) hx hb dX12_node_47 (by rw [ck0]; decide) (by rw [ck0]; decide) (by rw [ck0]; decide) (by decide) ?_
      refine lv_aload_n hx hb dX12_node_80 rfl (lv_at hl 1 rfl) ?_
      refine m_get (v := .ref (h 8)) X hw_node hM 8 (by decide) fl_node_8 rfl dX12_node_81 ?_
      refine lv_iload_n hx hb dX12_node_84 rfl (lv_at hl 0 rfl) ?_
      obtain ⟨cd, hf⟩ := m_chkE hf
      refine m_iald X hM 8 4 602 rfl cd dX12_node_85 ?_
      clear cd
      obtain ⟨v4, ev, hf⟩ := m_bndE hf
      refine m_top ev ?_
      clear ev
      cases hf
      exact hret H locs _ ls hM rfl dX12_node_86
    · replace hf := m_ifF hf ck0
      by_cases ck1 : x2 = (1 : Int32)
      · replace hf := m_ifT hf ck1
        refine lv_tableIn (off := 40) (tgt := 87) hx hb dX12_node_47 (by rw [ck1]; decide) (by rw [ck1]; decide) (by rw [ck1]; decide) (by decide) ?_
        refine lv_aload_n hx hb dX12_node_87 rfl (lv_at hl 1 rfl) ?_
        refine m_get (v := .ref (h 9)) X hw_node hM 9 (by decide) fl_node_9 rfl dX12_node_88 ?_
        refine lv_iload_n hx hb dX12_node_91 rfl (lv_at hl 0 rfl) ?_
        obtain ⟨cd, hf⟩ := m_chkE hf
        refine m_iald X hM 9 5 602 rfl cd dX12_node_92 ?_
        clear cd
        obtain ⟨v5, ev, hf⟩ := m_bndE hf
        refine m_top ev ?_
        clear ev
        cases hf
        exact hret H locs _ ls hM rfl dX12_node_93
      · replace hf := m_ifF hf ck1
        by_cases ck2 : x2 = (2 : Int32)
        · replace hf := m_ifT hf ck2
          refine lv_tableIn (off := 47) (tgt := 94) hx hb dX12_node_47 (by rw [ck2]; decide) (by rw [ck2]; decide) (by rw [ck2]; decide) (by decide) ?_
          refine lv_aload_n hx hb dX12_node_94 rfl (lv_at hl 1 rfl) ?_
          refine m_get (v := .ref (h 10)) X hw_node hM 10 (by decide) fl_node_10 rfl dX12_node_95 ?_
          refine lv_iload_n hx hb dX12_node_98 rfl (lv_at hl 0 rfl) ?_
          obtain ⟨cd, hf⟩ := m_chkE hf
          refine m_iald X hM 10 6 602 rfl cd dX12_node_99 ?_
          clear cd
          obtain ⟨v6, ev, hf⟩ := m_bndE hf
          refine m_top ev ?_
          clear ev
          cases hf
          exact hret H locs _ ls hM rfl dX12_node_100
        · replace hf := m_ifF hf ck2
          by_cases ck3 : x2 = (3 : Int32)
          · replace hf := m_ifT hf ck3
            refine lv_tableIn (off := 54) (tgt := 101) hx hb dX12_node_47 (by rw [ck3]; decide) (by rw [ck3]; decide) (by rw [ck3]; decide) (by decide) ?_
            refine lv_aload_n hx hb dX12_node_101 rfl (lv_at hl 1 rfl) ?_
            refine m_get (v := .ref (h 11)) X hw_node hM 11 (by decide) fl_node_11 rfl dX12_node_102 ?_
            refine lv_iload_n hx hb dX12_node_105 rfl (lv_at hl 0 rfl) ?_
            obtain ⟨cd, hf⟩ := m_chkE hf
            refine m_iald X hM 11 7 602 rfl cd dX12_node_106 ?_
            clear cd
            obtain ⟨v7, ev, hf⟩ := m_bndE hf
            refine m_top ev ?_
            clear ev
            cases hf
            exact hret H locs _ ls hM rfl dX12_node_107
          · replace hf := m_ifF hf ck3
            by_cases ck4 : x2 = (4 : Int32)
            · replace hf := m_ifT hf ck4
              refine lv_tableIn (off := 61) (tgt := 108) hx hb dX12_node_47 (by rw [ck4]; decide) (by rw [ck4]; decide) (by rw [ck4]; decide) (by decide) ?_
              refine lv_aload_n hx hb dX12_node_108 rfl (lv_at hl 1 rfl) ?_
              refine m_get (v := .ref (h 12)) X hw_node hM 12 (by decide) fl_node_12 rfl dX12_node_109 ?_
              refine lv_iload_n hx hb dX12_node_112 rfl (lv_at hl 0 rfl) ?_
              obtain ⟨cd, hf⟩ := m_chkE hf
              refine m_iald X hM 12 8 602 rfl cd dX12_node_113 ?_
              clear cd
              obtain ⟨v8, ev, hf⟩ := m_bndE hf
              refine m_top ev ?_
              clear ev
              cases hf
              exact hret H locs _ ls hM rfl dX12_node_114
            · replace hf := m_ifF hf ck4
              refine m_tabD (tgt := 115) [(0 : Int32), (1 : Int32), (2 : Int32), (3 : Int32), (4 : Int32)] hx hb dX12_node_47 (by decide) (by decide) (List.forall_mem_cons.mpr ⟨ck0, List.forall_mem_cons.mpr ⟨ck1, List.forall_mem_cons.mpr ⟨ck2, List.forall_mem_cons.mpr ⟨ck3, List.forall_mem_cons.mpr ⟨ck4, fun _ h9 => absurd h9 List.not_mem_nil⟩⟩⟩⟩⟩) (by decide) ?_
              refine lv_aload_n hx hb dX12_node_115 rfl (lv_at hl 1 rfl) ?_
              refine m_get (v := .ref (h 14)) X hw_node hM 14 (by decide) fl_node_14 rfl dX12_node_116 ?_
              refine lv_iload_n hx hb dX12_node_119 rfl (lv_at hl 0 rfl) ?_
              obtain ⟨cd, hf⟩ := m_chkE hf
              refine m_iald X hM 14 10 602 rfl cd dX12_node_120 ?_
              clear cd
              obtain ⟨v9, ev, hf⟩ := m_bndE hf
              refine m_top ev ?_
              clear ev
              cases hf
              exact hret H locs _ ls hM rfl dX12_node_121
  · replace hf := m_ifF hf cc1
    refine lv_iconst (v := (0 : Int32)) hx hb dX12_node_33 (by decide) ?_
    cases hf
    exact hret H locs _ ls hM rfl dX12_node_34
noncomputable def f_node_18 (x1 : Int32) (x2 : Int32) (I : Nat → Int32) (A : Nat → Nat → Int32) : Option (Int32 × MS) :=
  f_node_23 x1 x2 (1 : Int32) I A

set_option maxRecDepth 100000 in
set_option maxHeartbeats 4000000 in
theorem w_node_18 {p : Program} {l : Launch} {e : Env} {s : State} {m : MethodId} {args : Array Value} {below : List Frame} {meth : Method} {c : Code} {Q : State → Prop} {D : va_G} {cy ci : ClassId} {h : Nat → Nat} {A0 : Nat → Prop} {o : Int32 × MS} (X : CallFix p m c cX12_node 4 s args wsX12_node RX12) (hret : mRi p l e ({ frames := 1, cells := 0, slots := 0, locals := 21 } : Room) s m args below meth c Q cX12_node D cy ci h A0 .int o) {x1 : Int32} {x2 : Int32} {I : Nat → Int32} {A : Nat → Nat → Int32} {H : Heap} {locs : List Loc} {ls : Array Slot} (hf : f_node_18 x1 x2 I A = some o) (hM : mH D cy ci h A0 s H locs I A) (hl : lv_has ls 4 [(0, .ref (h 0)), (1, .int x1), (2, .int x2)]) : W p l e ({ frames := 1, cells := 0, slots := 0, locals := 21 } : Room) s m args below meth c H locs 0 0 Q (F0 m 18 ls [.ref (h 0)]) := by
  obtain ⟨hx, hb, hml, hown, hts⟩ := id X
  unfold f_node_18 at hf
  refine lv_iconst (v := (1 : Int32)) hx hb dX12_node_18 (by decide) ?_
  refine lv_goto (tgt := 23) hx hb dX12_node_19 (by decide) ?_
  exact w_node_23 X hret hf hM (lv_sub hl [0, 1, 2] rfl)
noncomputable def f_node_0 (x1 : Int32) (x2 : Int32) (I : Nat → Int32) (A : Nat → Nat → Int32) : Option (Int32 × MS) :=
  m_cl (f_isNode x1 I A) (fun r1 Ic1 Ac1 =>
  m_if (r1 = 0) (
  f_node_18 x1 x2 Ic1 Ac1
  ) (
  m_if (x2 < 0) (
  f_node_18 x1 x2 Ic1 Ac1
  ) (
  m_if (x2 ≤ (5 : Int32)) (
  f_node_23 x1 x2 (0 : Int32) Ic1 Ac1
  ) (
  f_node_18 x1 x2 Ic1 Ac1
  )
  )
  ))

set_option maxRecDepth 100000 in
set_option maxHeartbeats 4000000 in
theorem w_node_0 {p : Program} {l : Launch} {e : Env} {s : State} {m : MethodId} {args : Array Value} {below : List Frame} {meth : Method} {c : Code} {Q : State → Prop} {D : va_G} {cy ci : ClassId} {h : Nat → Nat} {A0 : Nat → Prop} {o : Int32 × MS} (X : CallFix p m c cX12_node 4 s args wsX12_node RX12) (hret : mRi p l e ({ frames := 1, cells := 0, slots := 0, locals := 21 } : Room) s m args below meth c Q cX12_node D cy ci h A0 .int o) {x1 : Int32} {x2 : Int32} {I : Nat → Int32} {A : Nat → Nat → Int32} {H : Heap} {locs : List Loc} {ls : Array Slot} (hf : f_node_0 x1 x2 I A = some o) (hM : mH D cy ci h A0 s H locs I A) (hl : lv_has ls 4 [(0, .ref (h 0)), (1, .int x1), (2, .int x2)]) : W p l e ({ frames := 1, cells := 0, slots := 0, locals := 21 } : Room) s m args below meth c H locs 0 0 Q (F0 m 0 ls []) := by
  obtain ⟨hx, hb, hml, hown, hts⟩ := id X
  unfold f_node_0 at hf
  refine lv_aload_n hx hb dX12_node_0 rfl (lv_at hl 0 rfl) ?_
  refine lv_aload_n hx hb dX12_node_1 rfl (lv_at hl 0 rfl) ?_
  refine lv_iload_n hx hb dX12_node_2 rfl (lv_at hl 1 rfl) ?_
  obtain ⟨o1, ho, hf⟩ := m_clE hf
  refine m_callVi X hM (c_isNode ho) gX12_node_X12_isNode rfl ⟨rfl, rfl⟩ hd_isNode ⟨Nat.le_of_ble_eq_true rfl, Nat.le_of_ble_eq_true rfl⟩ rfl hl.1 rfl (Nat.le_of_ble_eq_true rfl) dX12_node_3 (fun H locs hM => ?_)
  clear ho
  refine lv_if_eq (tgt := 18) hx hb dX12_node_6 (by decide) (fun cc1 => ?_) (fun cc1 => ?_)
  · replace hf := m_ifT hf cc1
    exact w_node_18 X hret hf hM (lv_sub hl [0, 1, 2] rfl)
  · replace hf := m_ifF hf cc1
    refine lv_iload_n hx hb dX12_node_9 rfl (lv_at hl 2 rfl) ?_
    refine lv_if_lt (tgt := 18) hx hb dX12_node_10 (by decide) (fun cc1 => ?_) (fun cc1 => ?_)
    · replace hf := m_ifT hf cc1
      exact w_node_18 X hret hf hM (lv_sub hl [0, 1, 2] rfl)
    · replace hf := m_ifF hf cc1
      refine lv_iload_n hx hb dX12_node_13 rfl (lv_at hl 2 rfl) ?_
      refine lv_iconst (v := (5 : Int32)) hx hb dX12_node_14 (by decide) ?_
      refine lv_icmp_le (tgt := 22) hx hb dX12_node_15 (by decide) (fun cc1 => ?_) (fun cc1 => ?_)
      · replace hf := m_ifT hf cc1
        refine lv_iconst (v := (0 : Int32)) hx hb dX12_node_22 (by decide) ?_
        exact w_node_23 X hret hf hM (lv_sub hl [0, 1, 2] rfl)
      · replace hf := m_ifF hf cc1
        exact w_node_18 X hret hf hM (lv_sub hl [0, 1, 2] rfl)
noncomputable def f_node (x1 : Int32) (x2 : Int32) (I : Nat → Int32) (A : Nat → Nat → Int32) : Option (Int32 × MS) := f_node_0 x1 x2 I A
theorem c_node {l : Launch} {D : va_G} {cy ci : ClassId} {h : Nat → Nat} {x1 : Int32} {x2 : Int32} {I : Nat → Int32} {A : Nat → Nat → Int32} {o : Int32 × MS} (hf : f_node x1 x2 I A = some o) : mMi l yX12_node wsX12_node ({ frames := 1, cells := 0, slots := 0, locals := 21 } : Room) [.ref (h 0), .int x1, .int x2] D cy ci h I A o :=
  m_entryI (cc := cX12_node) (maxL := 4) (by decide) rfl rfl (Nat.le_of_ble_eq_true rfl) (fun p e s m args below meth c A0 Q H locs ls X hret hM hl => w_node_0 X hret hf hM (lv_sub hl [0, 1, 2] rfl))
theorem hw_mark : ∀ w ∈ wsX120, w ∈ wsX12_mark := by decide +kernel
theorem fl_mark_0 : Cond.fieldLink RX12 99 "MoveTextsModel" "thrown" "I" ∈ wsX12_mark := by decide +kernel
theorem fl_mark_5 : Cond.fieldLink RX12 347 "MoveTextsModel" "game" "I" ∈ wsX12_mark := by decide +kernel
theorem fl_mark_12 : Cond.fieldLink RX12 33 "MoveTextsModel" "markCount" "[I" ∈ wsX12_mark := by decide +kernel
theorem fl_mark_13 : Cond.fieldLink RX12 36 "MoveTextsModel" "marks" "[I" ∈ wsX12_mark := by decide +kernel
theorem hd_mark : yX12_mark.cls = RX12 ∧ yX12_mark.cls ≠ "java/lang/invoke/MethodHandle" ∧ yX12_mark.cls ≠ "java/lang/invoke/VarHandle" ∧ (parseMethodDescriptor yX12_mark.desc).map (fun d => d.parameters.length) = some 2 := by decide +kernel
noncomputable def f_mark_70 (t0 : Int32) (I : Nat → Int32) (A : Nat → Nat → Int32) : Option (Int32 × MS) :=
  some (t0, (I, A))

set_option maxRecDepth 100000 in
set_option maxHeartbeats 4000000 in
theorem w_mark_70 {p : Program} {l : Launch} {e : Env} {s : State} {m : MethodId} {args : Array Value} {below : List Frame} {meth : Method} {c : Code} {Q : State → Prop} {D : va_G} {cy ci : ClassId} {h : Nat → Nat} {A0 : Nat → Prop} {o : Int32 × MS} (X : CallFix p m c cX12_mark 3 s args wsX12_mark RX12) (hret : mRi p l e ({ frames := 1, cells := 0, slots := 0, locals := 21 } : Room) s m args below meth c Q cX12_mark D cy ci h A0 .int o) {t0 : Int32} {I : Nat → Int32} {A : Nat → Nat → Int32} {H : Heap} {locs : List Loc} {ls : Array Slot} (hf : f_mark_70 t0 I A = some o) (hM : mH D cy ci h A0 s H locs I A) (hl : lv_has ls 3 []) : W p l e ({ frames := 1, cells := 0, slots := 0, locals := 21 } : Room) s m args below meth c H locs 0 0 Q (F0 m 70 ls [.int t0]) := by
  obtain ⟨hx, hb, hml, hown, hts⟩ := id X
  unfold f_mark_70 at hf
  cases hf
  exact hret H locs _ ls hM rfl dX12_mark_70
noncomputable def f_mark_37 (x1 : Int32) (x2 : Int32) (t0 : Int32) (I : Nat → Int32) (A : Nat → Nat → Int32) : Option (Int32 × MS) :=
  m_bnd (upd I 0 t0) (fun I1 =>
  m_if ((I1 0) ≤ 0) (
  m_bnd ((301 : Int32) * (I1 5)) (fun v2 =>
  m_bnd (v2 + x1) (fun v3 =>
  m_bnd ((4 : Int32) * v3) (fun v4 =>
  m_bnd (v4 + x2) (fun v5 =>
  m_chk (¬ (v5 < 0 ∨ 2408 ≤ (v5).toNatClampNeg)) (
  m_bnd (A 13 (v5).toNatClampNeg) (fun v6 =>
  f_mark_70 v6 I1 A))))))
  ) (
  f_mark_70 (0 : Int32) I1 A
  ))

set_option maxRecDepth 100000 in
set_option maxHeartbeats 4000000 in
theorem w_mark_37 {p : Program} {l : Launch} {e : Env} {s : State} {m : MethodId} {args : Array Value} {below : List Frame} {meth : Method} {c : Code} {Q : State → Prop} {D : va_G} {cy ci : ClassId} {h : Nat → Nat} {A0 : Nat → Prop} {o : Int32 × MS} (X : CallFix p m c cX12_mark 3 s args wsX12_mark RX12) (hret : mRi p l e ({ frames := 1, cells := 0, slots := 0, locals := 21 } : Room) s m args below meth c Q cX12_mark D cy ci h A0 .int o) {x1 : Int32} {x2 : Int32} {t0 : Int32} {I : Nat → Int32} {A : Nat → Nat → Int32} {H : Heap} {locs : List Loc} {ls : Array Slot} (hf : f_mark_37 x1 x2 t0 I A = some o) (hM : mH D cy ci h A0 s H locs I A) (hl : lv_has ls 3 [(0, .ref (h 0)), (1, .int x1), (2, .int x2)]) : W p l e ({ frames := 1, cells := 0, slots := 0, locals := 21 } : Room) s m args below meth c H locs 0 0 Q (F0 m 37 ls [.int t0, .ref (h 0)]) := by
  obtain ⟨hx, hb, hml, hown, hts⟩ := id X
  unfold f_mark_37 at hf
  refine m_put X hw_mark hM 0 (by decide) fl_mark_0 mi_0 rfl (tyX12_ok 0 (by decide)) dX12_mark_37 (fun H locs hM => ?_)
  obtain ⟨I1, ev, hf⟩ := m_bndE hf
  replace hM := m_hI hM ev
  clear ev
  refine lv_aload_n hx hb dX12_mark_40 rfl (lv_at hl 0 rfl) ?_
  refine m_get (v := .int (I1 0)) X hw_mark hM 0 (by decide) fl_mark_0 rfl dX12_mark_41 ?_
  refine lv_if_le (tgt := 51) hx hb dX12_mark_44 (by decide) (fun cc1 => ?_) (fun cc1 => ?_)
  · replace hf := m_ifT hf cc1
    refine lv_aload_n hx hb dX12_mark_51 rfl (lv_at hl 0 rfl) ?_
    refine m_get (v := .ref (h 13)) X hw_mark hM 13 (by decide) fl_mark_13 rfl dX12_mark_52 ?_
    refine lv_iconst (v := (4 : Int32)) hx hb dX12_mark_55 (by decide) ?_
    refine lv_sipush (v := (301 : Int32)) hx hb dX12_mark_56 (by decide) ?_
    refine lv_aload_n hx hb dX12_mark_59 rfl (lv_at hl 0 rfl) ?_
    refine m_get (v := .int (I1 5)) X hw_mark hM 5 (by decide) fl_mark_5 rfl dX12_mark_60 ?_
    refine lv_imul hx hb dX12_mark_63 ?_
    obtain ⟨v2, ev, hf⟩ := m_bndE hf
    refine m_top ev ?_
    clear ev
    refine lv_iload_n hx hb dX12_mark_64 rfl (lv_at hl 1 rfl) ?_
    refine lv_iadd hx hb dX12_mark_65 ?_
    obtain ⟨v3, ev, hf⟩ := m_bndE hf
    refine m_top ev ?_
    clear ev
    refine lv_imul hx hb dX12_mark_66 ?_
    obtain ⟨v4, ev, hf⟩ := m_bndE hf
    refine m_top ev ?_
    clear ev
    refine lv_iload_n hx hb dX12_mark_67 rfl (lv_at hl 2 rfl) ?_
    refine lv_iadd hx hb dX12_mark_68 ?_
    obtain ⟨v5, ev, hf⟩ := m_bndE hf
    refine m_top ev ?_
    clear ev
    obtain ⟨cd, hf⟩ := m_chkE hf
    refine m_iald X hM 13 9 2408 rfl cd dX12_mark_69 ?_
    clear cd
    obtain ⟨v6, ev, hf⟩ := m_bndE hf
    refine m_top ev ?_
    clear ev
    exact w_mark_70 X hret hf hM (lv_sub hl [] rfl)
  · replace hf := m_ifF hf cc1
    refine lv_iconst (v := (0 : Int32)) hx hb dX12_mark_47 (by decide) ?_
    refine lv_goto (tgt := 70) hx hb dX12_mark_48 (by decide) ?_
    exact w_mark_70 X hret hf hM (lv_sub hl [] rfl)
noncomputable def f_mark_32 (x1 : Int32) (x2 : Int32) (I : Nat → Int32) (A : Nat → Nat → Int32) : Option (Int32 × MS) :=
  f_mark_37 x1 x2 (1 : Int32) I A

set_option maxRecDepth 100000 in
set_option maxHeartbeats 4000000 in
theorem w_mark_32 {p : Program} {l : Launch} {e : Env} {s : State} {m : MethodId} {args : Array Value} {below : List Frame} {meth : Method} {c : Code} {Q : State → Prop} {D : va_G} {cy ci : ClassId} {h : Nat → Nat} {A0 : Nat → Prop} {o : Int32 × MS} (X : CallFix p m c cX12_mark 3 s args wsX12_mark RX12) (hret : mRi p l e ({ frames := 1, cells := 0, slots := 0, locals := 21 } : Room) s m args below meth c Q cX12_mark D cy ci h A0 .int o) {x1 : Int32} {x2 : Int32} {I : Nat → Int32} {A : Nat → Nat → Int32} {H : Heap} {locs : List Loc} {ls : Array Slot} (hf : f_mark_32 x1 x2 I A = some o) (hM : mH D cy ci h A0 s H locs I A) (hl : lv_has ls 3 [(0, .ref (h 0)), (1, .int x1), (2, .int x2)]) : W p l e ({ frames := 1, cells := 0, slots := 0, locals := 21 } : Room) s m args below meth c H locs 0 0 Q (F0 m 32 ls [.ref (h 0)]) := by
  obtain ⟨hx, hb, hml, hown, hts⟩ := id X
  unfold f_mark_32 at hf
  refine lv_iconst (v := (1 : Int32)) hx hb dX12_mark_32 (by decide) ?_
  refine lv_goto (tgt := 37) hx hb dX12_mark_33 (by decide) ?_
  exact w_mark_37 X hret hf hM (lv_sub hl [0, 1, 2] rfl)
noncomputable def f_mark_0 (x1 : Int32) (x2 : Int32) (I : Nat → Int32) (A : Nat → Nat → Int32) : Option (Int32 × MS) :=
  m_cl (f_isNode x1 I A) (fun r1 Ic1 Ac1 =>
  m_if (r1 = 0) (
  f_mark_32 x1 x2 Ic1 Ac1
  ) (
  m_if (x2 < 0) (
  f_mark_32 x1 x2 Ic1 Ac1
  ) (
  m_bnd ((301 : Int32) * (Ic1 5)) (fun v2 =>
  m_bnd (v2 + x1) (fun v3 =>
  m_chk (¬ (v3 < 0 ∨ 602 ≤ (v3).toNatClampNeg)) (
  m_bnd (Ac1 12 (v3).toNatClampNeg) (fun v4 =>
  m_if (x2 < v4) (
  f_mark_37 x1 x2 (0 : Int32) Ic1 Ac1
  ) (
  f_mark_32 x1 x2 Ic1 Ac1
  )))))
  )
  ))

set_option maxRecDepth 100000 in
set_option maxHeartbeats 4000000 in
theorem w_mark_0 {p : Program} {l : Launch} {e : Env} {s : State} {m : MethodId} {args : Array Value} {below : List Frame} {meth : Method} {c : Code} {Q : State → Prop} {D : va_G} {cy ci : ClassId} {h : Nat → Nat} {A0 : Nat → Prop} {o : Int32 × MS} (X : CallFix p m c cX12_mark 3 s args wsX12_mark RX12) (hret : mRi p l e ({ frames := 1, cells := 0, slots := 0, locals := 21 } : Room) s m args below meth c Q cX12_mark D cy ci h A0 .int o) {x1 : Int32} {x2 : Int32} {I : Nat → Int32} {A : Nat → Nat → Int32} {H : Heap} {locs : List Loc} {ls : Array Slot} (hf : f_mark_0 x1 x2 I A = some o) (hM : mH D cy ci h A0 s H locs I A) (hl : lv_has ls 3 [(0, .ref (h 0)), (1, .int x1), (2, .int x2)]) : W p l e ({ frames := 1, cells := 0, slots := 0, locals := 21 } : Room) s m args below meth c H locs 0 0 Q (F0 m 0 ls []) := by
  obtain ⟨hx, hb, hml, hown, hts⟩ := id X
  unfold f_mark_0 at hf
  refine lv_aload_n hx hb dX12_mark_0 rfl (lv_at hl 0 rfl) ?_
  refine lv_aload_n hx hb dX12_mark_1 rfl (lv_at hl 0 rfl) ?_
  refine lv_iload_n hx hb dX12_mark_2 rfl (lv_at hl 1 rfl) ?_
  obtain ⟨o1, ho, hf⟩ := m_clE hf
  refine m_callVi X hM (c_isNode ho) gX12_mark_X12_isNode rfl ⟨rfl, rfl⟩ hd_isNode ⟨Nat.le_of_ble_eq_true rfl, Nat.le_of_ble_eq_true rfl⟩ rfl hl.1 rfl (Nat.le_of_ble_eq_true rfl) dX12_mark_3 (fun H locs hM => ?_)
  clear ho
  refine lv_if_eq (tgt := 32) hx hb dX12_mark_6 (by decide) (fun cc1 => ?_) (fun cc1 => ?_)
  · replace hf := m_ifT hf cc1
    exact w_mark_32 X hret hf hM (lv_sub hl [0, 1, 2] rfl)
  · replace hf := m_ifF hf cc1
    refine lv_iload_n hx hb dX12_mark_9 rfl (lv_at hl 2 rfl) ?_
    refine lv_if_lt (tgt := 32) hx hb dX12_mark_10 (by decide) (fun cc1 => ?_) (fun cc1 => ?_)
    · replace hf := m_ifT hf cc1
      exact w_mark_32 X hret hf hM (lv_sub hl [0, 1, 2] rfl)
    · replace hf := m_ifF hf cc1
      refine lv_iload_n hx hb dX12_mark_13 rfl (lv_at hl 2 rfl) ?_
      refine lv_aload_n hx hb dX12_mark_14 rfl (lv_at hl 0 rfl) ?_
      refine m_get (v := .ref (h 12)) X hw_mark hM 12 (by decide) fl_mark_12 rfl dX12_mark_15 ?_
      refine lv_sipush (v := (301 : Int32)) hx hb dX12_mark_18 (by decide) ?_
      refine lv_aload_n hx hb dX12_mark_21 rfl (lv_at hl 0 rfl) ?_
      refine m_get (v := .int (o1.2.1 5)) X hw_mark hM 5 (by decide) fl_mark_5 rfl dX12_mark_22 ?_
      refine lv_imul hx hb dX12_mark_25 ?_
      obtain ⟨v2, ev, hf⟩ := m_bndE hf
      refine m_top ev ?_
      clear ev
      refine lv_iload_n hx hb dX12_mark_26 rfl (lv_at hl 1 rfl) ?_
      refine lv_iadd hx hb dX12_mark_27 ?_
      obtain ⟨v3, ev, hf⟩ := m_bndE hf
      refine m_top ev ?_
      clear ev
      obtain ⟨cd, hf⟩ := m_chkE hf
      refine m_iald X hM 12 8 602 rfl cd dX12_mark_28 ?_
      clear cd
      obtain ⟨v4, ev, hf⟩ := m_bndE hf
      refine m_top ev ?_
      clear ev
      refine lv_icmp_lt (tgt := 36) hx hb dX12_mark_29 (by decide) (fun cc1 => ?_) (fun cc1 => ?_)
      · replace hf := m_ifT hf cc1
        refine lv_iconst (v := (0 : Int32)) hx hb dX12_mark_36 (by decide) ?_
        exact w_mark_37 X hret hf hM (lv_sub hl [0, 1, 2] rfl)
      · replace hf := m_ifF hf cc1
        exact w_mark_32 X hret hf hM (lv_sub hl [0, 1, 2] rfl)
noncomputable def f_mark (x1 : Int32) (x2 : Int32) (I : Nat → Int32) (A : Nat → Nat → Int32) : Option (Int32 × MS) := f_mark_0 x1 x2 I A
theorem c_mark {l : Launch} {D : va_G} {cy ci : ClassId} {h : Nat → Nat} {x1 : Int32} {x2 : Int32} {I : Nat → Int32} {A : Nat → Nat → Int32} {o : Int32 × MS} (hf : f_mark x1 x2 I A = some o) : mMi l yX12_mark wsX12_mark ({ frames := 1, cells := 0, slots := 0, locals := 21 } : Room) [.ref (h 0), .int x1, .int x2] D cy ci h I A o :=
  m_entryI (cc := cX12_mark) (maxL := 3) (by decide) rfl rfl (Nat.le_of_ble_eq_true rfl) (fun p e s m args below meth c A0 Q H locs ls X hret hM hl => w_mark_0 X hret hf hM (lv_sub hl [0, 1, 2] rfl))
end
section
theorem hw_remark : ∀ w ∈ wsX120, w ∈ wsX12_remark := by decide +kernel
theorem fl_remark_0 : Cond.fieldLink RX12 99 "MoveTextsModel" "thrown" "I" ∈ wsX12_remark := by decide +kernel
theorem fl_remark_5 : Cond.fieldLink RX12 347 "MoveTextsModel" "game" "I" ∈ wsX12_remark := by decide +kernel
theorem fl_remark_14 : Cond.fieldLink RX12 39 "MoveTextsModel" "remarkSize" "[I" ∈ wsX12_remark := by decide +kernel
theorem fl_remark_15 : Cond.fieldLink RX12 43 "MoveTextsModel" "remarks" "[C" ∈ wsX12_remark := by decide +kernel
theorem hd_remark : yX12_remark.cls = RX12 ∧ yX12_remark.cls ≠ "java/lang/invoke/MethodHandle" ∧ yX12_remark.cls ≠ "java/lang/invoke/VarHandle" ∧ (parseMethodDescriptor yX12_remark.desc).map (fun d => d.parameters.length) = some 2 := by decide +kernel
noncomputable def f_remark_72 (t0 : Int32) (I : Nat → Int32) (A : Nat → Nat → Int32) : Option (Int32 × MS) :=
  some (t0, (I, A))

set_option maxRecDepth 100000 in
set_option maxHeartbeats 4000000 in
theorem w_remark_72 {p : Program} {l : Launch} {e : Env} {s : State} {m : MethodId} {args : Array Value} {below : List Frame} {meth : Method} {c : Code} {Q : State → Prop} {D : va_G} {cy ci : ClassId} {h : Nat → Nat} {A0 : Nat → Prop} {o : Int32 × MS} (X : CallFix p m c cX12_remark 3 s args wsX12_remark RX12) (hret : mRi p l e ({ frames := 1, cells := 0, slots := 0, locals := 21 } : Room) s m args below meth c Q cX12_remark D cy ci h A0 .int o) {t0 : Int32} {I : Nat → Int32} {A : Nat → Nat → Int32} {H : Heap} {locs : List Loc} {ls : Array Slot} (hf : f_remark_72 t0 I A = some o) (hM : mH D cy ci h A0 s H locs I A) (hl : lv_has ls 3 []) : W p l e ({ frames := 1, cells := 0, slots := 0, locals := 21 } : Room) s m args below meth c H locs 0 0 Q (F0 m 72 ls [.int t0]) := by
  obtain ⟨hx, hb, hml, hown, hts⟩ := id X
  unfold f_remark_72 at hf
  cases hf
  exact hret H locs _ ls hM rfl dX12_remark_72
noncomputable def f_remark_37 (x1 : Int32) (x2 : Int32) (t0 : Int32) (I : Nat → Int32) (A : Nat → Nat → Int32) : Option (Int32 × MS) :=
  m_bnd (upd I 0 t0) (fun I1 =>
  m_if ((I1 0) ≤ 0) (
  m_bnd ((301 : Int32) * (I1 5)) (fun v2 =>
  m_bnd (v2 + x1) (fun v3 =>
  m_bnd ((200 : Int32) * v3) (fun v4 =>
  m_bnd (v4 + x2) (fun v5 =>
  m_chk (¬ (v5 < 0 ∨ 120400 ≤ (v5).toNatClampNeg)) (
  m_bnd (A 15 (v5).toNatClampNeg) (fun v6 =>
  f_remark_72 v6 I1 A))))))
  ) (
  f_remark_72 (0 : Int32) I1 A
  ))

set_option maxRecDepth 100000 in
set_option maxHeartbeats 4000000 in
theorem w_remark_37 {p : Program} {l : Launch} {e : Env} {s : State} {m : MethodId} {args : Array Value} {below : List Frame} {meth : Method} {c : Code} {Q : State → Prop} {D : va_G} {cy ci : ClassId} {h : Nat → Nat} {A0 : Nat → Prop} {o : Int32 × MS} (X : CallFix p m c cX12_remark 3 s args wsX12_remark RX12) (hret : mRi p l e ({ frames := 1, cells := 0, slots := 0, locals := 21 } : Room) s m args below meth c Q cX12_remark D cy ci h A0 .int o) {x1 : Int32} {x2 : Int32} {t0 : Int32} {I : Nat → Int32} {A : Nat → Nat → Int32} {H : Heap} {locs : List Loc} {ls : Array Slot} (hf : f_remark_37 x1 x2 t0 I A = some o) (hM : mH D cy ci h A0 s H locs I A) (hl : lv_has ls 3 [(0, .ref (h 0)), (1, .int x1), (2, .int x2)]) : W p l e ({ frames := 1, cells := 0, slots := 0, locals := 21 } : Room) s m args below meth c H locs 0 0 Q (F0 m 37 ls [.int t0, .ref (h 0)]) := by
  obtain ⟨hx, hb, hml, hown, hts⟩ := id X
  unfold f_remark_37 at hf
  refine m_put X hw_remark hM 0 (by decide) fl_remark_0 mi_0 rfl (tyX12_ok 0 (by decide)) dX12_remark_37 (fun H locs hM => ?_)
  obtain ⟨I1, ev, hf⟩ := m_bndE hf
  replace hM := m_hI hM ev
  clear ev
  refine lv_aload_n hx hb dX12_remark_40 rfl (lv_at hl 0 rfl) ?_
  refine m_get (v := .int (I1 0)) X hw_remark hM 0 (by decide) fl_remark_0 rfl dX12_remark_41 ?_
  refine lv_if_le (tgt := 51) hx hb dX12_remark_44 (by decide) (fun cc1 => ?_) (fun cc1 => ?_)
  · replace hf := m_ifT hf cc1
    refine lv_aload_n hx hb dX12_remark_51 rfl (lv_at hl 0 rfl) ?_
    refine m_get (v := .ref (h 15)) X hw_remark hM 15 (by decide) fl_remark_15 rfl dX12_remark_52 ?_
    refine lv_sipush (v := (200 : Int32)) hx hb dX12_remark_55 (by decide) ?_
    refine lv_sipush (v := (301 : Int32)) hx hb dX12_remark_58 (by decide) ?_
    refine lv_aload_n hx hb dX12_remark_61 rfl (lv_at hl 0 rfl) ?_
    refine m_get (v := .int (I1 5)) X hw_remark hM 5 (by decide) fl_remark_5 rfl dX12_remark_62 ?_
    refine lv_imul hx hb dX12_remark_65 ?_
    obtain ⟨v2, ev, hf⟩ := m_bndE hf
    refine m_top ev ?_
    clear ev
    refine lv_iload_n hx hb dX12_remark_66 rfl (lv_at hl 1 rfl) ?_
    refine lv_iadd hx hb dX12_remark_67 ?_
    obtain ⟨v3, ev, hf⟩ := m_bndE hf
    refine m_top ev ?_
    clear ev
    refine lv_imul hx hb dX12_remark_68 ?_
    obtain ⟨v4, ev, hf⟩ := m_bndE hf
    refine m_top ev ?_
    clear ev
    refine lv_iload_n hx hb dX12_remark_69 rfl (lv_at hl 2 rfl) ?_
    refine lv_iadd hx hb dX12_remark_70 ?_
    obtain ⟨v5, ev, hf⟩ := m_bndE hf
    refine m_top ev ?_
    clear ev
    obtain ⟨cd, hf⟩ := m_chkE hf
    refine m_cald X hM 15 11 120400 rfl cd dX12_remark_71 ?_
    clear cd
    obtain ⟨v6, ev, hf⟩ := m_bndE hf
    refine m_top ev ?_
    clear ev
    exact w_remark_72 X hret hf hM (lv_sub hl [] rfl)
  · replace hf := m_ifF hf cc1
    refine lv_iconst (v := (0 : Int32)) hx hb dX12_remark_47 (by decide) ?_
    refine lv_goto (tgt := 72) hx hb dX12_remark_48 (by decide) ?_
    exact w_remark_72 X hret hf hM (lv_sub hl [] rfl)
noncomputable def f_remark_32 (x1 : Int32) (x2 : Int32) (I : Nat → Int32) (A : Nat → Nat → Int32) : Option (Int32 × MS) :=
  f_remark_37 x1 x2 (1 : Int32) I A

set_option maxRecDepth 100000 in
set_option maxHeartbeats 4000000 in
theorem w_remark_32 {p : Program} {l : Launch} {e : Env} {s : State} {m : MethodId} {args : Array Value} {below : List Frame} {meth : Method} {c : Code} {Q : State → Prop} {D : va_G} {cy ci : ClassId} {h : Nat → Nat} {A0 : Nat → Prop} {o : Int32 × MS} (X : CallFix p m c cX12_remark 3 s args wsX12_remark RX12) (hret : mRi p l e ({ frames := 1, cells := 0, slots := 0, locals := 21 } : Room) s m args below meth c Q cX12_remark D cy ci h A0 .int o) {x1 : Int32} {x2 : Int32} {I : Nat → Int32} {A : Nat → Nat → Int32} {H : Heap} {locs : List Loc} {ls : Array Slot} (hf : f_remark_32 x1 x2 I A = some o) (hM : mH D cy ci h A0 s H locs I A) (hl : lv_has ls 3 [(0, .ref (h 0)), (1, .int x1), (2, .int x2)]) : W p l e ({ frames := 1, cells := 0, slots := 0, locals := 21 } : Room) s m args below meth c H locs 0 0 Q (F0 m 32 ls [.ref (h 0)]) := by
  obtain ⟨hx, hb, hml, hown, hts⟩ := id X
  unfold f_remark_32 at hf
  refine lv_iconst (v := (1 : Int32)) hx hb dX12_remark_32 (by decide) ?_
  refine lv_goto (tgt := 37) hx hb dX12_remark_33 (by decide) ?_
  exact w_remark_37 X hret hf hM (lv_sub hl [0, 1, 2] rfl)
noncomputable def f_remark_0 (x1 : Int32) (x2 : Int32) (I : Nat → Int32) (A : Nat → Nat → Int32) : Option (Int32 × MS) :=
  m_cl (f_isNode x1 I A) (fun r1 Ic1 Ac1 =>
  m_if (r1 = 0) (
  f_remark_32 x1 x2 Ic1 Ac1
  ) (
  m_if (x2 < 0) (
  f_remark_32 x1 x2 Ic1 Ac1
  ) (
  m_bnd ((301 : Int32) * (Ic1 5)) (fun v2 =>
  m_bnd (v2 + x1) (fun v3 =>
  m_chk (¬ (v3 < 0 ∨ 602 ≤ (v3).toNatClampNeg)) (
  m_bnd (Ac1 14 (v3).toNatClampNeg) (fun v4 =>
  m_if (x2 < v4) (
  f_remark_37 x1 x2 (0 : Int32) Ic1 Ac1
  ) (
  f_remark_32 x1 x2 Ic1 Ac1
  )))))
  )
  ))

set_option maxRecDepth 100000 in
set_option maxHeartbeats 4000000 in
theorem w_remark_0 {p : Program} {l : Launch} {e : Env} {s : State} {m : MethodId} {args : Array Value} {below : List Frame} {meth : Method} {c : Code} {Q : State → Prop} {D : va_G} {cy ci : ClassId} {h : Nat → Nat} {A0 : Nat → Prop} {o : Int32 × MS} (X : CallFix p m c cX12_remark 3 s args wsX12_remark RX12) (hret : mRi p l e ({ frames := 1, cells := 0, slots := 0, locals := 21 } : Room) s m args below meth c Q cX12_remark D cy ci h A0 .int o) {x1 : Int32} {x2 : Int32} {I : Nat → Int32} {A : Nat → Nat → Int32} {H : Heap} {locs : List Loc} {ls : Array Slot} (hf : f_remark_0 x1 x2 I A = some o) (hM : mH D cy ci h A0 s H locs I A) (hl : lv_has ls 3 [(0, .ref (h 0)), (1, .int x1), (2, .int x2)]) : W p l e ({ frames := 1, cells := 0, slots := 0, locals := 21 } : Room) s m args below meth c H locs 0 0 Q (F0 m 0 ls []) := by
  obtain ⟨hx, hb, hml, hown, hts⟩ := id X
  unfold f_remark_0 at hf
  refine lv_aload_n hx hb dX12_remark_0 rfl (lv_at hl 0 rfl) ?_
  refine lv_aload_n hx hb dX12_remark_1 rfl (lv_at hl 0 rfl) ?_
  refine lv_iload_n hx hb dX12_remark_2 rfl (lv_at hl 1 rfl) ?_
  obtain ⟨o1, ho, hf⟩ := m_clE hf
  refine m_callVi X hM (c_isNode ho) gX12_remark_X12_isNode rfl ⟨rfl, rfl⟩ hd_isNode ⟨Nat.le_of_ble_eq_true rfl, Nat.le_of_ble_eq_true rfl⟩ rfl hl.1 rfl (Nat.le_of_ble_eq_true rfl) dX12_remark_3 (fun H locs hM => ?_)
  clear ho
  refine lv_if_eq (tgt := 32) hx hb dX12_remark_6 (by decide) (fun cc1 => ?_) (fun cc1 => ?_)
  · replace hf := m_ifT hf cc1
    exact w_remark_32 X hret hf hM (lv_sub hl [0, 1, 2] rfl)
  · replace hf := m_ifF hf cc1
    refine lv_iload_n hx hb dX12_remark_9 rfl (lv_at hl 2 rfl) ?_
    refine lv_if_lt (tgt := 32) hx hb dX12_remark_10 (by decide) (fun cc1 => ?_) (fun cc1 => ?_)
    · replace hf := m_ifT hf cc1
      exact w_remark_32 X hret hf hM (lv_sub hl [0, 1, 2] rfl)
    · replace hf := m_ifF hf cc1
      refine lv_iload_n hx hb dX12_remark_13 rfl (lv_at hl 2 rfl) ?_
      refine lv_aload_n hx hb dX12_remark_14 rfl (lv_at hl 0 rfl) ?_
      refine m_get (v := .ref (h 14)) X hw_remark hM 14 (by decide) fl_remark_14 rfl dX12_remark_15 ?_
      refine lv_sipush (v := (301 : Int32)) hx hb dX12_remark_18 (by decide) ?_
      refine lv_aload_n hx hb dX12_remark_21 rfl (lv_at hl 0 rfl) ?_
      refine m_get (v := .int (o1.2.1 5)) X hw_remark hM 5 (by decide) fl_remark_5 rfl dX12_remark_22 ?_
      refine lv_imul hx hb dX12_remark_25 ?_
      obtain ⟨v2, ev, hf⟩ := m_bndE hf
      refine m_top ev ?_
      clear ev
      refine lv_iload_n hx hb dX12_remark_26 rfl (lv_at hl 1 rfl) ?_
      refine lv_iadd hx hb dX12_remark_27 ?_
      obtain ⟨v3, ev, hf⟩ := m_bndE hf
      refine m_top ev ?_
      clear ev
      obtain ⟨cd, hf⟩ := m_chkE hf
      refine m_iald X hM 14 10 602 rfl cd dX12_remark_28 ?_
      clear cd
      obtain ⟨v4, ev, hf⟩ := m_bndE hf
      refine m_top ev ?_
      clear ev
      refine lv_icmp_lt (tgt := 36) hx hb dX12_remark_29 (by decide) (fun cc1 => ?_) (fun cc1 => ?_)
      · replace hf := m_ifT hf cc1
        refine lv_iconst (v := (0 : Int32)) hx hb dX12_remark_36 (by decide) ?_
        exact w_remark_37 X hret hf hM (lv_sub hl [0, 1, 2] rfl)
      · replace hf := m_ifF hf cc1
        exact w_remark_32 X hret hf hM (lv_sub hl [0, 1, 2] rfl)
noncomputable def f_remark (x1 : Int32) (x2 : Int32) (I : Nat → Int32) (A : Nat → Nat → Int32) : Option (Int32 × MS) := f_remark_0 x1 x2 I A
theorem c_remark {l : Launch} {D : va_G} {cy ci : ClassId} {h : Nat → Nat} {x1 : Int32} {x2 : Int32} {I : Nat → Int32} {A : Nat → Nat → Int32} {o : Int32 × MS} (hf : f_remark x1 x2 I A = some o) : mMi l yX12_remark wsX12_remark ({ frames := 1, cells := 0, slots := 0, locals := 21 } : Room) [.ref (h 0), .int x1, .int x2] D cy ci h I A o :=
  m_entryI (cc := cX12_remark) (maxL := 3) (by decide) rfl rfl (Nat.le_of_ble_eq_true rfl) (fun p e s m args below meth c A0 Q H locs ls X hret hM hl => w_remark_0 X hret hf hM (lv_sub hl [0, 1, 2] rfl))
theorem hw_here : ∀ w ∈ wsX120, w ∈ wsX12_here := by decide +kernel
theorem fl_here_0 : Cond.fieldLink RX12 99 "MoveTextsModel" "thrown" "I" ∈ wsX12_here := by decide +kernel
theorem fl_here_6 : Cond.fieldLink RX12 353 "MoveTextsModel" "here" "I" ∈ wsX12_here := by decide +kernel
theorem hd_here : yX12_here.cls = RX12 ∧ yX12_here.cls ≠ "java/lang/invoke/MethodHandle" ∧ yX12_here.cls ≠ "java/lang/invoke/VarHandle" ∧ (parseMethodDescriptor yX12_here.desc).map (fun d => d.parameters.length) = some 0 := by decide +kernel
noncomputable def f_here_0 (I : Nat → Int32) (A : Nat → Nat → Int32) : Option (Int32 × MS) :=
  m_bnd (upd I 0 (0 : Int32)) (fun I1 =>
  some ((I1 6), (I1, A)))

set_option maxRecDepth 100000 in
set_option maxHeartbeats 4000000 in
theorem w_here_0 {p : Program} {l : Launch} {e : Env} {s : State} {m : MethodId} {args : Array Value} {below : List Frame} {meth : Method} {c : Code} {Q : State → Prop} {D : va_G} {cy ci : ClassId} {h : Nat → Nat} {A0 : Nat → Prop} {o : Int32 × MS} (X : CallFix p m c cX12_here 1 s args wsX12_here RX12) (hret : mRi p l e ({ frames := 0, cells := 0, slots := 0, locals := 0 } : Room) s m args below meth c Q cX12_here D cy ci h A0 .int o) {I : Nat → Int32} {A : Nat → Nat → Int32} {H : Heap} {locs : List Loc} {ls : Array Slot} (hf : f_here_0  I A = some o) (hM : mH D cy ci h A0 s H locs I A) (hl : lv_has ls 1 [(0, .ref (h 0))]) : W p l e ({ frames := 0, cells := 0, slots := 0, locals := 0 } : Room) s m args below meth c H locs 0 0 Q (F0 m 0 ls []) := by
  obtain ⟨hx, hb, hml, hown, hts⟩ := id X
  unfold f_here_0 at hf
  refine lv_aload_n hx hb dX12_here_0 rfl (lv_at hl 0 rfl) ?_
  refine lv_iconst (v := (0 : Int32)) hx hb dX12_here_1 (by decide) ?_
  refine m_put X hw_here hM 0 (by decide) fl_here_0 mi_0 rfl (tyX12_ok 0 (by decide)) dX12_here_2 (fun H locs hM => ?_)
  obtain ⟨I1, ev, hf⟩ := m_bndE hf
  replace hM := m_hI hM ev
  clear ev
  refine lv_aload_n hx hb dX12_here_5 rfl (lv_at hl 0 rfl) ?_
  refine m_get (v := .int (I1 6)) X hw_here hM 6 (by decide) fl_here_6 rfl dX12_here_6 ?_
  cases hf
  exact hret H locs _ ls hM rfl dX12_here_9
noncomputable def f_here (I : Nat → Int32) (A : Nat → Nat → Int32) : Option (Int32 × MS) := f_here_0  I A
theorem c_here {l : Launch} {D : va_G} {cy ci : ClassId} {h : Nat → Nat} {I : Nat → Int32} {A : Nat → Nat → Int32} {o : Int32 × MS} (hf : f_here  I A = some o) : mMi l yX12_here wsX12_here ({ frames := 0, cells := 0, slots := 0, locals := 0 } : Room) [.ref (h 0)] D cy ci h I A o :=
  m_entryI (cc := cX12_here) (maxL := 1) (by decide) rfl rfl (Nat.le_of_ble_eq_true rfl) (fun p e s m args below meth c A0 Q H locs ls X hret hM hl => w_here_0 X hret hf hM (lv_sub hl [0] rfl))
theorem hw_go : ∀ w ∈ wsX120, w ∈ wsX12_go := by decide +kernel
theorem fl_go_0 : Cond.fieldLink RX12 99 "MoveTextsModel" "thrown" "I" ∈ wsX12_go := by decide +kernel
theorem fl_go_5 : Cond.fieldLink RX12 347 "MoveTextsModel" "game" "I" ∈ wsX12_go := by decide +kernel
theorem fl_go_6 : Cond.fieldLink RX12 353 "MoveTextsModel" "here" "I" ∈ wsX12_go := by decide +kernel
theorem hd_go : yX12_go.cls = RX12 ∧ yX12_go.cls ≠ "java/lang/invoke/MethodHandle" ∧ yX12_go.cls ≠ "java/lang/invoke/VarHandle" ∧ (parseMethodDescriptor yX12_go.desc).map (fun d => d.parameters.length) = some 1 := by decide +kernel
noncomputable def f_go_41 (I : Nat → Int32) (A : Nat → Nat → Int32) : Option (Int32 × MS) :=
  some (0, (I, A))

set_option maxRecDepth 100000 in
set_option maxHeartbeats 4000000 in
theorem w_go_41 {p : Program} {l : Launch} {e : Env} {s : State} {m : MethodId} {args : Array Value} {below : List Frame} {meth : Method} {c : Code} {Q : State → Prop} {D : va_G} {cy ci : ClassId} {h : Nat → Nat} {A0 : Nat → Prop} {o : Int32 × MS} (X : CallFix p m c cX12_go 2 s args wsX12_go RX12) (hret : mRv p l e ({ frames := 7, cells := 0, slots := 0, locals := 181 } : Room) s m args below meth c Q cX12_go D cy ci h A0 o) {I : Nat → Int32} {A : Nat → Nat → Int32} {H : Heap} {locs : List Loc} {ls : Array Slot} (hf : f_go_41  I A = some o) (hM : mH D cy ci h A0 s H locs I A) (hl : lv_has ls 2 []) : W p l e ({ frames := 7, cells := 0, slots := 0, locals := 181 } : Room) s m args below meth c H locs 0 0 Q (F0 m 41 ls []) := by
  obtain ⟨hx, hb, hml, hown, hts⟩ := id X
  unfold f_go_41 at hf
  cases hf
  exact hret H locs _ ls hM dX12_go_41
noncomputable def f_go_14 (x1 : Int32) (t0 : Int32) (I : Nat → Int32) (A : Nat → Nat → Int32) : Option (Int32 × MS) :=
  m_bnd (upd I 0 t0) (fun I1 =>
  m_if ((I1 0) = 0) (
  m_bnd (upd I1 6 x1) (fun I2 =>
  m_cl (f_place (I2 5) (I2 6) I2 A) (fun r3 Ic3 Ac3 =>
  f_go_41  Ic3 Ac3))
  ) (
  f_go_41  I1 A
  ))

set_option maxRecDepth 100000 in
set_option maxHeartbeats 4000000 in
theorem w_go_14 {p : Program} {l : Launch} {e : Env} {s : State} {m : MethodId} {args : Array Value} {below : List Frame} {meth : Method} {c : Code} {Q : State → Prop} {D : va_G} {cy ci : ClassId} {h : Nat → Nat} {A0 : Nat → Prop} {o : Int32 × MS} (X : CallFix p m c cX12_go 2 s args wsX12_go RX12) (hret : mRv p l e ({ frames := 7, cells := 0, slots := 0, locals := 181 } : Room) s m args below meth c Q cX12_go D cy ci h A0 o) {x1 : Int32} {t0 : Int32} {I : Nat → Int32} {A : Nat → Nat → Int32} {H : Heap} {locs : List Loc} {ls : Array Slot} (hf : f_go_14 x1 t0 I A = some o) (hM : mH D cy ci h A0 s H locs I A) (hl : lv_has ls 2 [(0, .ref (h 0)), (1, .int x1)]) : W p l e ({ frames := 7, cells := 0, slots := 0, locals := 181 } : Room) s m args below meth c H locs 0 0 Q (F0 m 14 ls [.int t0, .ref (h 0)]) := by
  obtain ⟨hx, hb, hml, hown, hts⟩ := id X
  unfold f_go_14 at hf
  refine m_put X hw_go hM 0 (by decide) fl_go_0 mi_0 rfl (tyX12_ok 0 (by decide)) dX12_go_14 (fun H locs hM => ?_)
  obtain ⟨I1, ev, hf⟩ := m_bndE hf
  replace hM := m_hI hM ev
  clear ev
  refine lv_aload_n hx hb dX12_go_17 rfl (lv_at hl 0 rfl) ?_
  refine m_get (v := .int (I1 0)) X hw_go hM 0 (by decide) fl_go_0 rfl dX12_go_18 ?_
  refine lv_if_ne (tgt := 41) hx hb dX12_go_21 (by decide) (fun cc1 => ?_) (fun cc1 => ?_)
  · replace hf := m_ifF hf cc1
    exact w_go_41 X hret hf hM (lv_sub hl [] rfl)
  · replace hf := m_ifT hf cc1
    refine lv_aload_n hx hb dX12_go_24 rfl (lv_at hl 0 rfl) ?_
    refine lv_iload_n hx hb dX12_go_25 rfl (lv_at hl 1 rfl) ?_
    refine m_put X hw_go hM 6 (by decide) fl_go_6 mi_6 rfl (tyX12_ok 6 (by decide)) dX12_go_26 (fun H locs hM => ?_)
    obtain ⟨I2, ev, hf⟩ := m_bndE hf
    replace hM := m_hI hM ev
    clear ev
    refine lv_aload_n hx hb dX12_go_29 rfl (lv_at hl 0 rfl) ?_
    refine lv_aload_n hx hb dX12_go_30 rfl (lv_at hl 0 rfl) ?_
    refine m_get (v := .int (I2 5)) X hw_go hM 5 (by decide) fl_go_5 rfl dX12_go_31 ?_
    refine lv_aload_n hx hb dX12_go_34 rfl (lv_at hl 0 rfl) ?_
    refine m_get (v := .int (I2 6)) X hw_go hM 6 (by decide) fl_go_6 rfl dX12_go_35 ?_
    obtain ⟨o3, ho, hf⟩ := m_clE hf
    refine m_callVv X hM (c_place ho) gX12_go_X12_place rfl ⟨rfl, rfl⟩ hd_place ⟨Nat.le_of_ble_eq_true rfl, Nat.le_of_ble_eq_true rfl⟩ rfl hl.1 rfl (Nat.le_of_ble_eq_true rfl) dX12_go_38 (fun H locs hM => ?_)
    clear ho
    exact w_go_41 X hret hf hM (lv_sub hl [] rfl)
noncomputable def f_go_0 (x1 : Int32) (I : Nat → Int32) (A : Nat → Nat → Int32) : Option (Int32 × MS) :=
  m_cl (f_isNode x1 I A) (fun r1 Ic1 Ac1 =>
  m_if (r1 = 0) (
  f_go_14 x1 (1 : Int32) Ic1 Ac1
  ) (
  f_go_14 x1 (0 : Int32) Ic1 Ac1
  ))

set_option maxRecDepth 100000 in
set_option maxHeartbeats 4000000 in
theorem w_go_0 {p : Program} {l : Launch} {e : Env} {s : State} {m : MethodId} {args : Array Value} {below : List Frame} {meth : Method} {c : Code} {Q : State → Prop} {D : va_G} {cy ci : ClassId} {h : Nat → Nat} {A0 : Nat → Prop} {o : Int32 × MS} (X : CallFix p m c cX12_go 2 s args wsX12_go RX12) (hret : mRv p l e ({ frames := 7, cells := 0, slots := 0, locals := 181 } : Room) s m args below meth c Q cX12_go D cy ci h A0 o) {x1 : Int32} {I : Nat → Int32} {A : Nat → Nat → Int32} {H : Heap} {locs : List Loc} {ls : Array Slot} (hf : f_go_0 x1 I A = some o) (hM : mH D cy ci h A0 s H locs I A) (hl : lv_has ls 2 [(0, .ref (h 0)), (1, .int x1)]) : W p l e ({ frames := 7, cells := 0, slots := 0, locals := 181 } : Room) s m args below meth c H locs 0 0 Q (F0 m 0 ls []) := by
  obtain ⟨hx, hb, hml, hown, hts⟩ := id X
  unfold f_go_0 at hf
  refine lv_aload_n hx hb dX12_go_0 rfl (lv_at hl 0 rfl) ?_
  refine lv_aload_n hx hb dX12_go_1 rfl (lv_at hl 0 rfl) ?_
  refine lv_iload_n hx hb dX12_go_2 rfl (lv_at hl 1 rfl) ?_
  obtain ⟨o1, ho, hf⟩ := m_clE hf
  refine m_callVi X hM (c_isNode ho) gX12_go_X12_isNode rfl ⟨rfl, rfl⟩ hd_isNode ⟨Nat.le_of_ble_eq_true rfl, Nat.le_of_ble_eq_true rfl⟩ rfl hl.1 rfl (Nat.le_of_ble_eq_true rfl) dX12_go_3 (fun H locs hM => ?_)
  clear ho
  refine lv_if_eq (tgt := 13) hx hb dX12_go_6 (by decide) (fun cc1 => ?_) (fun cc1 => ?_)
  · replace hf := m_ifT hf cc1
    refine lv_iconst (v := (1 : Int32)) hx hb dX12_go_13 (by decide) ?_
    exact w_go_14 X hret hf hM (lv_sub hl [0, 1] rfl)
  · replace hf := m_ifF hf cc1
    refine lv_iconst (v := (0 : Int32)) hx hb dX12_go_9 (by decide) ?_
    refine lv_goto (tgt := 14) hx hb dX12_go_10 (by decide) ?_
    exact w_go_14 X hret hf hM (lv_sub hl [0, 1] rfl)
noncomputable def f_go (x1 : Int32) (I : Nat → Int32) (A : Nat → Nat → Int32) : Option (Int32 × MS) := f_go_0 x1 I A
theorem c_go {l : Launch} {D : va_G} {cy ci : ClassId} {h : Nat → Nat} {x1 : Int32} {I : Nat → Int32} {A : Nat → Nat → Int32} {o : Int32 × MS} (hf : f_go x1 I A = some o) : mMv l yX12_go wsX12_go ({ frames := 7, cells := 0, slots := 0, locals := 181 } : Room) [.ref (h 0), .int x1] D cy ci h I A o :=
  m_entryV (cc := cX12_go) (maxL := 2) (by decide) rfl rfl (Nat.le_of_ble_eq_true rfl) (fun p e s m args below meth c A0 Q H locs ls X hret hM hl => w_go_0 X hret hf hM (lv_sub hl [0, 1] rfl))
theorem hw_man : ∀ w ∈ wsX120, w ∈ wsX12_man := by decide +kernel
theorem fl_man_0 : Cond.fieldLink RX12 99 "MoveTextsModel" "thrown" "I" ∈ wsX12_man := by decide +kernel
theorem fl_man_24 : Cond.fieldLink RX12 70 "MoveTextsModel" "men" "[I" ∈ wsX12_man := by decide +kernel
theorem hd_man : yX12_man.cls = RX12 ∧ yX12_man.cls ≠ "java/lang/invoke/MethodHandle" ∧ yX12_man.cls ≠ "java/lang/invoke/VarHandle" ∧ (parseMethodDescriptor yX12_man.desc).map (fun d => d.parameters.length) = some 1 := by decide +kernel
noncomputable def f_man_36 (t0 : Int32) (I : Nat → Int32) (A : Nat → Nat → Int32) : Option (Int32 × MS) :=
  some (t0, (I, A))

set_option maxRecDepth 100000 in
set_option maxHeartbeats 4000000 in
theorem w_man_36 {p : Program} {l : Launch} {e : Env} {s : State} {m : MethodId} {args : Array Value} {below : List Frame} {meth : Method} {c : Code} {Q : State → Prop} {D : va_G} {cy ci : ClassId} {h : Nat → Nat} {A0 : Nat → Prop} {o : Int32 × MS} (X : CallFix p m c cX12_man 2 s args wsX12_man RX12) (hret : mRi p l e ({ frames := 0, cells := 0, slots := 0, locals := 0 } : Room) s m args below meth c Q cX12_man D cy ci h A0 .int o) {t0 : Int32} {I : Nat → Int32} {A : Nat → Nat → Int32} {H : Heap} {locs : List Loc} {ls : Array Slot} (hf : f_man_36 t0 I A = some o) (hM : mH D cy ci h A0 s H locs I A) (hl : lv_has ls 2 []) : W p l e ({ frames := 0, cells := 0, slots := 0, locals := 0 } : Room) s m args below meth c H locs 0 0 Q (F0 m 36 ls [.int t0]) := by
  obtain ⟨hx, hb, hml, hown, hts⟩ := id X
  unfold f_man_36 at hf
  cases hf
  exact hret H locs _ ls hM rfl dX12_man_36
noncomputable def f_man_16 (x1 : Int32) (t0 : Int32) (I : Nat → Int32) (A : Nat → Nat → Int32) : Option (Int32 × MS) :=
  m_bnd (upd I 0 t0) (fun I1 =>
  m_if ((I1 0) ≤ 0) (
  m_chk (¬ (x1 < 0 ∨ 64 ≤ (x1).toNatClampNeg)) (
  m_bnd (A 24 (x1).toNatClampNeg) (fun v2 =>
  f_man_36 v2 I1 A))
  ) (
  f_man_36 (0 : Int32) I1 A
  ))

set_option maxRecDepth 100000 in
set_option maxHeartbeats 4000000 in
theorem w_man_16 {p : Program} {l : Launch} {e : Env} {s : State} {m : MethodId} {args : Array Value} {below : List Frame} {meth : Method} {c : Code} {Q : State → Prop} {D : va_G} {cy ci : ClassId} {h : Nat → Nat} {A0 : Nat → Prop} {o : Int32 × MS} (X : CallFix p m c cX12_man 2 s args wsX12_man RX12) (hret : mRi p l e ({ frames := 0, cells := 0, slots := 0, locals := 0 } : Room) s m args below meth c Q cX12_man D cy ci h A0 .int o) {x1 : Int32} {t0 : Int32} {I : Nat → Int32} {A : Nat → Nat → Int32} {H : Heap} {locs : List Loc} {ls : Array Slot} (hf : f_man_16 x1 t0 I A = some o) (hM : mH D cy ci h A0 s H locs I A) (hl : lv_has ls 2 [(0, .ref (h 0)), (1, .int x1)]) : W p l e ({ frames := 0, cells := 0, slots := 0, locals := 0 } : Room) s m args below meth c H locs 0 0 Q (F0 m 16 ls [.int t0, .ref (h 0)]) := by
  obtain ⟨hx, hb, hml, hown, hts⟩ := id X
  unfold f_man_16 at hf
  refine m_put X hw_man hM 0 (by decide) fl_man_0 mi_0 rfl (tyX12_ok 0 (by decide)) dX12_man_16 (fun H locs hM => ?_)
  obtain ⟨I1, ev, hf⟩ := m_bndE hf
  replace hM := m_hI hM ev
  clear ev
  refine lv_aload_n hx hb dX12_man_19 rfl (lv_at hl 0 rfl) ?_
  refine m_get (v := .int (I1 0)) X hw_man hM 0 (by decide) fl_man_0 rfl dX12_man_20 ?_
  refine lv_if_le (tgt := 30) hx hb dX12_man_23 (by decide) (fun cc1 => ?_) (fun cc1 => ?_)
  · replace hf := m_ifT hf cc1
    refine lv_aload_n hx hb dX12_man_30 rfl (lv_at hl 0 rfl) ?_
    refine m_get (v := .ref (h 24)) X hw_man hM 24 (by decide) fl_man_24 rfl dX12_man_31 ?_
    refine lv_iload_n hx hb dX12_man_34 rfl (lv_at hl 1 rfl) ?_
    obtain ⟨cd, hf⟩ := m_chkE hf
    refine m_iald X hM 24 20 64 rfl cd dX12_man_35 ?_
    clear cd
    obtain ⟨v2, ev, hf⟩ := m_bndE hf
    refine m_top ev ?_
    clear ev
    exact w_man_36 X hret hf hM (lv_sub hl [] rfl)
  · replace hf := m_ifF hf cc1
    refine lv_iconst (v := (0 : Int32)) hx hb dX12_man_26 (by decide) ?_
    refine lv_goto (tgt := 36) hx hb dX12_man_27 (by decide) ?_
    exact w_man_36 X hret hf hM (lv_sub hl [] rfl)
noncomputable def f_man_11 (x1 : Int32) (I : Nat → Int32) (A : Nat → Nat → Int32) : Option (Int32 × MS) :=
  f_man_16 x1 (1 : Int32) I A

set_option maxRecDepth 100000 in
set_option maxHeartbeats 4000000 in
theorem w_man_11 {p : Program} {l : Launch} {e : Env} {s : State} {m : MethodId} {args : Array Value} {below : List Frame} {meth : Method} {c : Code} {Q : State → Prop} {D : va_G} {cy ci : ClassId} {h : Nat → Nat} {A0 : Nat → Prop} {o : Int32 × MS} (X : CallFix p m c cX12_man 2 s args wsX12_man RX12) (hret : mRi p l e ({ frames := 0, cells := 0, slots := 0, locals := 0 } : Room) s m args below meth c Q cX12_man D cy ci h A0 .int o) {x1 : Int32} {I : Nat → Int32} {A : Nat → Nat → Int32} {H : Heap} {locs : List Loc} {ls : Array Slot} (hf : f_man_11 x1 I A = some o) (hM : mH D cy ci h A0 s H locs I A) (hl : lv_has ls 2 [(0, .ref (h 0)), (1, .int x1)]) : W p l e ({ frames := 0, cells := 0, slots := 0, locals := 0 } : Room) s m args below meth c H locs 0 0 Q (F0 m 11 ls [.ref (h 0)]) := by
  obtain ⟨hx, hb, hml, hown, hts⟩ := id X
  unfold f_man_11 at hf
  refine lv_iconst (v := (1 : Int32)) hx hb dX12_man_11 (by decide) ?_
  refine lv_goto (tgt := 16) hx hb dX12_man_12 (by decide) ?_
  exact w_man_16 X hret hf hM (lv_sub hl [0, 1] rfl)
noncomputable def f_man_0 (x1 : Int32) (I : Nat → Int32) (A : Nat → Nat → Int32) : Option (Int32 × MS) :=
  m_if (x1 < 0) (
  f_man_11 x1 I A
  ) (
  m_if (x1 ≤ (63 : Int32)) (
  f_man_16 x1 (0 : Int32) I A
  ) (
  f_man_11 x1 I A
  )
  )

set_option maxRecDepth 100000 in
set_option maxHeartbeats 4000000 in
theorem w_man_0 {p : Program} {l : Launch} {e : Env} {s : State} {m : MethodId} {args : Array Value} {below : List Frame} {meth : Method} {c : Code} {Q : State → Prop} {D : va_G} {cy ci : ClassId} {h : Nat → Nat} {A0 : Nat → Prop} {o : Int32 × MS} (X : CallFix p m c cX12_man 2 s args wsX12_man RX12) (hret : mRi p l e ({ frames := 0, cells := 0, slots := 0, locals := 0 } : Room) s m args below meth c Q cX12_man D cy ci h A0 .int o) {x1 : Int32} {I : Nat → Int32} {A : Nat → Nat → Int32} {H : Heap} {locs : List Loc} {ls : Array Slot} (hf : f_man_0 x1 I A = some o) (hM : mH D cy ci h A0 s H locs I A) (hl : lv_has ls 2 [(0, .ref (h 0)), (1, .int x1)]) : W p l e ({ frames := 0, cells := 0, slots := 0, locals := 0 } : Room) s m args below meth c H locs 0 0 Q (F0 m 0 ls []) := by
  obtain ⟨hx, hb, hml, hown, hts⟩ := id X
  unfold f_man_0 at hf
  refine lv_aload_n hx hb dX12_man_0 rfl (lv_at hl 0 rfl) ?_
  refine lv_iload_n hx hb dX12_man_1 rfl (lv_at hl 1 rfl) ?_
  refine lv_if_lt (tgt := 11) hx hb dX12_man_2 (by decide) (fun cc1 => ?_) (fun cc1 => ?_)
  · replace hf := m_ifT hf cc1
    exact w_man_11 X hret hf hM (lv_sub hl [0, 1] rfl)
  · replace hf := m_ifF hf cc1
    refine lv_iload_n hx hb dX12_man_5 rfl (lv_at hl 1 rfl) ?_
    refine lv_bipush (v := (63 : Int32)) hx hb dX12_man_6 (by decide) ?_
    refine lv_icmp_le (tgt := 15) hx hb dX12_man_8 (by decide) (fun cc1 => ?_) (fun cc1 => ?_)
    · replace hf := m_ifT hf cc1
      refine lv_iconst (v := (0 : Int32)) hx hb dX12_man_15 (by decide) ?_
      exact w_man_16 X hret hf hM (lv_sub hl [0, 1] rfl)
    · replace hf := m_ifF hf cc1
      exact w_man_11 X hret hf hM (lv_sub hl [0, 1] rfl)
noncomputable def f_man (x1 : Int32) (I : Nat → Int32) (A : Nat → Nat → Int32) : Option (Int32 × MS) := f_man_0 x1 I A
theorem c_man {l : Launch} {D : va_G} {cy ci : ClassId} {h : Nat → Nat} {x1 : Int32} {I : Nat → Int32} {A : Nat → Nat → Int32} {o : Int32 × MS} (hf : f_man x1 I A = some o) : mMi l yX12_man wsX12_man ({ frames := 0, cells := 0, slots := 0, locals := 0 } : Room) [.ref (h 0), .int x1] D cy ci h I A o :=
  m_entryI (cc := cX12_man) (maxL := 2) (by decide) rfl rfl (Nat.le_of_ble_eq_true rfl) (fun p e s m args below meth c A0 Q H locs ls X hret hM hl => w_man_0 X hret hf hM (lv_sub hl [0, 1] rfl))
theorem hw_move : ∀ w ∈ wsX120, w ∈ wsX12_move := by decide +kernel
theorem fl_move_0 : Cond.fieldLink RX12 99 "MoveTextsModel" "thrown" "I" ∈ wsX12_move := by decide +kernel
theorem fl_move_32 : Cond.fieldLink RX12 79 "MoveTextsModel" "list" "[I" ∈ wsX12_move := by decide +kernel
theorem fl_move_33 : Cond.fieldLink RX12 170 "MoveTextsModel" "moves" "I" ∈ wsX12_move := by decide +kernel
theorem hd_move : yX12_move.cls = RX12 ∧ yX12_move.cls ≠ "java/lang/invoke/MethodHandle" ∧ yX12_move.cls ≠ "java/lang/invoke/VarHandle" ∧ (parseMethodDescriptor yX12_move.desc).map (fun d => d.parameters.length) = some 1 := by decide +kernel
noncomputable def f_move_27 (t0 : Int32) (I : Nat → Int32) (A : Nat → Nat → Int32) : Option (Int32 × MS) :=
  some (t0, (I, A))

set_option maxRecDepth 100000 in
set_option maxHeartbeats 4000000 in
theorem w_move_27 {p : Program} {l : Launch} {e : Env} {s : State} {m : MethodId} {args : Array Value} {below : List Frame} {meth : Method} {c : Code} {Q : State → Prop} {D : va_G} {cy ci : ClassId} {h : Nat → Nat} {A0 : Nat → Prop} {o : Int32 × MS} (X : CallFix p m c cX12_move 2 s args wsX12_move RX12) (hret : mRi p l e ({ frames := 0, cells := 0, slots := 0, locals := 0 } : Room) s m args below meth c Q cX12_move D cy ci h A0 .int o) {t0 : Int32} {I : Nat → Int32} {A : Nat → Nat → Int32} {H : Heap} {locs : List Loc} {ls : Array Slot} (hf : f_move_27 t0 I A = some o) (hM : mH D cy ci h A0 s H locs I A) (hl : lv_has ls 2 []) : W p l e ({ frames := 0, cells := 0, slots := 0, locals := 0 } : Room) s m args below meth c H locs 0 0 Q (F0 m 27 ls [.int t0]) := by
  obtain ⟨hx, hb, hml, hown, hts⟩ := id X
  unfold f_move_27 at hf
  cases hf
  exact hret H locs _ ls hM rfl dX12_move_27
noncomputable def f_move_17 (I : Nat → Int32) (A : Nat → Nat → Int32) : Option (Int32 × MS) :=
  f_move_27 (-1 : Int32) I A

set_option maxRecDepth 100000 in
set_option maxHeartbeats 4000000 in
theorem w_move_17 {p : Program} {l : Launch} {e : Env} {s : State} {m : MethodId} {args : Array Value} {below : List Frame} {meth : Method} {c : Code} {Q : State → Prop} {D : va_G} {cy ci : ClassId} {h : Nat → Nat} {A0 : Nat → Prop} {o : Int32 × MS} (X : CallFix p m c cX12_move 2 s args wsX12_move RX12) (hret : mRi p l e ({ frames := 0, cells := 0, slots := 0, locals := 0 } : Room) s m args below meth c Q cX12_move D cy ci h A0 .int o) {I : Nat → Int32} {A : Nat → Nat → Int32} {H : Heap} {locs : List Loc} {ls : Array Slot} (hf : f_move_17  I A = some o) (hM : mH D cy ci h A0 s H locs I A) (hl : lv_has ls 2 []) : W p l e ({ frames := 0, cells := 0, slots := 0, locals := 0 } : Room) s m args below meth c H locs 0 0 Q (F0 m 17 ls []) := by
  obtain ⟨hx, hb, hml, hown, hts⟩ := id X
  unfold f_move_17 at hf
  refine lv_iconst (v := (-1 : Int32)) hx hb dX12_move_17 (by decide) ?_
  refine lv_goto (tgt := 27) hx hb dX12_move_18 (by decide) ?_
  exact w_move_27 X hret hf hM (lv_sub hl [] rfl)
noncomputable def f_move_0 (x1 : Int32) (I : Nat → Int32) (A : Nat → Nat → Int32) : Option (Int32 × MS) :=
  m_bnd (upd I 0 (0 : Int32)) (fun I1 =>
  m_if (x1 < 0) (
  f_move_17  I1 A
  ) (
  m_if (x1 < (I1 33)) (
  m_chk (¬ (x1 < 0 ∨ 2048 ≤ (x1).toNatClampNeg)) (
  m_bnd (A 32 (x1).toNatClampNeg) (fun v2 =>
  f_move_27 v2 I1 A))
  ) (
  f_move_17  I1 A
  )
  ))

set_option maxRecDepth 100000 in
set_option maxHeartbeats 4000000 in
theorem w_move_0 {p : Program} {l : Launch} {e : Env} {s : State} {m : MethodId} {args : Array Value} {below : List Frame} {meth : Method} {c : Code} {Q : State → Prop} {D : va_G} {cy ci : ClassId} {h : Nat → Nat} {A0 : Nat → Prop} {o : Int32 × MS} (X : CallFix p m c cX12_move 2 s args wsX12_move RX12) (hret : mRi p l e ({ frames := 0, cells := 0, slots := 0, locals := 0 } : Room) s m args below meth c Q cX12_move D cy ci h A0 .int o) {x1 : Int32} {I : Nat → Int32} {A : Nat → Nat → Int32} {H : Heap} {locs : List Loc} {ls : Array Slot} (hf : f_move_0 x1 I A = some o) (hM : mH D cy ci h A0 s H locs I A) (hl : lv_has ls 2 [(0, .ref (h 0)), (1, .int x1)]) : W p l e ({ frames := 0, cells := 0, slots := 0, locals := 0 } : Room) s m args below meth c H locs 0 0 Q (F0 m 0 ls []) := by
  obtain ⟨hx, hb, hml, hown, hts⟩ := id X
  unfold f_move_0 at hf
  refine lv_aload_n hx hb dX12_move_0 rfl (lv_at hl 0 rfl) ?_
  refine lv_iconst (v := (0 : Int32)) hx hb dX12_move_1 (by decide) ?_
  refine m_put X hw_move hM 0 (by decide) fl_move_0 mi_0 rfl (tyX12_ok 0 (by decide)) dX12_move_2 (fun H locs hM => ?_)
  obtain ⟨I1, ev, hf⟩ := m_bndE hf
  replace hM := m_hI hM ev
  clear ev
  refine lv_iload_n hx hb dX12_move_5 rfl (lv_at hl 1 rfl) ?_
  refine lv_if_lt (tgt := 17) hx hb dX12_move_6 (by decide) (fun cc1 => ?_) (fun cc1 => ?_)
  · replace hf := m_ifT hf cc1
    exact w_move_17 X hret hf hM (lv_sub hl [] rfl)
  · replace hf := m_ifF hf cc1
    refine lv_iload_n hx hb dX12_move_9 rfl (lv_at hl 1 rfl) ?_
    refine lv_aload_n hx hb dX12_move_10 rfl (lv_at hl 0 rfl) ?_
    refine m_get (v := .int (I1 33)) X hw_move hM 33 (by decide) fl_move_33 rfl dX12_move_11 ?_
    refine lv_icmp_lt (tgt := 21) hx hb dX12_move_14 (by decide) (fun cc1 => ?_) (fun cc1 => ?_)
    · replace hf := m_ifT hf cc1
      refine lv_aload_n hx hb dX12_move_21 rfl (lv_at hl 0 rfl) ?_
      refine m_get (v := .ref (h 32)) X hw_move hM 32 (by decide) fl_move_32 rfl dX12_move_22 ?_
      refine lv_iload_n hx hb dX12_move_25 rfl (lv_at hl 1 rfl) ?_
      obtain ⟨cd, hf⟩ := m_chkE hf
      refine m_iald X hM 32 23 2048 rfl cd dX12_move_26 ?_
      clear cd
      obtain ⟨v2, ev, hf⟩ := m_bndE hf
      refine m_top ev ?_
      clear ev
      exact w_move_27 X hret hf hM (lv_sub hl [] rfl)
    · replace hf := m_ifF hf cc1
      exact w_move_17 X hret hf hM (lv_sub hl [] rfl)
noncomputable def f_move (x1 : Int32) (I : Nat → Int32) (A : Nat → Nat → Int32) : Option (Int32 × MS) := f_move_0 x1 I A
theorem c_move {l : Launch} {D : va_G} {cy ci : ClassId} {h : Nat → Nat} {x1 : Int32} {I : Nat → Int32} {A : Nat → Nat → Int32} {o : Int32 × MS} (hf : f_move x1 I A = some o) : mMi l yX12_move wsX12_move ({ frames := 0, cells := 0, slots := 0, locals := 0 } : Room) [.ref (h 0), .int x1] D cy ci h I A o :=
  m_entryI (cc := cX12_move) (maxL := 2) (by decide) rfl rfl (Nat.le_of_ble_eq_true rfl) (fun p e s m args below meth c A0 Q H locs ls X hret hM hl => w_move_0 X hret hf hM (lv_sub hl [0, 1] rfl))
theorem hw_add : ∀ w ∈ wsX120, w ∈ wsX12_add := by decide +kernel
theorem fl_add_0 : Cond.fieldLink RX12 99 "MoveTextsModel" "thrown" "I" ∈ wsX12_add := by decide +kernel
theorem fl_add_5 : Cond.fieldLink RX12 347 "MoveTextsModel" "game" "I" ∈ wsX12_add := by decide +kernel
theorem fl_add_6 : Cond.fieldLink RX12 353 "MoveTextsModel" "here" "I" ∈ wsX12_add := by decide +kernel
theorem fl_add_7 : Cond.fieldLink RX12 17 "MoveTextsModel" "count" "[I" ∈ wsX12_add := by decide +kernel
theorem fl_add_10 : Cond.fieldLink RX12 27 "MoveTextsModel" "child" "[I" ∈ wsX12_add := by decide +kernel
theorem hd_add : yX12_add.cls = RX12 ∧ yX12_add.cls ≠ "java/lang/invoke/MethodHandle" ∧ yX12_add.cls ≠ "java/lang/invoke/VarHandle" ∧ (parseMethodDescriptor yX12_add.desc).map (fun d => d.parameters.length) = some 1 := by decide +kernel
noncomputable def f_add_137 (x2 : Int32) (I : Nat → Int32) (A : Nat → Nat → Int32) : Option (Int32 × MS) :=
  m_bnd (upd I 6 x2) (fun I1 =>
  m_cl (f_place (I1 5) (I1 6) I1 A) (fun r2 Ic2 Ac2 =>
  some (x2, (Ic2, Ac2))))

set_option maxRecDepth 100000 in
set_option maxHeartbeats 4000000 in
theorem w_add_137 {p : Program} {l : Launch} {e : Env} {s : State} {m : MethodId} {args : Array Value} {below : List Frame} {meth : Method} {c : Code} {Q : State → Prop} {D : va_G} {cy ci : ClassId} {h : Nat → Nat} {A0 : Nat → Prop} {o : Int32 × MS} (X : CallFix p m c cX12_add 4 s args wsX12_add RX12) (hret : mRi p l e ({ frames := 7, cells := 0, slots := 0, locals := 181 } : Room) s m args below meth c Q cX12_add D cy ci h A0 .int o) {x2 : Int32} {I : Nat → Int32} {A : Nat → Nat → Int32} {H : Heap} {locs : List Loc} {ls : Array Slot} (hf : f_add_137 x2 I A = some o) (hM : mH D cy ci h A0 s H locs I A) (hl : lv_has ls 4 [(0, .ref (h 0)), (2, .int x2)]) : W p l e ({ frames := 7, cells := 0, slots := 0, locals := 181 } : Room) s m args below meth c H locs 0 0 Q (F0 m 137 ls []) := by
  obtain ⟨hx, hb, hml, hown, hts⟩ := id X
  unfold f_add_137 at hf
  refine lv_aload_n hx hb dX12_add_137 rfl (lv_at hl 0 rfl) ?_
  refine lv_iload_n hx hb dX12_add_138 rfl (lv_at hl 1 rfl) ?_
  refine m_put X hw_add hM 6 (by decide) fl_add_6 mi_6 rfl (tyX12_ok 6 (by decide)) dX12_add_139 (fun H locs hM => ?_)
  obtain ⟨I1, ev, hf⟩ := m_bndE hf
  replace hM := m_hI hM ev
  clear ev
  refine lv_aload_n hx hb dX12_add_142 rfl (lv_at hl 0 rfl) ?_
  refine lv_aload_n hx hb dX12_add_143 rfl (lv_at hl 0 rfl) ?_
  refine m_get (v := .int (I1 5)) X hw_add hM 5 (by decide) fl_add_5 rfl dX12_add_144 ?_
  refine lv_aload_n hx hb dX12_add_147 rfl (lv_at hl 0 rfl) ?_
  refine m_get (v := .int (I1 6)) X hw_add hM 6 (by decide) fl_add_6 rfl dX12_add_148 ?_
  obtain ⟨o2, ho, hf⟩ := m_clE hf
  refine m_callVv X hM (c_place ho) gX12_add_X12_place rfl ⟨rfl, rfl⟩ hd_place ⟨Nat.le_of_ble_eq_true rfl, Nat.le_of_ble_eq_true rfl⟩ rfl hl.1 rfl (Nat.le_of_ble_eq_true rfl) dX12_add_151 (fun H locs hM => ?_)
  clear ho
  refine lv_iload_n hx hb dX12_add_154 rfl (lv_at hl 1 rfl) ?_
  cases hf
  exact hret H locs _ ls hM rfl dX12_add_155
noncomputable def f_add_111 (x1 : Int32) (t0 : Int32) (I : Nat → Int32) (A : Nat → Nat → Int32) : Option (Int32 × MS) :=
  m_bnd (upd I 0 t0) (fun I1 =>
  m_if ((I1 0) ≤ 0) (
  m_cl (f_append (I1 5) (I1 6) x1 I1 A) (fun r2 Ic2 Ac2 =>
  f_add_137 r2 Ic2 Ac2)
  ) (
  some ((0 : Int32), (I1, A))
  ))

set_option maxRecDepth 100000 in
set_option maxHeartbeats 4000000 in
theorem w_add_111 {p : Program} {l : Launch} {e : Env} {s : State} {m : MethodId} {args : Array Value} {below : List Frame} {meth : Method} {c : Code} {Q : State → Prop} {D : va_G} {cy ci : ClassId} {h : Nat → Nat} {A0 : Nat → Prop} {o : Int32 × MS} (X : CallFix p m c cX12_add 4 s args wsX12_add RX12) (hret : mRi p l e ({ frames := 7, cells := 0, slots := 0, locals := 181 } : Room) s m args below meth c Q cX12_add D cy ci h A0 .int o) {x1 : Int32} {t0 : Int32} {I : Nat → Int32} {A : Nat → Nat → Int32} {H : Heap} {locs : List Loc} {ls : Array Slot} (hf : f_add_111 x1 t0 I A = some o) (hM : mH D cy ci h A0 s H locs I A) (hl : lv_has ls 4 [(0, .ref (h 0)), (1, .int x1)]) : W p l e ({ frames := 7, cells := 0, slots := 0, locals := 181 } : Room) s m args below meth c H locs 0 0 Q (F0 m 111 ls [.int t0, .ref (h 0)]) := by
  obtain ⟨hx, hb, hml, hown, hts⟩ := id X
  unfold f_add_111 at hf
  refine m_put X hw_add hM 0 (by decide) fl_add_0 mi_0 rfl (tyX12_ok 0 (by decide)) dX12_add_111 (fun H locs hM => ?_)
  obtain ⟨I1, ev, hf⟩ := m_bndE hf
  replace hM := m_hI hM ev
  clear ev
  refine lv_aload_n hx hb dX12_add_114 rfl (lv_at hl 0 rfl) ?_
  refine m_get (v := .int (I1 0)) X hw_add hM 0 (by decide) fl_add_0 rfl dX12_add_115 ?_
  refine lv_if_le (tgt := 123) hx hb dX12_add_118 (by decide) (fun cc1 => ?_) (fun cc1 => ?_)
  · replace hf := m_ifT hf cc1
    refine lv_aload_n hx hb dX12_add_123 rfl (lv_at hl 0 rfl) ?_
    refine lv_aload_n hx hb dX12_add_124 rfl (lv_at hl 0 rfl) ?_
    refine m_get (v := .int (I1 5)) X hw_add hM 5 (by decide) fl_add_5 rfl dX12_add_125 ?_
    refine lv_aload_n hx hb dX12_add_128 rfl (lv_at hl 0 rfl) ?_
    refine m_get (v := .int (I1 6)) X hw_add hM 6 (by decide) fl_add_6 rfl dX12_add_129 ?_
    refine lv_iload_n hx hb dX12_add_132 rfl (lv_at hl 1 rfl) ?_
    obtain ⟨o2, ho, hf⟩ := m_clE hf
    refine m_callVi X hM (c_append ho) gX12_add_X12_append rfl ⟨rfl, rfl⟩ hd_append ⟨Nat.le_of_ble_eq_true rfl, Nat.le_of_ble_eq_true rfl⟩ rfl hl.1 rfl (Nat.le_of_ble_eq_true rfl) dX12_add_133 (fun H locs hM => ?_)
    clear ho
    refine lv_istore_n (lv' := [(2, .int o2.1), (0, .ref (h 0)), (1, .int x1)]) hx hb dX12_add_136 rfl hl (by decide) rfl (fun ls hl => ?_)
    exact w_add_137 X hret hf hM (lv_sub hl [1, 0] rfl)
  · replace hf := m_ifF hf cc1
    refine lv_iconst (v := (0 : Int32)) hx hb dX12_add_121 (by decide) ?_
    cases hf
    exact hret H locs _ ls hM rfl dX12_add_122
noncomputable def f_add_106 (x1 : Int32) (I : Nat → Int32) (A : Nat → Nat → Int32) : Option (Int32 × MS) :=
  f_add_111 x1 (2 : Int32) I A

set_option maxRecDepth 100000 in
set_option maxHeartbeats 4000000 in
theorem w_add_106 {p : Program} {l : Launch} {e : Env} {s : State} {m : MethodId} {args : Array Value} {below : List Frame} {meth : Method} {c : Code} {Q : State → Prop} {D : va_G} {cy ci : ClassId} {h : Nat → Nat} {A0 : Nat → Prop} {o : Int32 × MS} (X : CallFix p m c cX12_add 4 s args wsX12_add RX12) (hret : mRi p l e ({ frames := 7, cells := 0, slots := 0, locals := 181 } : Room) s m args below meth c Q cX12_add D cy ci h A0 .int o) {x1 : Int32} {I : Nat → Int32} {A : Nat → Nat → Int32} {H : Heap} {locs : List Loc} {ls : Array Slot} (hf : f_add_106 x1 I A = some o) (hM : mH D cy ci h A0 s H locs I A) (hl : lv_has ls 4 [(0, .ref (h 0)), (1, .int x1)]) : W p l e ({ frames := 7, cells := 0, slots := 0, locals := 181 } : Room) s m args below meth c H locs 0 0 Q (F0 m 106 ls [.ref (h 0)]) := by
  obtain ⟨hx, hb, hml, hown, hts⟩ := id X
  unfold f_add_106 at hf
  refine lv_iconst (v := (2 : Int32)) hx hb dX12_add_106 (by decide) ?_
  refine lv_goto (tgt := 111) hx hb dX12_add_107 (by decide) ?_
  exact w_add_111 X hret hf hM (lv_sub hl [0, 1] rfl)
noncomputable def f_add_82 (x1 : Int32) (t0 : Int32) (t1 : Int32) (I : Nat → Int32) (A : Nat → Nat → Int32) : Option (Int32 × MS) :=
  m_bnd (t1 + t0) (fun v1 =>
  m_chk (¬ ((I 5) < 0 ∨ 2 ≤ ((I 5)).toNatClampNeg)) (
  m_bnd (A 7 ((I 5)).toNatClampNeg) (fun v2 =>
  m_if (v2 = (300 : Int32)) (
  f_add_106 x1 I A
  ) (
  m_if (v1 ≤ (6 : Int32)) (
  f_add_111 x1 (0 : Int32) I A
  ) (
  f_add_106 x1 I A
  )
  ))))

set_option maxRecDepth 100000 in
set_option maxHeartbeats 4000000 in
theorem w_add_82 {p : Program} {l : Launch} {e : Env} {s : State} {m : MethodId} {args : Array Value} {below : List Frame} {meth : Method} {c : Code} {Q : State → Prop} {D : va_G} {cy ci : ClassId} {h : Nat → Nat} {A0 : Nat → Prop} {o : Int32 × MS} (X : CallFix p m c cX12_add 4 s args wsX12_add RX12) (hret : mRi p l e ({ frames := 7, cells := 0, slots := 0, locals := 181 } : Room) s m args below meth c Q cX12_add D cy ci h A0 .int o) {x1 : Int32} {t0 : Int32} {t1 : Int32} {I : Nat → Int32} {A : Nat → Nat → Int32} {H : Heap} {locs : List Loc} {ls : Array Slot} (hf : f_add_82 x1 t0 t1 I A = some o) (hM : mH D cy ci h A0 s H locs I A) (hl : lv_has ls 4 [(0, .ref (h 0)), (1, .int x1)]) : W p l e ({ frames := 7, cells := 0, slots := 0, locals := 181 } : Room) s m args below meth c H locs 0 0 Q (F0 m 82 ls [.int t0, .int t1]) := by
  obtain ⟨hx, hb, hml, hown, hts⟩ := id X
  unfold f_add_82 at hf
  refine lv_iadd hx hb dX12_add_82 ?_
  obtain ⟨v1, ev, hf⟩ := m_bndE hf
  refine m_top ev ?_
  clear ev
  refine lv_istore_n (lv' := [(3, .int v1), (0, .ref (h 0)), (1, .int x1)]) hx hb dX12_add_83 rfl hl (by decide) rfl (fun ls hl => ?_)
  refine lv_aload_n hx hb dX12_add_84 rfl (lv_at hl 1 rfl) ?_
  refine lv_aload_n hx hb dX12_add_85 rfl (lv_at hl 1 rfl) ?_
  refine m_get (v := .ref (h 7)) X hw_add hM 7 (by decide) fl_add_7 rfl dX12_add_86 ?_
  refine lv_aload_n hx hb dX12_add_89 rfl (lv_at hl 1 rfl) ?_
  refine m_get (v := .int (I 5)) X hw_add hM 5 (by decide) fl_add_5 rfl dX12_add_90 ?_
  obtain ⟨cd, hf⟩ := m_chkE hf
  refine m_iald X hM 7 3 2 rfl cd dX12_add_93 ?_
  clear cd
  obtain ⟨v2, ev, hf⟩ := m_bndE hf
  refine m_top ev ?_
  clear ev
  refine lv_sipush (v := (300 : Int32)) hx hb dX12_add_94 (by decide) ?_
  refine lv_icmp_eq (tgt := 106) hx hb dX12_add_97 (by decide) (fun cc1 => ?_) (fun cc1 => ?_)
  · replace hf := m_ifT hf cc1
    exact w_add_106 X hret hf hM (lv_sub hl [1, 2] rfl)
  · replace hf := m_ifF hf cc1
    refine lv_iload_n hx hb dX12_add_100 rfl (lv_at hl 0 rfl) ?_
    refine lv_bipush (v := (6 : Int32)) hx hb dX12_add_101 (by decide) ?_
    refine lv_icmp_le (tgt := 110) hx hb dX12_add_103 (by decide) (fun cc1 => ?_) (fun cc1 => ?_)
    · replace hf := m_ifT hf cc1
      refine lv_iconst (v := (0 : Int32)) hx hb dX12_add_110 (by decide) ?_
      exact w_add_111 X hret hf hM (lv_sub hl [1, 2] rfl)
    · replace hf := m_ifF hf cc1
      exact w_add_106 X hret hf hM (lv_sub hl [1, 2] rfl)
noncomputable def f_add_14 (x1 : Int32) (t0 : Int32) (I : Nat → Int32) (A : Nat → Nat → Int32) : Option (Int32 × MS) :=
  m_bnd (upd I 0 t0) (fun I1 =>
  m_if ((I1 0) ≤ 0) (
  m_cl (f_childWith (I1 5) (I1 6) x1 I1 A) (fun r2 Ic2 Ac2 =>
  m_if (0 ≤ r2) (
  f_add_137 r2 Ic2 Ac2
  ) (
  m_cl (f_deepOf (Ic2 5) (Ic2 6) Ic2 Ac2) (fun r3 Ic3 Ac3 =>
  m_bnd ((301 : Int32) * (Ic3 5)) (fun v4 =>
  m_bnd (v4 + (Ic3 6)) (fun v5 =>
  m_chk (¬ (v5 < 0 ∨ 602 ≤ (v5).toNatClampNeg)) (
  m_bnd (Ac3 10 (v5).toNatClampNeg) (fun v6 =>
  m_if (v6 < 0) (
  f_add_82 x1 (0 : Int32) r3 Ic3 Ac3
  ) (
  f_add_82 x1 (1 : Int32) r3 Ic3 Ac3
  ))))))
  ))
  ) (
  some ((0 : Int32), (I1, A))
  ))

set_option maxRecDepth 100000 in
set_option maxHeartbeats 4000000 in
theorem w_add_14 {p : Program} {l : Launch} {e : Env} {s : State} {m : MethodId} {args : Array Value} {below : List Frame} {meth : Method} {c : Code} {Q : State → Prop} {D : va_G} {cy ci : ClassId} {h : Nat → Nat} {A0 : Nat → Prop} {o : Int32 × MS} (X : CallFix p m c cX12_add 4 s args wsX12_add RX12) (hret : mRi p l e ({ frames := 7, cells := 0, slots := 0, locals := 181 } : Room) s m args below meth c Q cX12_add D cy ci h A0 .int o) {x1 : Int32} {t0 : Int32} {I : Nat → Int32} {A : Nat → Nat → Int32} {H : Heap} {locs : List Loc} {ls : Array Slot} (hf : f_add_14 x1 t0 I A = some o) (hM : mH D cy ci h A0 s H locs I A) (hl : lv_has ls 4 [(0, .ref (h 0)), (1, .int x1)]) : W p l e ({ frames := 7, cells := 0, slots := 0, locals := 181 } : Room) s m args below meth c H locs 0 0 Q (F0 m 14 ls [.int t0, .ref (h 0)]) := by
  obtain ⟨hx, hb, hml, hown, hts⟩ := id X
  unfold f_add_14 at hf
  refine m_put X hw_add hM 0 (by decide) fl_add_0 mi_0 rfl (tyX12_ok 0 (by decide)) dX12_add_14 (fun H locs hM => ?_)
  obtain ⟨I1, ev, hf⟩ := m_bndE hf
  replace hM := m_hI hM ev
  clear ev
  refine lv_aload_n hx hb dX12_add_17 rfl (lv_at hl 0 rfl) ?_
  refine m_get (v := .int (I1 0)) X hw_add hM 0 (by decide) fl_add_0 rfl dX12_add_18 ?_
  refine lv_if_le (tgt := 26) hx hb dX12_add_21 (by decide) (fun cc1 => ?_) (fun cc1 => ?_)
  · replace hf := m_ifT hf cc1
    refine lv_aload_n hx hb dX12_add_26 rfl (lv_at hl 0 rfl) ?_
    refine lv_aload_n hx hb dX12_add_27 rfl (lv_at hl 0 rfl) ?_
    refine m_get (v := .int (I1 5)) X hw_add hM 5 (by decide) fl_add_5 rfl dX12_add_28 ?_
    refine lv_aload_n hx hb dX12_add_31 rfl (lv_at hl 0 rfl) ?_
    refine m_get (v := .int (I1 6)) X hw_add hM 6 (by decide) fl_add_6 rfl dX12_add_32 ?_
    refine lv_iload_n hx hb dX12_add_35 rfl (lv_at hl 1 rfl) ?_
    obtain ⟨o2, ho, hf⟩ := m_clE hf
    refine m_callVi X hM (c_childWith ho) gX12_add_X12_childWith rfl ⟨rfl, rfl⟩ hd_childWith ⟨Nat.le_of_ble_eq_true rfl, Nat.le_of_ble_eq_true rfl⟩ rfl hl.1 rfl (Nat.le_of_ble_eq_true rfl) dX12_add_36 (fun H locs hM => ?_)
    clear ho
    refine lv_istore_n (lv' := [(2, .int o2.1), (0, .ref (h 0)), (1, .int x1)]) hx hb dX12_add_39 rfl hl (by decide) rfl (fun ls hl => ?_)
    refine lv_iload_n hx hb dX12_add_40 rfl (lv_at hl 0 rfl) ?_
    refine lv_if_ge (tgt := 137) hx hb dX12_add_41 (by decide) (fun cc1 => ?_) (fun cc1 => ?_)
    · replace hf := m_ifT hf cc1
      exact w_add_137 X hret hf hM (lv_sub hl [1, 0] rfl)
    · replace hf := m_ifF hf cc1
      refine lv_aload_n hx hb dX12_add_44 rfl (lv_at hl 1 rfl) ?_
      refine lv_aload_n hx hb dX12_add_45 rfl (lv_at hl 1 rfl) ?_
      refine m_get (v := .int (o2.2.1 5)) X hw_add hM 5 (by decide) fl_add_5 rfl dX12_add_46 ?_
      refine lv_aload_n hx hb dX12_add_49 rfl (lv_at hl 1 rfl) ?_
      refine m_get (v := .int (o2.2.1 6)) X hw_add hM 6 (by decide) fl_add_6 rfl dX12_add_50 ?_
      obtain ⟨o3, ho, hf⟩ := m_clE hf
      refine m_callVi X hM (c_deepOf ho) gX12_add_X12_deepOf rfl ⟨rfl, rfl⟩ hd_deepOf ⟨Nat.le_of_ble_eq_true rfl, Nat.le_of_ble_eq_true rfl⟩ rfl hl.1 rfl (Nat.le_of_ble_eq_true rfl) dX12_add_53 (fun H locs hM => ?_)
      clear ho
      refine lv_aload_n hx hb dX12_add_56 rfl (lv_at hl 1 rfl) ?_
      refine m_get (v := .ref (h 10)) X hw_add hM 10 (by decide) fl_add_10 rfl dX12_add_57 ?_
      refine lv_sipush (v := (301 : Int32)) hx hb dX12_add_60 (by decide) ?_
      refine lv_aload_n hx hb dX12_add_63 rfl (lv_at hl 1 rfl) ?_
      refine m_get (v := .int (o3.2.1 5)) X hw_add hM 5 (by decide) fl_add_5 rfl dX12_add_64 ?_
      refine lv_imul hx hb dX12_add_67 ?_
      obtain ⟨v4, ev, hf⟩ := m_bndE hf
      refine m_top ev ?_
      clear ev
      refine lv_aload_n hx hb dX12_add_68 rfl (lv_at hl 1 rfl) ?_
      refine m_get (v := .int (o3.2.1 6)) X hw_add hM 6 (by decide) fl_add_6 rfl dX12_add_69 ?_
      refine lv_iadd hx hb dX12_add_72 ?_
      obtain ⟨v5, ev, hf⟩ := m_bndE hf
      refine m_top ev ?_
      clear ev
      obtain ⟨cd, hf⟩ := m_chkE hf
      refine m_iald X hM 10 6 602 rfl cd dX12_add_73 ?_
      clear cd
      obtain ⟨v6, ev, hf⟩ := m_bndE hf
      refine m_top ev ?_
      clear ev
      refine lv_if_lt (tgt := 81) hx hb dX12_add_74 (by decide) (fun cc1 => ?_) (fun cc1 => ?_)
      · replace hf := m_ifT hf cc1
        refine lv_iconst (v := (0 : Int32)) hx hb dX12_add_81 (by decide) ?_
        exact w_add_82 X hret hf hM (lv_sub hl [1, 2] rfl)
      · replace hf := m_ifF hf cc1
        refine lv_iconst (v := (1 : Int32)) hx hb dX12_add_77 (by decide) ?_
        refine lv_goto (tgt := 82) hx hb dX12_add_78 (by decide) ?_
        exact w_add_82 X hret hf hM (lv_sub hl [1, 2] rfl)
  · replace hf := m_ifF hf cc1
    refine lv_iconst (v := (0 : Int32)) hx hb dX12_add_24 (by decide) ?_
    cases hf
    exact hret H locs _ ls hM rfl dX12_add_25
noncomputable def f_add_0 (x1 : Int32) (I : Nat → Int32) (A : Nat → Nat → Int32) : Option (Int32 × MS) :=
  m_cl (f_isLegal x1 I A) (fun r1 Ic1 Ac1 =>
  m_if (r1 = 0) (
  f_add_14 x1 (1 : Int32) Ic1 Ac1
  ) (
  f_add_14 x1 (0 : Int32) Ic1 Ac1
  ))

set_option maxRecDepth 100000 in
set_option maxHeartbeats 4000000 in
theorem w_add_0 {p : Program} {l : Launch} {e : Env} {s : State} {m : MethodId} {args : Array Value} {below : List Frame} {meth : Method} {c : Code} {Q : State → Prop} {D : va_G} {cy ci : ClassId} {h : Nat → Nat} {A0 : Nat → Prop} {o : Int32 × MS} (X : CallFix p m c cX12_add 4 s args wsX12_add RX12) (hret : mRi p l e ({ frames := 7, cells := 0, slots := 0, locals := 181 } : Room) s m args below meth c Q cX12_add D cy ci h A0 .int o) {x1 : Int32} {I : Nat → Int32} {A : Nat → Nat → Int32} {H : Heap} {locs : List Loc} {ls : Array Slot} (hf : f_add_0 x1 I A = some o) (hM : mH D cy ci h A0 s H locs I A) (hl : lv_has ls 4 [(0, .ref (h 0)), (1, .int x1)]) : W p l e ({ frames := 7, cells := 0, slots := 0, locals := 181 } : Room) s m args below meth c H locs 0 0 Q (F0 m 0 ls []) := by
  obtain ⟨hx, hb, hml, hown, hts⟩ := id X
  unfold f_add_0 at hf
  refine lv_aload_n hx hb dX12_add_0 rfl (lv_at hl 0 rfl) ?_
  refine lv_aload_n hx hb dX12_add_1 rfl (lv_at hl 0 rfl) ?_
  refine lv_iload_n hx hb dX12_add_2 rfl (lv_at hl 1 rfl) ?_
  obtain ⟨o1, ho, hf⟩ := m_clE hf
  refine m_callVi X hM (c_isLegal ho) gX12_add_X12_isLegal rfl ⟨rfl, rfl⟩ hd_isLegal ⟨Nat.le_of_ble_eq_true rfl, Nat.le_of_ble_eq_true rfl⟩ rfl hl.1 rfl (Nat.le_of_ble_eq_true rfl) dX12_add_3 (fun H locs hM => ?_)
  clear ho
  refine lv_if_eq (tgt := 13) hx hb dX12_add_6 (by decide) (fun cc1 => ?_) (fun cc1 => ?_)
  · replace hf := m_ifT hf cc1
    refine lv_iconst (v := (1 : Int32)) hx hb dX12_add_13 (by decide) ?_
    exact w_add_14 X hret hf hM (lv_sub hl [0, 1] rfl)
  · replace hf := m_ifF hf cc1
    refine lv_iconst (v := (0 : Int32)) hx hb dX12_add_9 (by decide) ?_
    refine lv_goto (tgt := 14) hx hb dX12_add_10 (by decide) ?_
    exact w_add_14 X hret hf hM (lv_sub hl [0, 1] rfl)
noncomputable def f_add (x1 : Int32) (I : Nat → Int32) (A : Nat → Nat → Int32) : Option (Int32 × MS) := f_add_0 x1 I A
theorem c_add {l : Launch} {D : va_G} {cy ci : ClassId} {h : Nat → Nat} {x1 : Int32} {I : Nat → Int32} {A : Nat → Nat → Int32} {o : Int32 × MS} (hf : f_add x1 I A = some o) : mMi l yX12_add wsX12_add ({ frames := 7, cells := 0, slots := 0, locals := 181 } : Room) [.ref (h 0), .int x1] D cy ci h I A o :=
  m_entryI (cc := cX12_add) (maxL := 4) (by decide) rfl rfl (Nat.le_of_ble_eq_true rfl) (fun p e s m args below meth c A0 Q H locs ls X hret hM hl => w_add_0 X hret hf hM (lv_sub hl [0, 1] rfl))
theorem hw_addMark : ∀ w ∈ wsX120, w ∈ wsX12_addMark := by decide +kernel
theorem fl_addMark_0 : Cond.fieldLink RX12 99 "MoveTextsModel" "thrown" "I" ∈ wsX12_addMark := by decide +kernel
theorem fl_addMark_5 : Cond.fieldLink RX12 347 "MoveTextsModel" "game" "I" ∈ wsX12_addMark := by decide +kernel
theorem fl_addMark_6 : Cond.fieldLink RX12 353 "MoveTextsModel" "here" "I" ∈ wsX12_addMark := by decide +kernel
theorem fl_addMark_12 : Cond.fieldLink RX12 33 "MoveTextsModel" "markCount" "[I" ∈ wsX12_addMark := by decide +kernel
theorem hd_addMark : yX12_addMark.cls = RX12 ∧ yX12_addMark.cls ≠ "java/lang/invoke/MethodHandle" ∧ yX12_addMark.cls ≠ "java/lang/invoke/VarHandle" ∧ (parseMethodDescriptor yX12_addMark.desc).map (fun d => d.parameters.length) = some 1 := by decide +kernel
noncomputable def f_addMark_50 (x1 : Int32) (t0 : Int32) (I : Nat → Int32) (A : Nat → Nat → Int32) : Option (Int32 × MS) :=
  m_bnd (upd I 0 t0) (fun I1 =>
  m_if ((I1 0) ≤ 0) (
  m_cl (f_addMarkTo (I1 5) (I1 6) x1 I1 A) (fun r2 Ic2 Ac2 =>
  m_bnd ((301 : Int32) * (Ic2 5)) (fun v3 =>
  m_bnd (v3 + (Ic2 6)) (fun v4 =>
  m_chk (¬ (v4 < 0 ∨ 602 ≤ (v4).toNatClampNeg)) (
  m_bnd (Ac2 12 (v4).toNatClampNeg) (fun v5 =>
  some (v5, (Ic2, Ac2)))))))
  ) (
  some ((0 : Int32), (I1, A))
  ))

set_option maxRecDepth 100000 in
set_option maxHeartbeats 4000000 in
theorem w_addMark_50 {p : Program} {l : Launch} {e : Env} {s : State} {m : MethodId} {args : Array Value} {below : List Frame} {meth : Method} {c : Code} {Q : State → Prop} {D : va_G} {cy ci : ClassId} {h : Nat → Nat} {A0 : Nat → Prop} {o : Int32 × MS} (X : CallFix p m c cX12_addMark 2 s args wsX12_addMark RX12) (hret : mRi p l e ({ frames := 1, cells := 0, slots := 0, locals := 24 } : Room) s m args below meth c Q cX12_addMark D cy ci h A0 .int o) {x1 : Int32} {t0 : Int32} {I : Nat → Int32} {A : Nat → Nat → Int32} {H : Heap} {locs : List Loc} {ls : Array Slot} (hf : f_addMark_50 x1 t0 I A = some o) (hM : mH D cy ci h A0 s H locs I A) (hl : lv_has ls 2 [(0, .ref (h 0)), (1, .int x1)]) : W p l e ({ frames := 1, cells := 0, slots := 0, locals := 24 } : Room) s m args below meth c H locs 0 0 Q (F0 m 50 ls [.int t0, .ref (h 0)]) := by
  obtain ⟨hx, hb, hml, hown, hts⟩ := id X
  unfold f_addMark_50 at hf
  refine m_put X hw_addMark hM 0 (by decide) fl_addMark_0 mi_0 rfl (tyX12_ok 0 (by decide)) dX12_addMark_50 (fun H locs hM => ?_)
  obtain ⟨I1, ev, hf⟩ := m_bndE hf
  replace hM := m_hI hM ev
  clear ev
  refine lv_aload_n hx hb dX12_addMark_53 rfl (lv_at hl 0 rfl) ?_
  refine m_get (v := .int (I1 0)) X hw_addMark hM 0 (by decide) fl_addMark_0 rfl dX12_addMark_54 ?_
  refine lv_if_le (tgt := 62) hx hb dX12_addMark_57 (by decide) (fun cc1 => ?_) (fun cc1 => ?_)
  · replace hf := m_ifT hf cc1
    refine lv_aload_n hx hb dX12_addMark_62 rfl (lv_at hl 0 rfl) ?_
    refine lv_aload_n hx hb dX12_addMark_63 rfl (lv_at hl 0 rfl) ?_
    refine m_get (v := .int (I1 5)) X hw_addMark hM 5 (by decide) fl_addMark_5 rfl dX12_addMark_64 ?_
    refine lv_aload_n hx hb dX12_addMark_67 rfl (lv_at hl 0 rfl) ?_
    refine m_get (v := .int (I1 6)) X hw_addMark hM 6 (by decide) fl_addMark_6 rfl dX12_addMark_68 ?_
    refine lv_iload_n hx hb dX12_addMark_71 rfl (lv_at hl 1 rfl) ?_
    obtain ⟨o2, ho, hf⟩ := m_clE hf
    refine m_callVv X hM (c_addMarkTo ho) gX12_addMark_X12_addMarkTo rfl ⟨rfl, rfl⟩ hd_addMarkTo ⟨Nat.le_of_ble_eq_true rfl, Nat.le_of_ble_eq_true rfl⟩ rfl hl.1 rfl (Nat.le_of_ble_eq_true rfl) dX12_addMark_72 (fun H locs hM => ?_)
    clear ho
    refine lv_aload_n hx hb dX12_addMark_75 rfl (lv_at hl 0 rfl) ?_
    refine m_get (v := .ref (h 12)) X hw_addMark hM 12 (by decide) fl_addMark_12 rfl dX12_addMark_76 ?_
    refine lv_sipush (v := (301 : Int32)) hx hb dX12_addMark_79 (by decide) ?_
    refine lv_aload_n hx hb dX12_addMark_82 rfl (lv_at hl 0 rfl) ?_
    refine m_get (v := .int (o2.2.1 5)) X hw_addMark hM 5 (by decide) fl_addMark_5 rfl dX12_addMark_83 ?_
    refine lv_imul hx hb dX12_addMark_86 ?_
    obtain ⟨v3, ev, hf⟩ := m_bndE hf
    refine m_top ev ?_
    clear ev
    refine lv_aload_n hx hb dX12_addMark_87 rfl (lv_at hl 0 rfl) ?_
    refine m_get (v := .int (o2.2.1 6)) X hw_addMark hM 6 (by decide) fl_addMark_6 rfl dX12_addMark_88 ?_
    refine lv_iadd hx hb dX12_addMark_91 ?_
    obtain ⟨v4, ev, hf⟩ := m_bndE hf
    refine m_top ev ?_
    clear ev
    obtain ⟨cd, hf⟩ := m_chkE hf
    refine m_iald X hM 12 8 602 rfl cd dX12_addMark_92 ?_
    clear cd
    obtain ⟨v5, ev, hf⟩ := m_bndE hf
    refine m_top ev ?_
    clear ev
    cases hf
    exact hret H locs _ ls hM rfl dX12_addMark_93
  · replace hf := m_ifF hf cc1
    refine lv_iconst (v := (0 : Int32)) hx hb dX12_addMark_60 (by decide) ?_
    cases hf
    exact hret H locs _ ls hM rfl dX12_addMark_61
noncomputable def f_addMark_12 (x1 : Int32) (I : Nat → Int32) (A : Nat → Nat → Int32) : Option (Int32 × MS) :=
  f_addMark_50 x1 (1 : Int32) I A

set_option maxRecDepth 100000 in
set_option maxHeartbeats 4000000 in
theorem w_addMark_12 {p : Program} {l : Launch} {e : Env} {s : State} {m : MethodId} {args : Array Value} {below : List Frame} {meth : Method} {c : Code} {Q : State → Prop} {D : va_G} {cy ci : ClassId} {h : Nat → Nat} {A0 : Nat → Prop} {o : Int32 × MS} (X : CallFix p m c cX12_addMark 2 s args wsX12_addMark RX12) (hret : mRi p l e ({ frames := 1, cells := 0, slots := 0, locals := 24 } : Room) s m args below meth c Q cX12_addMark D cy ci h A0 .int o) {x1 : Int32} {I : Nat → Int32} {A : Nat → Nat → Int32} {H : Heap} {locs : List Loc} {ls : Array Slot} (hf : f_addMark_12 x1 I A = some o) (hM : mH D cy ci h A0 s H locs I A) (hl : lv_has ls 2 [(0, .ref (h 0)), (1, .int x1)]) : W p l e ({ frames := 1, cells := 0, slots := 0, locals := 24 } : Room) s m args below meth c H locs 0 0 Q (F0 m 12 ls [.ref (h 0)]) := by
  obtain ⟨hx, hb, hml, hown, hts⟩ := id X
  unfold f_addMark_12 at hf
  refine lv_iconst (v := (1 : Int32)) hx hb dX12_addMark_12 (by decide) ?_
  refine lv_goto (tgt := 50) hx hb dX12_addMark_13 (by decide) ?_
  exact w_addMark_50 X hret hf hM (lv_sub hl [0, 1] rfl)
noncomputable def f_addMark_45 (x1 : Int32) (I : Nat → Int32) (A : Nat → Nat → Int32) : Option (Int32 × MS) :=
  f_addMark_50 x1 (2 : Int32) I A

set_option maxRecDepth 100000 in
set_option maxHeartbeats 4000000 in
theorem w_addMark_45 {p : Program} {l : Launch} {e : Env} {s : State} {m : MethodId} {args : Array Value} {below : List Frame} {meth : Method} {c : Code} {Q : State → Prop} {D : va_G} {cy ci : ClassId} {h : Nat → Nat} {A0 : Nat → Prop} {o : Int32 × MS} (X : CallFix p m c cX12_addMark 2 s args wsX12_addMark RX12) (hret : mRi p l e ({ frames := 1, cells := 0, slots := 0, locals := 24 } : Room) s m args below meth c Q cX12_addMark D cy ci h A0 .int o) {x1 : Int32} {I : Nat → Int32} {A : Nat → Nat → Int32} {H : Heap} {locs : List Loc} {ls : Array Slot} (hf : f_addMark_45 x1 I A = some o) (hM : mH D cy ci h A0 s H locs I A) (hl : lv_has ls 2 [(0, .ref (h 0)), (1, .int x1)]) : W p l e ({ frames := 1, cells := 0, slots := 0, locals := 24 } : Room) s m args below meth c H locs 0 0 Q (F0 m 45 ls [.ref (h 0)]) := by
  obtain ⟨hx, hb, hml, hown, hts⟩ := id X
  unfold f_addMark_45 at hf
  refine lv_iconst (v := (2 : Int32)) hx hb dX12_addMark_45 (by decide) ?_
  refine lv_goto (tgt := 50) hx hb dX12_addMark_46 (by decide) ?_
  exact w_addMark_50 X hret hf hM (lv_sub hl [0, 1] rfl)
noncomputable def f_addMark_0 (x1 : Int32) (I : Nat → Int32) (A : Nat → Nat → Int32) : Option (Int32 × MS) :=
  m_if (x1 < 0) (
  f_addMark_12 x1 I A
  ) (
  m_if (x1 ≤ (255 : Int32)) (
  m_if ((I 6) = 0) (
  f_addMark_45 x1 I A
  ) (
  m_bnd ((301 : Int32) * (I 5)) (fun v1 =>
  m_bnd (v1 + (I 6)) (fun v2 =>
  m_chk (¬ (v2 < 0 ∨ 602 ≤ (v2).toNatClampNeg)) (
  m_bnd (A 12 (v2).toNatClampNeg) (fun v3 =>
  m_if (v3 = (4 : Int32)) (
  f_addMark_45 x1 I A
  ) (
  f_addMark_50 x1 (0 : Int32) I A
  )))))
  )
  ) (
  f_addMark_12 x1 I A
  )
  )

set_option maxRecDepth 100000 in
set_option maxHeartbeats 4000000 in
theorem w_addMark_0 {p : Program} {l : Launch} {e : Env} {s : State} {m : MethodId} {args : Array Value} {below : List Frame} {meth : Method} {c : Code} {Q : State → Prop} {D : va_G} {cy ci : ClassId} {h : Nat → Nat} {A0 : Nat → Prop} {o : Int32 × MS} (X : CallFix p m c cX12_addMark 2 s args wsX12_addMark RX12) (hret : mRi p l e ({ frames := 1, cells := 0, slots := 0, locals := 24 } : Room) s m args below meth c Q cX12_addMark D cy ci h A0 .int o) {x1 : Int32} {I : Nat → Int32} {A : Nat → Nat → Int32} {H : Heap} {locs : List Loc} {ls : Array Slot} (hf : f_addMark_0 x1 I A = some o) (hM : mH D cy ci h A0 s H locs I A) (hl : lv_has ls 2 [(0, .ref (h 0)), (1, .int x1)]) : W p l e ({ frames := 1, cells := 0, slots := 0, locals := 24 } : Room) s m args below meth c H locs 0 0 Q (F0 m 0 ls []) := by
  obtain ⟨hx, hb, hml, hown, hts⟩ := id X
  unfold f_addMark_0 at hf
  refine lv_aload_n hx hb dX12_addMark_0 rfl (lv_at hl 0 rfl) ?_
  refine lv_iload_n hx hb dX12_addMark_1 rfl (lv_at hl 1 rfl) ?_
  refine lv_if_lt (tgt := 12) hx hb dX12_addMark_2 (by decide) (fun cc1 => ?_) (fun cc1 => ?_)
  · replace hf := m_ifT hf cc1
    exact w_addMark_12 X hret hf hM (lv_sub hl [0, 1] rfl)
  · replace hf := m_ifF hf cc1
    refine lv_iload_n hx hb dX12_addMark_5 rfl (lv_at hl 1 rfl) ?_
    refine lv_sipush (v := (255 : Int32)) hx hb dX12_addMark_6 (by decide) ?_
    refine lv_icmp_le (tgt := 16) hx hb dX12_addMark_9 (by decide) (fun cc1 => ?_) (fun cc1 => ?_)
    · replace hf := m_ifT hf cc1
      refine lv_aload_n hx hb dX12_addMark_16 rfl (lv_at hl 0 rfl) ?_
      refine m_get (v := .int (I 6)) X hw_addMark hM 6 (by decide) fl_addMark_6 rfl dX12_addMark_17 ?_
      refine lv_if_eq (tgt := 45) hx hb dX12_addMark_20 (by decide) (fun cc1 => ?_) (fun cc1 => ?_)
      · replace hf := m_ifT hf cc1
        exact w_addMark_45 X hret hf hM (lv_sub hl [0, 1] rfl)
      · replace hf := m_ifF hf cc1
        refine lv_aload_n hx hb dX12_addMark_23 rfl (lv_at hl 0 rfl) ?_
        refine m_get (v := .ref (h 12)) X hw_addMark hM 12 (by decide) fl_addMark_12 rfl dX12_addMark_24 ?_
        refine lv_sipush (v := (301 : Int32)) hx hb dX12_addMark_27 (by decide) ?_
        refine lv_aload_n hx hb dX12_addMark_30 rfl (lv_at hl 0 rfl) ?_
        refine m_get (v := .int (I 5)) X hw_addMark hM 5 (by decide) fl_addMark_5 rfl dX12_addMark_31 ?_
        refine lv_imul hx hb dX12_addMark_34 ?_
        obtain ⟨v1, ev, hf⟩ := m_bndE hf
        refine m_top ev ?_
        clear ev
        refine lv_aload_n hx hb dX12_addMark_35 rfl (lv_at hl 0 rfl) ?_
        refine m_get (v := .int (I 6)) X hw_addMark hM 6 (by decide) fl_addMark_6 rfl dX12_addMark_36 ?_
        refine lv_iadd hx hb dX12_addMark_39 ?_
        obtain ⟨v2, ev, hf⟩ := m_bndE hf
        refine m_top ev ?_
        clear ev
        obtain ⟨cd, hf⟩ := m_chkE hf
        refine m_iald X hM 12 8 602 rfl cd dX12_addMark_40 ?_
        clear cd
        obtain ⟨v3, ev, hf⟩ := m_bndE hf
        refine m_top ev ?_
        clear ev
        refine lv_iconst (v := (4 : Int32)) hx hb dX12_addMark_41 (by decide) ?_
        refine lv_icmp_ne (tgt := 49) hx hb dX12_addMark_42 (by decide) (fun cc1 => ?_) (fun cc1 => ?_)
        · replace hf := m_ifF hf cc1
          refine lv_iconst (v := (0 : Int32)) hx hb dX12_addMark_49 (by decide) ?_
          exact w_addMark_50 X hret hf hM (lv_sub hl [0, 1] rfl)
        · replace hf := m_ifT hf cc1
          exact w_addMark_45 X hret hf hM (lv_sub hl [0, 1] rfl)
    · replace hf := m_ifF hf cc1
      exact w_addMark_12 X hret hf hM (lv_sub hl [0, 1] rfl)
noncomputable def f_addMark (x1 : Int32) (I : Nat → Int32) (A : Nat → Nat → Int32) : Option (Int32 × MS) := f_addMark_0 x1 I A
theorem c_addMark {l : Launch} {D : va_G} {cy ci : ClassId} {h : Nat → Nat} {x1 : Int32} {I : Nat → Int32} {A : Nat → Nat → Int32} {o : Int32 × MS} (hf : f_addMark x1 I A = some o) : mMi l yX12_addMark wsX12_addMark ({ frames := 1, cells := 0, slots := 0, locals := 24 } : Room) [.ref (h 0), .int x1] D cy ci h I A o :=
  m_entryI (cc := cX12_addMark) (maxL := 2) (by decide) rfl rfl (Nat.le_of_ble_eq_true rfl) (fun p e s m args below meth c A0 Q H locs ls X hret hM hl => w_addMark_0 X hret hf hM (lv_sub hl [0, 1] rfl))
theorem hw_say : ∀ w ∈ wsX120, w ∈ wsX12_say := by decide +kernel
theorem fl_say_0 : Cond.fieldLink RX12 99 "MoveTextsModel" "thrown" "I" ∈ wsX12_say := by decide +kernel
theorem fl_say_1 : Cond.fieldLink RX12 270 "MoveTextsModel" "typed" "I" ∈ wsX12_say := by decide +kernel
theorem fl_say_2 : Cond.fieldLink RX12 7 "MoveTextsModel" "text" "[C" ∈ wsX12_say := by decide +kernel
theorem fl_say_5 : Cond.fieldLink RX12 347 "MoveTextsModel" "game" "I" ∈ wsX12_say := by decide +kernel
theorem fl_say_6 : Cond.fieldLink RX12 353 "MoveTextsModel" "here" "I" ∈ wsX12_say := by decide +kernel
theorem fl_say_14 : Cond.fieldLink RX12 39 "MoveTextsModel" "remarkSize" "[I" ∈ wsX12_say := by decide +kernel
theorem fl_say_15 : Cond.fieldLink RX12 43 "MoveTextsModel" "remarks" "[C" ∈ wsX12_say := by decide +kernel
theorem hd_say : yX12_say.cls = RX12 ∧ yX12_say.cls ≠ "java/lang/invoke/MethodHandle" ∧ yX12_say.cls ≠ "java/lang/invoke/VarHandle" ∧ (parseMethodDescriptor yX12_say.desc).map (fun d => d.parameters.length) = some 0 := by decide +kernel
noncomputable def f_say_102s (self102 : Int32 → Int32 → (Nat → Int32) → (Nat → Nat → Int32) → Option (Int32 × MS)) (x2 : Int32) (x3 : Int32) (I : Nat → Int32) (A : Nat → Nat → Int32) : Option (Int32 × MS) :=
  m_if ((I 1) ≤ x3) (
  m_chk (¬ (x2 < 0 ∨ 602 ≤ (x2).toNatClampNeg)) (
  m_bnd (va_up A 14 (upd (A 14) (x2).toNatClampNeg (I 1))) (fun A1 =>
  m_bnd (upd I 1 (0 : Int32)) (fun I2 =>
  m_chk (¬ (x2 < 0 ∨ 602 ≤ (x2).toNatClampNeg)) (
  m_bnd (A1 14 (x2).toNatClampNeg) (fun v3 =>
  some (v3, (I2, A1)))))))
  ) (
  m_bnd ((200 : Int32) * x2) (fun v4 =>
  m_bnd (v4 + x3) (fun v5 =>
  m_chk (¬ (x3 < 0 ∨ 2000 ≤ (x3).toNatClampNeg)) (
  m_bnd (A 2 (x3).toNatClampNeg) (fun v6 =>
  m_chk (¬ (v5 < 0 ∨ 120400 ≤ (v5).toNatClampNeg)) (
  m_bnd (va_up A 15 (upd (A 15) (v5).toNatClampNeg (vp_nar .char v6))) (fun A7 =>
  m_bnd (x3 + (1 : Int32)) (fun v8 =>
  self102 x2 v8 I A7)))))))
  )

set_option maxRecDepth 100000 in
set_option maxHeartbeats 4000000 in
theorem ws_say_102 {p : Program} {l : Launch} {e : Env} {s : State} {m : MethodId} {args : Array Value} {below : List Frame} {meth : Method} {c : Code} {Q : State → Prop} {D : va_G} {cy ci : ClassId} {h : Nat → Nat} {A0 : Nat → Prop} {o : Int32 × MS} (X : CallFix p m c cX12_say 4 s args wsX12_say RX12) (hret : mRi p l e ({ frames := 0, cells := 0, slots := 0, locals := 0 } : Room) s m args below meth c Q cX12_say D cy ci h A0 .int o) {self102 : Int32 → Int32 → (Nat → Int32) → (Nat → Nat → Int32) → Option (Int32 × MS)} (hself102 : ∀ (x2 : Int32) (x3 : Int32) (I : Nat → Int32) (A : Nat → Nat → Int32) (H : Heap) (locs : List Loc) (ls : Array Slot), self102 x2 x3 I A = some o → mH D cy ci h A0 s H locs I A → lv_has ls 4 [(0, .ref (h 0)), (2, .int x2), (3, .int x3)] → W p l e ({ frames := 0, cells := 0, slots := 0, locals := 0 } : Room) s m args below meth c H locs 0 0 Q (F0 m 102 ls [])) {x2 : Int32} {x3 : Int32} {I : Nat → Int32} {A : Nat → Nat → Int32} {H : Heap} {locs : List Loc} {ls : Array Slot} (hf : f_say_102s self102 x2 x3 I A = some o) (hM : mH D cy ci h A0 s H locs I A) (hl : lv_has ls 4 [(0, .ref (h 0)), (2, .int x2), (3, .int x3)]) : W p l e ({ frames := 0, cells := 0, slots := 0, locals := 0 } : Room) s m args below meth c H locs 0 0 Q (F0 m 102 ls []) := by
  obtain ⟨hx, hb, hml, hown, hts⟩ := id X
  unfold f_say_102s at hf
  refine lv_iload_n hx hb dX12_say_102 rfl (lv_at hl 2 rfl) ?_
  refine lv_aload_n hx hb dX12_say_103 rfl (lv_at hl 0 rfl) ?_
  refine m_get (v := .int (I 1)) X hw_say hM 1 (by decide) fl_say_1 rfl dX12_say_104 ?_
  refine lv_icmp_ge (tgt := 134) hx hb dX12_say_107 (by decide) (fun cc1 => ?_) (fun cc1 => ?_)
  · replace hf := m_ifT hf cc1
    refine lv_aload_n hx hb dX12_say_134 rfl (lv_at hl 0 rfl) ?_
    refine m_get (v := .ref (h 14)) X hw_say hM 14 (by decide) fl_say_14 rfl dX12_say_135 ?_
    refine lv_iload_n hx hb dX12_say_138 rfl (lv_at hl 1 rfl) ?_
    refine lv_aload_n hx hb dX12_say_139 rfl (lv_at hl 0 rfl) ?_
    refine m_get (v := .int (I 1)) X hw_say hM 1 (by decide) fl_say_1 rfl dX12_say_140 ?_
    obtain ⟨cd, hf⟩ := m_chkE hf
    refine m_iast X hM 14 10 602 rfl ma_14 cd dX12_say_143 (fun H locs hM => ?_)
    clear cd
    obtain ⟨A1, ev, hf⟩ := m_bndE hf
    replace hM := m_hA hM ev
    clear ev
    refine lv_aload_n hx hb dX12_say_144 rfl (lv_at hl 0 rfl) ?_
    refine lv_iconst (v := (0 : Int32)) hx hb dX12_say_145 (by decide) ?_
    refine m_put X hw_say hM 1 (by decide) fl_say_1 mi_1 rfl (tyX12_ok 1 (by decide)) dX12_say_146 (fun H locs hM => ?_)
    obtain ⟨I2, ev, hf⟩ := m_bndE hf
    replace hM := m_hI hM ev
    clear ev
    refine lv_aload_n hx hb dX12_say_149 rfl (lv_at hl 0 rfl) ?_
    refine m_get (v := .ref (h 14)) X hw_say hM 14 (by decide) fl_say_14 rfl dX12_say_150 ?_
    refine lv_iload_n hx hb dX12_say_153 rfl (lv_at hl 1 rfl) ?_
    obtain ⟨cd, hf⟩ := m_chkE hf
    refine m_iald X hM 14 10 602 rfl cd dX12_say_154 ?_
    clear cd
    obtain ⟨v3, ev, hf⟩ := m_bndE hf
    refine m_top ev ?_
    clear ev
    cases hf
    exact hret H locs _ ls hM rfl dX12_say_155
  · replace hf := m_ifF hf cc1
    refine lv_aload_n hx hb dX12_say_110 rfl (lv_at hl 0 rfl) ?_
    refine m_get (v := .ref (h 15)) X hw_say hM 15 (by decide) fl_say_15 rfl dX12_say_111 ?_
    refine lv_sipush (v := (200 : Int32)) hx hb dX12_say_114 (by decide) ?_
    refine lv_iload_n hx hb dX12_say_117 rfl (lv_at hl 1 rfl) ?_
    refine lv_imul hx hb dX12_say_118 ?_
    obtain ⟨v4, ev, hf⟩ := m_bndE hf
    refine m_top ev ?_
    clear ev
    refine lv_iload_n hx hb dX12_say_119 rfl (lv_at hl 2 rfl) ?_
    refine lv_iadd hx hb dX12_say_120 ?_
    obtain ⟨v5, ev, hf⟩ := m_bndE hf
    refine m_top ev ?_
    clear ev
    refine lv_aload_n hx hb dX12_say_121 rfl (lv_at hl 0 rfl) ?_
    refine m_get (v := .ref (h 2)) X hw_say hM 2 (by decide) fl_say_2 rfl dX12_say_122 ?_
    refine lv_iload_n hx hb dX12_say_125 rfl (lv_at hl 2 rfl) ?_
    obtain ⟨cd, hf⟩ := m_chkE hf
    refine m_cald X hM 2 1 2000 rfl cd dX12_say_126 ?_
    clear cd
    obtain ⟨v6, ev, hf⟩ := m_bndE hf
    refine m_top ev ?_
    clear ev
    obtain ⟨cd, hf⟩ := m_chkE hf
    refine m_cast X hM 15 11 120400 rfl ma_15 cd dX12_say_127 (fun H locs hM => ?_)
    clear cd
    obtain ⟨A7, ev, hf⟩ := m_bndE hf
    replace hM := m_hA hM ev
    clear ev
    obtain ⟨v8, ev, hf⟩ := m_bndE hf
    refine lv_iinc (v := v8) (lv' := [(3, .int v8), (0, .ref (h 0)), (2, .int x2)]) hx hb dX12_say_128 hl (k := 2) rfl (by rw [ev]; rfl) (by decide) rfl (fun ls hl => ?_)
    clear ev
    refine lv_goto (tgt := 102) hx hb dX12_say_131 (by decide) ?_
    exact hself102 _ _ _ _ _ _ _ hf hM (lv_sub hl [1, 2, 0] rfl)
noncomputable def f_say_102 : Nat → Int32 → Int32 → (Nat → Int32) → (Nat → Nat → Int32) → Option (Int32 × MS)
  | 0 => fun _ _ _ _ => none
  | n + 1 => f_say_102s (f_say_102 n)
theorem w_say_102 {p : Program} {l : Launch} {e : Env} {s : State} {m : MethodId} {args : Array Value} {below : List Frame} {meth : Method} {c : Code} {Q : State → Prop} {D : va_G} {cy ci : ClassId} {h : Nat → Nat} {A0 : Nat → Prop} {o : Int32 × MS} (X : CallFix p m c cX12_say 4 s args wsX12_say RX12) (hret : mRi p l e ({ frames := 0, cells := 0, slots := 0, locals := 0 } : Room) s m args below meth c Q cX12_say D cy ci h A0 .int o) (n : Nat) : ∀ (x2 : Int32) (x3 : Int32) (I : Nat → Int32) (A : Nat → Nat → Int32) (H : Heap) (locs : List Loc) (ls : Array Slot), f_say_102 n x2 x3 I A = some o → mH D cy ci h A0 s H locs I A → lv_has ls 4 [(0, .ref (h 0)), (2, .int x2), (3, .int x3)] → W p l e ({ frames := 0, cells := 0, slots := 0, locals := 0 } : Room) s m args below meth c H locs 0 0 Q (F0 m 102 ls []) := by
  induction n with
  | zero => intro x2 x3 I A H locs ls hf; cases hf
  | succ n ih => intro x2 x3 I A H locs ls hf hM hl; exact ws_say_102 X hret (self102 := f_say_102 n) ih hf hM hl
noncomputable def f_say_74 (t0 : Int32) (I : Nat → Int32) (A : Nat → Nat → Int32) : Option (Int32 × MS) :=
  m_bnd (upd I 0 t0) (fun I1 =>
  m_if ((I1 0) ≤ 0) (
  m_bnd ((301 : Int32) * (I1 5)) (fun v2 =>
  m_bnd (v2 + (I1 6)) (fun v3 =>
  f_say_102 mFuel v3 (0 : Int32) I1 A))
  ) (
  some ((0 : Int32), (I1, A))
  ))

set_option maxRecDepth 100000 in
set_option maxHeartbeats 4000000 in
theorem w_say_74 {p : Program} {l : Launch} {e : Env} {s : State} {m : MethodId} {args : Array Value} {below : List Frame} {meth : Method} {c : Code} {Q : State → Prop} {D : va_G} {cy ci : ClassId} {h : Nat → Nat} {A0 : Nat → Prop} {o : Int32 × MS} (X : CallFix p m c cX12_say 4 s args wsX12_say RX12) (hret : mRi p l e ({ frames := 0, cells := 0, slots := 0, locals := 0 } : Room) s m args below meth c Q cX12_say D cy ci h A0 .int o) {t0 : Int32} {I : Nat → Int32} {A : Nat → Nat → Int32} {H : Heap} {locs : List Loc} {ls : Array Slot} (hf : f_say_74 t0 I A = some o) (hM : mH D cy ci h A0 s H locs I A) (hl : lv_has ls 4 [(0, .ref (h 0))]) : W p l e ({ frames := 0, cells := 0, slots := 0, locals := 0 } : Room) s m args below meth c H locs 0 0 Q (F0 m 74 ls [.int t0, .ref (h 0)]) := by
  obtain ⟨hx, hb, hml, hown, hts⟩ := id X
  unfold f_say_74 at hf
  refine m_put X hw_say hM 0 (by decide) fl_say_0 mi_0 rfl (tyX12_ok 0 (by decide)) dX12_say_74 (fun H locs hM => ?_)
  obtain ⟨I1, ev, hf⟩ := m_bndE hf
  replace hM := m_hI hM ev
  clear ev
  refine lv_aload_n hx hb dX12_say_77 rfl (lv_at hl 0 rfl) ?_
  refine m_get (v := .int (I1 0)) X hw_say hM 0 (by decide) fl_say_0 rfl dX12_say_78 ?_
  refine lv_if_le (tgt := 86) hx hb dX12_say_81 (by decide) (fun cc1 => ?_) (fun cc1 => ?_)
  · replace hf := m_ifT hf cc1
    refine lv_sipush (v := (301 : Int32)) hx hb dX12_say_86 (by decide) ?_
    refine lv_aload_n hx hb dX12_say_89 rfl (lv_at hl 0 rfl) ?_
    refine m_get (v := .int (I1 5)) X hw_say hM 5 (by decide) fl_say_5 rfl dX12_say_90 ?_
    refine lv_imul hx hb dX12_say_93 ?_
    obtain ⟨v2, ev, hf⟩ := m_bndE hf
    refine m_top ev ?_
    clear ev
    refine lv_aload_n hx hb dX12_say_94 rfl (lv_at hl 0 rfl) ?_
    refine m_get (v := .int (I1 6)) X hw_say hM 6 (by decide) fl_say_6 rfl dX12_say_95 ?_
    refine lv_iadd hx hb dX12_say_98 ?_
    obtain ⟨v3, ev, hf⟩ := m_bndE hf
    refine m_top ev ?_
    clear ev
    refine lv_istore_n (lv' := [(2, .int v3), (0, .ref (h 0))]) hx hb dX12_say_99 rfl hl (by decide) rfl (fun ls hl => ?_)
    refine lv_iconst (v := (0 : Int32)) hx hb dX12_say_100 (by decide) ?_
    refine lv_istore_n (lv' := [(3, .int (0 : Int32)), (2, .int v3), (0, .ref (h 0))]) hx hb dX12_say_101 rfl hl (by decide) rfl (fun ls hl => ?_)
    exact w_say_102 X hret _ _ _ _ _ _ _ _ hf hM (lv_sub hl [2, 1, 0] rfl)
  · replace hf := m_ifF hf cc1
    refine lv_iconst (v := (0 : Int32)) hx hb dX12_say_84 (by decide) ?_
    cases hf
    exact hret H locs _ ls hM rfl dX12_say_85
noncomputable def f_say_57 (self18 : Int32 → Int32 → (Nat → Int32) → (Nat → Nat → Int32) → Option (Int32 × MS)) (x2 : Int32) (t0 : Int32) (I : Nat → Int32) (A : Nat → Nat → Int32) : Option (Int32 × MS) :=
  m_bnd (x2 + (1 : Int32)) (fun v1 =>
  self18 t0 v1 I A)

set_option maxRecDepth 100000 in
set_option maxHeartbeats 4000000 in
theorem w_say_57 {p : Program} {l : Launch} {e : Env} {s : State} {m : MethodId} {args : Array Value} {below : List Frame} {meth : Method} {c : Code} {Q : State → Prop} {D : va_G} {cy ci : ClassId} {h : Nat → Nat} {A0 : Nat → Prop} {o : Int32 × MS} (X : CallFix p m c cX12_say 4 s args wsX12_say RX12) (hret : mRi p l e ({ frames := 0, cells := 0, slots := 0, locals := 0 } : Room) s m args below meth c Q cX12_say D cy ci h A0 .int o) {self18 : Int32 → Int32 → (Nat → Int32) → (Nat → Nat → Int32) → Option (Int32 × MS)} (hself18 : ∀ (x1 : Int32) (x2 : Int32) (I : Nat → Int32) (A : Nat → Nat → Int32) (H : Heap) (locs : List Loc) (ls : Array Slot), self18 x1 x2 I A = some o → mH D cy ci h A0 s H locs I A → lv_has ls 4 [(0, .ref (h 0)), (1, .int x1), (2, .int x2)] → W p l e ({ frames := 0, cells := 0, slots := 0, locals := 0 } : Room) s m args below meth c H locs 0 0 Q (F0 m 18 ls [])) {x2 : Int32} {t0 : Int32} {I : Nat → Int32} {A : Nat → Nat → Int32} {H : Heap} {locs : List Loc} {ls : Array Slot} (hf : f_say_57 self18 x2 t0 I A = some o) (hM : mH D cy ci h A0 s H locs I A) (hl : lv_has ls 4 [(0, .ref (h 0)), (2, .int x2)]) : W p l e ({ frames := 0, cells := 0, slots := 0, locals := 0 } : Room) s m args below meth c H locs 0 0 Q (F0 m 57 ls [.int t0]) := by
  obtain ⟨hx, hb, hml, hown, hts⟩ := id X
  unfold f_say_57 at hf
  refine lv_istore_n (lv' := [(1, .int t0), (0, .ref (h 0)), (2, .int x2)]) hx hb dX12_say_57 rfl hl (by decide) rfl (fun ls hl => ?_)
  obtain ⟨v1, ev, hf⟩ := m_bndE hf
  refine lv_iinc (v := v1) (lv' := [(2, .int v1), (1, .int t0), (0, .ref (h 0))]) hx hb dX12_say_58 hl (k := 2) rfl (by rw [ev]; rfl) (by decide) rfl (fun ls hl => ?_)
  clear ev
  refine lv_goto (tgt := 18) hx hb dX12_say_61 (by decide) ?_
  exact hself18 _ _ _ _ _ _ _ hf hM (lv_sub hl [2, 1, 0] rfl)
noncomputable def f_say_56 (self18 : Int32 → Int32 → (Nat → Int32) → (Nat → Nat → Int32) → Option (Int32 × MS)) (x2 : Int32) (I : Nat → Int32) (A : Nat → Nat → Int32) : Option (Int32 × MS) :=
  f_say_57 self18 x2 (0 : Int32) I A

set_option maxRecDepth 100000 in
set_option maxHeartbeats 4000000 in
theorem w_say_56 {p : Program} {l : Launch} {e : Env} {s : State} {m : MethodId} {args : Array Value} {below : List Frame} {meth : Method} {c : Code} {Q : State → Prop} {D : va_G} {cy ci : ClassId} {h : Nat → Nat} {A0 : Nat → Prop} {o : Int32 × MS} (X : CallFix p m c cX12_say 4 s args wsX12_say RX12) (hret : mRi p l e ({ frames := 0, cells := 0, slots := 0, locals := 0 } : Room) s m args below meth c Q cX12_say D cy ci h A0 .int o) {self18 : Int32 → Int32 → (Nat → Int32) → (Nat → Nat → Int32) → Option (Int32 × MS)} (hself18 : ∀ (x1 : Int32) (x2 : Int32) (I : Nat → Int32) (A : Nat → Nat → Int32) (H : Heap) (locs : List Loc) (ls : Array Slot), self18 x1 x2 I A = some o → mH D cy ci h A0 s H locs I A → lv_has ls 4 [(0, .ref (h 0)), (1, .int x1), (2, .int x2)] → W p l e ({ frames := 0, cells := 0, slots := 0, locals := 0 } : Room) s m args below meth c H locs 0 0 Q (F0 m 18 ls [])) {x2 : Int32} {I : Nat → Int32} {A : Nat → Nat → Int32} {H : Heap} {locs : List Loc} {ls : Array Slot} (hf : f_say_56 self18 x2 I A = some o) (hM : mH D cy ci h A0 s H locs I A) (hl : lv_has ls 4 [(0, .ref (h 0)), (2, .int x2)]) : W p l e ({ frames := 0, cells := 0, slots := 0, locals := 0 } : Room) s m args below meth c H locs 0 0 Q (F0 m 56 ls []) := by
  obtain ⟨hx, hb, hml, hown, hts⟩ := id X
  unfold f_say_56 at hf
  refine lv_iconst (v := (0 : Int32)) hx hb dX12_say_56 (by decide) ?_
  exact w_say_57 X hret hself18 hf hM (lv_sub hl [0, 1] rfl)
noncomputable def f_say_18s (self18 : Int32 → Int32 → (Nat → Int32) → (Nat → Nat → Int32) → Option (Int32 × MS)) (x1 : Int32) (x2 : Int32) (I : Nat → Int32) (A : Nat → Nat → Int32) : Option (Int32 × MS) :=
  m_if ((I 1) ≤ x2) (
  m_if (x1 = 0) (
  f_say_74 (1 : Int32) I A
  ) (
  f_say_74 (0 : Int32) I A
  )
  ) (
  m_if (x1 = 0) (
  f_say_56 self18 x2 I A
  ) (
  m_chk (¬ (x2 < 0 ∨ 2000 ≤ (x2).toNatClampNeg)) (
  m_bnd (A 2 (x2).toNatClampNeg) (fun v1 =>
  m_if (v1 = (125 : Int32)) (
  f_say_56 self18 x2 I A
  ) (
  m_chk (¬ (x2 < 0 ∨ 2000 ≤ (x2).toNatClampNeg)) (
  m_bnd (A 2 (x2).toNatClampNeg) (fun v2 =>
  m_if (v2 = (10 : Int32)) (
  f_say_56 self18 x2 I A
  ) (
  f_say_57 self18 x2 (1 : Int32) I A
  )))
  )))
  )
  )

set_option maxRecDepth 100000 in
set_option maxHeartbeats 4000000 in
theorem ws_say_18 {p : Program} {l : Launch} {e : Env} {s : State} {m : MethodId} {args : Array Value} {below : List Frame} {meth : Method} {c : Code} {Q : State → Prop} {D : va_G} {cy ci : ClassId} {h : Nat → Nat} {A0 : Nat → Prop} {o : Int32 × MS} (X : CallFix p m c cX12_say 4 s args wsX12_say RX12) (hret : mRi p l e ({ frames := 0, cells := 0, slots := 0, locals := 0 } : Room) s m args below meth c Q cX12_say D cy ci h A0 .int o) {self18 : Int32 → Int32 → (Nat → Int32) → (Nat → Nat → Int32) → Option (Int32 × MS)} (hself18 : ∀ (x1 : Int32) (x2 : Int32) (I : Nat → Int32) (A : Nat → Nat → Int32) (H : Heap) (locs : List Loc) (ls : Array Slot), self18 x1 x2 I A = some o → mH D cy ci h A0 s H locs I A → lv_has ls 4 [(0, .ref (h 0)), (1, .int x1), (2, .int x2)] → W p l e ({ frames := 0, cells := 0, slots := 0, locals := 0 } : Room) s m args below meth c H locs 0 0 Q (F0 m 18 ls [])) {x1 : Int32} {x2 : Int32} {I : Nat → Int32} {A : Nat → Nat → Int32} {H : Heap} {locs : List Loc} {ls : Array Slot} (hf : f_say_18s self18 x1 x2 I A = some o) (hM : mH D cy ci h A0 s H locs I A) (hl : lv_has ls 4 [(0, .ref (h 0)), (1, .int x1), (2, .int x2)]) : W p l e ({ frames := 0, cells := 0, slots := 0, locals := 0 } : Room) s m args below meth c H locs 0 0 Q (F0 m 18 ls []) := by
  obtain ⟨hx, hb, hml, hown, hts⟩ := id X
  unfold f_say_18s at hf
  refine lv_iload_n hx hb dX12_say_18 rfl (lv_at hl 2 rfl) ?_
  refine lv_aload_n hx hb dX12_say_19 rfl (lv_at hl 0 rfl) ?_
  refine m_get (v := .int (I 1)) X hw_say hM 1 (by decide) fl_say_1 rfl dX12_say_20 ?_
  refine lv_icmp_ge (tgt := 64) hx hb dX12_say_23 (by decide) (fun cc1 => ?_) (fun cc1 => ?_)
  · replace hf := m_ifT hf cc1
    refine lv_aload_n hx hb dX12_say_64 rfl (lv_at hl 0 rfl) ?_
    refine lv_iload_n hx hb dX12_say_65 rfl (lv_at hl 1 rfl) ?_
    refine lv_if_eq (tgt := 73) hx hb dX12_say_66 (by decide) (fun cc1 => ?_) (fun cc1 => ?_)
    · replace hf := m_ifT hf cc1
      refine lv_iconst (v := (1 : Int32)) hx hb dX12_say_73 (by decide) ?_
      exact w_say_74 X hret hf hM (lv_sub hl [0] rfl)
    · replace hf := m_ifF hf cc1
      refine lv_iconst (v := (0 : Int32)) hx hb dX12_say_69 (by decide) ?_
      refine lv_goto (tgt := 74) hx hb dX12_say_70 (by decide) ?_
      exact w_say_74 X hret hf hM (lv_sub hl [0] rfl)
  · replace hf := m_ifF hf cc1
    refine lv_iload_n hx hb dX12_say_26 rfl (lv_at hl 1 rfl) ?_
    refine lv_if_eq (tgt := 56) hx hb dX12_say_27 (by decide) (fun cc1 => ?_) (fun cc1 => ?_)
    · replace hf := m_ifT hf cc1
      exact w_say_56 X hret hself18 hf hM (lv_sub hl [0, 2] rfl)
    · replace hf := m_ifF hf cc1
      refine lv_aload_n hx hb dX12_say_30 rfl (lv_at hl 0 rfl) ?_
      refine m_get (v := .ref (h 2)) X hw_say hM 2 (by decide) fl_say_2 rfl dX12_say_31 ?_
      refine lv_iload_n hx hb dX12_say_34 rfl (lv_at hl 2 rfl) ?_
      obtain ⟨cd, hf⟩ := m_chkE hf
      refine m_cald X hM 2 1 2000 rfl cd dX12_say_35 ?_
      clear cd
      obtain ⟨v1, ev, hf⟩ := m_bndE hf
      refine m_top ev ?_
      clear ev
      refine lv_bipush (v := (125 : Int32)) hx hb dX12_say_36 (by decide) ?_
      refine lv_icmp_eq (tgt := 56) hx hb dX12_say_38 (by decide) (fun cc1 => ?_) (fun cc1 => ?_)
      · replace hf := m_ifT hf cc1
        exact w_say_56 X hret hself18 hf hM (lv_sub hl [0, 2] rfl)
      · replace hf := m_ifF hf cc1
        refine lv_aload_n hx hb dX12_say_41 rfl (lv_at hl 0 rfl) ?_
        refine m_get (v := .ref (h 2)) X hw_say hM 2 (by decide) fl_say_2 rfl dX12_say_42 ?_
        refine lv_iload_n hx hb dX12_say_45 rfl (lv_at hl 2 rfl) ?_
        obtain ⟨cd, hf⟩ := m_chkE hf
        refine m_cald X hM 2 1 2000 rfl cd dX12_say_46 ?_
        clear cd
        obtain ⟨v2, ev, hf⟩ := m_bndE hf
        refine m_top ev ?_
        clear ev
        refine lv_bipush (v := (10 : Int32)) hx hb dX12_say_47 (by decide) ?_
        refine lv_icmp_eq (tgt := 56) hx hb dX12_say_49 (by decide) (fun cc1 => ?_) (fun cc1 => ?_)
        · replace hf := m_ifT hf cc1
          exact w_say_56 X hret hself18 hf hM (lv_sub hl [0, 2] rfl)
        · replace hf := m_ifF hf cc1
          refine lv_iconst (v := (1 : Int32)) hx hb dX12_say_52 (by decide) ?_
          refine lv_goto (tgt := 57) hx hb dX12_say_53 (by decide) ?_
          exact w_say_57 X hret hself18 hf hM (lv_sub hl [0, 2] rfl)
noncomputable def f_say_18 : Nat → Int32 → Int32 → (Nat → Int32) → (Nat → Nat → Int32) → Option (Int32 × MS)
  | 0 => fun _ _ _ _ => none
  | n + 1 => f_say_18s (f_say_18 n)
theorem w_say_18 {p : Program} {l : Launch} {e : Env} {s : State} {m : MethodId} {args : Array Value} {below : List Frame} {meth : Method} {c : Code} {Q : State → Prop} {D : va_G} {cy ci : ClassId} {h : Nat → Nat} {A0 : Nat → Prop} {o : Int32 × MS} (X : CallFix p m c cX12_say 4 s args wsX12_say RX12) (hret : mRi p l e ({ frames := 0, cells := 0, slots := 0, locals := 0 } : Room) s m args below meth c Q cX12_say D cy ci h A0 .int o) (n : Nat) : ∀ (x1 : Int32) (x2 : Int32) (I : Nat → Int32) (A : Nat → Nat → Int32) (H : Heap) (locs : List Loc) (ls : Array Slot), f_say_18 n x1 x2 I A = some o → mH D cy ci h A0 s H locs I A → lv_has ls 4 [(0, .ref (h 0)), (1, .int x1), (2, .int x2)] → W p l e ({ frames := 0, cells := 0, slots := 0, locals := 0 } : Room) s m args below meth c H locs 0 0 Q (F0 m 18 ls []) := by
  induction n with
  | zero => intro x1 x2 I A H locs ls hf; cases hf
  | succ n ih => intro x1 x2 I A H locs ls hf hM hl; exact ws_say_18 X hret (self18 := f_say_18 n) ih hf hM hl
noncomputable def f_say_15 (t0 : Int32) (I : Nat → Int32) (A : Nat → Nat → Int32) : Option (Int32 × MS) :=
  f_say_18 mFuel t0 (0 : Int32) I A

set_option maxRecDepth 100000 in
set_option maxHeartbeats 4000000 in
theorem w_say_15 {p : Program} {l : Launch} {e : Env} {s : State} {m : MethodId} {args : Array Value} {below : List Frame} {meth : Method} {c : Code} {Q : State → Prop} {D : va_G} {cy ci : ClassId} {h : Nat → Nat} {A0 : Nat → Prop} {o : Int32 × MS} (X : CallFix p m c cX12_say 4 s args wsX12_say RX12) (hret : mRi p l e ({ frames := 0, cells := 0, slots := 0, locals := 0 } : Room) s m args below meth c Q cX12_say D cy ci h A0 .int o) {t0 : Int32} {I : Nat → Int32} {A : Nat → Nat → Int32} {H : Heap} {locs : List Loc} {ls : Array Slot} (hf : f_say_15 t0 I A = some o) (hM : mH D cy ci h A0 s H locs I A) (hl : lv_has ls 4 [(0, .ref (h 0))]) : W p l e ({ frames := 0, cells := 0, slots := 0, locals := 0 } : Room) s m args below meth c H locs 0 0 Q (F0 m 15 ls [.int t0]) := by
  obtain ⟨hx, hb, hml, hown, hts⟩ := id X
  unfold f_say_15 at hf
  refine lv_istore_n (lv' := [(1, .int t0), (0, .ref (h 0))]) hx hb dX12_say_15 rfl hl (by decide) rfl (fun ls hl => ?_)
  refine lv_iconst (v := (0 : Int32)) hx hb dX12_say_16 (by decide) ?_
  refine lv_istore_n (lv' := [(2, .int (0 : Int32)), (1, .int t0), (0, .ref (h 0))]) hx hb dX12_say_17 rfl hl (by decide) rfl (fun ls hl => ?_)
  exact w_say_18 X hret _ _ _ _ _ _ _ _ hf hM (lv_sub hl [2, 1, 0] rfl)
noncomputable def f_say_0 (I : Nat → Int32) (A : Nat → Nat → Int32) : Option (Int32 × MS) :=
  m_if ((200 : Int32) < (I 1)) (
  f_say_15 (0 : Int32) I A
  ) (
  f_say_15 (1 : Int32) I A
  )

set_option maxRecDepth 100000 in
set_option maxHeartbeats 4000000 in
theorem w_say_0 {p : Program} {l : Launch} {e : Env} {s : State} {m : MethodId} {args : Array Value} {below : List Frame} {meth : Method} {c : Code} {Q : State → Prop} {D : va_G} {cy ci : ClassId} {h : Nat → Nat} {A0 : Nat → Prop} {o : Int32 × MS} (X : CallFix p m c cX12_say 4 s args wsX12_say RX12) (hret : mRi p l e ({ frames := 0, cells := 0, slots := 0, locals := 0 } : Room) s m args below meth c Q cX12_say D cy ci h A0 .int o) {I : Nat → Int32} {A : Nat → Nat → Int32} {H : Heap} {locs : List Loc} {ls : Array Slot} (hf : f_say_0  I A = some o) (hM : mH D cy ci h A0 s H locs I A) (hl : lv_has ls 4 [(0, .ref (h 0))]) : W p l e ({ frames := 0, cells := 0, slots := 0, locals := 0 } : Room) s m args below meth c H locs 0 0 Q (F0 m 0 ls []) := by
  obtain ⟨hx, hb, hml, hown, hts⟩ := id X
  unfold f_say_0 at hf
  refine lv_aload_n hx hb dX12_say_0 rfl (lv_at hl 0 rfl) ?_
  refine m_get (v := .int (I 1)) X hw_say hM 1 (by decide) fl_say_1 rfl dX12_say_1 ?_
  refine lv_sipush (v := (200 : Int32)) hx hb dX12_say_4 (by decide) ?_
  refine lv_icmp_gt (tgt := 14) hx hb dX12_say_7 (by decide) (fun cc1 => ?_) (fun cc1 => ?_)
  · replace hf := m_ifT hf cc1
    refine lv_iconst (v := (0 : Int32)) hx hb dX12_say_14 (by decide) ?_
    exact w_say_15 X hret hf hM (lv_sub hl [0] rfl)
  · replace hf := m_ifF hf cc1
    refine lv_iconst (v := (1 : Int32)) hx hb dX12_say_10 (by decide) ?_
    refine lv_goto (tgt := 15) hx hb dX12_say_11 (by decide) ?_
    exact w_say_15 X hret hf hM (lv_sub hl [0] rfl)
noncomputable def f_say (I : Nat → Int32) (A : Nat → Nat → Int32) : Option (Int32 × MS) := f_say_0  I A
theorem c_say {l : Launch} {D : va_G} {cy ci : ClassId} {h : Nat → Nat} {I : Nat → Int32} {A : Nat → Nat → Int32} {o : Int32 × MS} (hf : f_say  I A = some o) : mMi l yX12_say wsX12_say ({ frames := 0, cells := 0, slots := 0, locals := 0 } : Room) [.ref (h 0)] D cy ci h I A o :=
  m_entryI (cc := cX12_say) (maxL := 4) (by decide) rfl rfl (Nat.le_of_ble_eq_true rfl) (fun p e s m args below meth c A0 Q H locs ls X hret hM hl => w_say_0 X hret hf hM (lv_sub hl [0] rfl))
theorem hw_isBehind : ∀ w ∈ wsX120, w ∈ wsX12_isBehind := by decide +kernel
theorem fl_isBehind_5 : Cond.fieldLink RX12 347 "MoveTextsModel" "game" "I" ∈ wsX12_isBehind := by decide +kernel
theorem fl_isBehind_8 : Cond.fieldLink RX12 21 "MoveTextsModel" "parent" "[I" ∈ wsX12_isBehind := by decide +kernel
theorem hd_isBehind : yX12_isBehind.cls = RX12 ∧ yX12_isBehind.cls ≠ "java/lang/invoke/MethodHandle" ∧ yX12_isBehind.cls ≠ "java/lang/invoke/VarHandle" ∧ (parseMethodDescriptor yX12_isBehind.desc).map (fun d => d.parameters.length) = some 2 := by decide +kernel
noncomputable def f_isBehind_36 (t0 : Int32) (I : Nat → Int32) (A : Nat → Nat → Int32) : Option (Int32 × MS) :=
  m_chk (vp_nar .boolean t0 = t0) (some (t0, (I, A)))

set_option maxRecDepth 100000 in
set_option maxHeartbeats 4000000 in
theorem w_isBehind_36 {p : Program} {l : Launch} {e : Env} {s : State} {m : MethodId} {args : Array Value} {below : List Frame} {meth : Method} {c : Code} {Q : State → Prop} {D : va_G} {cy ci : ClassId} {h : Nat → Nat} {A0 : Nat → Prop} {o : Int32 × MS} (X : CallFix p m c cX12_isBehind 4 s args wsX12_isBehind RX12) (hret : mRi p l e ({ frames := 0, cells := 0, slots := 0, locals := 0 } : Room) s m args below meth c Q cX12_isBehind D cy ci h A0 .boolean o) {t0 : Int32} {I : Nat → Int32} {A : Nat → Nat → Int32} {H : Heap} {locs : List Loc} {ls : Array Slot} (hf : f_isBehind_36 t0 I A = some o) (hM : mH D cy ci h A0 s H locs I A) (hl : lv_has ls 4 []) : W p l e ({ frames := 0, cells := 0, slots := 0, locals := 0 } : Room) s m args below meth c H locs 0 0 Q (F0 m 36 ls [.int t0]) := by
  obtain ⟨hx, hb, hml, hown, hts⟩ := id X
  unfold f_isBehind_36 at hf
  obtain ⟨cd, hf⟩ := m_chkE hf
  cases hf
  exact hret H locs _ ls hM (m_nb cd) dX12_isBehind_36
noncomputable def f_isBehind_2s (self2 : Int32 → Int32 → (Nat → Int32) → (Nat → Nat → Int32) → Option (Int32 × MS)) (x2 : Int32) (x3 : Int32) (I : Nat → Int32) (A : Nat → Nat → Int32) : Option (Int32 × MS) :=
  m_if (x3 ≤ x2) (
  m_if (x3 = x2) (
  f_isBehind_36 (1 : Int32) I A
  ) (
  f_isBehind_36 (0 : Int32) I A
  )
  ) (
  m_bnd ((301 : Int32) * (I 5)) (fun v1 =>
  m_bnd (v1 + x3) (fun v2 =>
  m_chk (¬ (v2 < 0 ∨ 602 ≤ (v2).toNatClampNeg)) (
  m_bnd (A 8 (v2).toNatClampNeg) (fun v3 =>
  self2 x2 v3 I A))))
  )

set_option maxRecDepth 100000 in
set_option maxHeartbeats 4000000 in
theorem ws_isBehind_2 {p : Program} {l : Launch} {e : Env} {s : State} {m : MethodId} {args : Array Value} {below : List Frame} {meth : Method} {c : Code} {Q : State → Prop} {D : va_G} {cy ci : ClassId} {h : Nat → Nat} {A0 : Nat → Prop} {o : Int32 × MS} (X : CallFix p m c cX12_isBehind 4 s args wsX12_isBehind RX12) (hret : mRi p l e ({ frames := 0, cells := 0, slots := 0, locals := 0 } : Room) s m args below meth c Q cX12_isBehind D cy ci h A0 .boolean o) {self2 : Int32 → Int32 → (Nat → Int32) → (Nat → Nat → Int32) → Option (Int32 × MS)} (hself2 : ∀ (x2 : Int32) (x3 : Int32) (I : Nat → Int32) (A : Nat → Nat → Int32) (H : Heap) (locs : List Loc) (ls : Array Slot), self2 x2 x3 I A = some o → mH D cy ci h A0 s H locs I A → lv_has ls 4 [(0, .ref (h 0)), (2, .int x2), (3, .int x3)] → W p l e ({ frames := 0, cells := 0, slots := 0, locals := 0 } : Room) s m args below meth c H locs 0 0 Q (F0 m 2 ls [])) {x2 : Int32} {x3 : Int32} {I : Nat → Int32} {A : Nat → Nat → Int32} {H : Heap} {locs : List Loc} {ls : Array Slot} (hf : f_isBehind_2s self2 x2 x3 I A = some o) (hM : mH D cy ci h A0 s H locs I A) (hl : lv_has ls 4 [(0, .ref (h 0)), (2, .int x2), (3, .int x3)]) : W p l e ({ frames := 0, cells := 0, slots := 0, locals := 0 } : Room) s m args below meth c H locs 0 0 Q (F0 m 2 ls []) := by
  obtain ⟨hx, hb, hml, hown, hts⟩ := id X
  unfold f_isBehind_2s at hf
  refine lv_iload_n hx hb dX12_isBehind_2 rfl (lv_at hl 2 rfl) ?_
  refine lv_iload_n hx hb dX12_isBehind_3 rfl (lv_at hl 1 rfl) ?_
  refine lv_icmp_le (tgt := 26) hx hb dX12_isBehind_4 (by decide) (fun cc1 => ?_) (fun cc1 => ?_)
  · replace hf := m_ifT hf cc1
    refine lv_iload_n hx hb dX12_isBehind_26 rfl (lv_at hl 2 rfl) ?_
    refine lv_iload_n hx hb dX12_isBehind_27 rfl (lv_at hl 1 rfl) ?_
    refine lv_icmp_ne (tgt := 35) hx hb dX12_isBehind_28 (by decide) (fun cc1 => ?_) (fun cc1 => ?_)
    · replace hf := m_ifF hf cc1
      refine lv_iconst (v := (0 : Int32)) hx hb dX12_isBehind_35 (by decide) ?_
      exact w_isBehind_36 X hret hf hM (lv_sub hl [] rfl)
    · replace hf := m_ifT hf cc1
      refine lv_iconst (v := (1 : Int32)) hx hb dX12_isBehind_31 (by decide) ?_
      refine lv_goto (tgt := 36) hx hb dX12_isBehind_32 (by decide) ?_
      exact w_isBehind_36 X hret hf hM (lv_sub hl [] rfl)
  · replace hf := m_ifF hf cc1
    refine lv_aload_n hx hb dX12_isBehind_7 rfl (lv_at hl 0 rfl) ?_
    refine m_get (v := .ref (h 8)) X hw_isBehind hM 8 (by decide) fl_isBehind_8 rfl dX12_isBehind_8 ?_
    refine lv_sipush (v := (301 : Int32)) hx hb dX12_isBehind_11 (by decide) ?_
    refine lv_aload_n hx hb dX12_isBehind_14 rfl (lv_at hl 0 rfl) ?_
    refine m_get (v := .int (I 5)) X hw_isBehind hM 5 (by decide) fl_isBehind_5 rfl dX12_isBehind_15 ?_
    refine lv_imul hx hb dX12_isBehind_18 ?_
    obtain ⟨v1, ev, hf⟩ := m_bndE hf
    refine m_top ev ?_
    clear ev
    refine lv_iload_n hx hb dX12_isBehind_19 rfl (lv_at hl 2 rfl) ?_
    refine lv_iadd hx hb dX12_isBehind_20 ?_
    obtain ⟨v2, ev, hf⟩ := m_bndE hf
    refine m_top ev ?_
    clear ev
    obtain ⟨cd, hf⟩ := m_chkE hf
    refine m_iald X hM 8 4 602 rfl cd dX12_isBehind_21 ?_
    clear cd
    obtain ⟨v3, ev, hf⟩ := m_bndE hf
    refine m_top ev ?_
    clear ev
    refine lv_istore_n (lv' := [(3, .int v3), (0, .ref (h 0)), (2, .int x2)]) hx hb dX12_isBehind_22 rfl hl (by decide) rfl (fun ls hl => ?_)
    refine lv_goto (tgt := 2) hx hb dX12_isBehind_23 (by decide) ?_
    exact hself2 _ _ _ _ _ _ _ hf hM (lv_sub hl [1, 2, 0] rfl)
noncomputable def f_isBehind_2 : Nat → Int32 → Int32 → (Nat → Int32) → (Nat → Nat → Int32) → Option (Int32 × MS)
  | 0 => fun _ _ _ _ => none
  | n + 1 => f_isBehind_2s (f_isBehind_2 n)
theorem w_isBehind_2 {p : Program} {l : Launch} {e : Env} {s : State} {m : MethodId} {args : Array Value} {below : List Frame} {meth : Method} {c : Code} {Q : State → Prop} {D : va_G} {cy ci : ClassId} {h : Nat → Nat} {A0 : Nat → Prop} {o : Int32 × MS} (X : CallFix p m c cX12_isBehind 4 s args wsX12_isBehind RX12) (hret : mRi p l e ({ frames := 0, cells := 0, slots := 0, locals := 0 } : Room) s m args below meth c Q cX12_isBehind D cy ci h A0 .boolean o) (n : Nat) : ∀ (x2 : Int32) (x3 : Int32) (I : Nat → Int32) (A : Nat → Nat → Int32) (H : Heap) (locs : List Loc) (ls : Array Slot), f_isBehind_2 n x2 x3 I A = some o → mH D cy ci h A0 s H locs I A → lv_has ls 4 [(0, .ref (h 0)), (2, .int x2), (3, .int x3)] → W p l e ({ frames := 0, cells := 0, slots := 0, locals := 0 } : Room) s m args below meth c H locs 0 0 Q (F0 m 2 ls []) := by
  induction n with
  | zero => intro x2 x3 I A H locs ls hf; cases hf
  | succ n ih => intro x2 x3 I A H locs ls hf hM hl; exact ws_isBehind_2 X hret (self2 := f_isBehind_2 n) ih hf hM hl
noncomputable def f_isBehind_0 (x1 : Int32) (x2 : Int32) (I : Nat → Int32) (A : Nat → Nat → Int32) : Option (Int32 × MS) :=
  f_isBehind_2 mFuel x2 x1 I A

set_option maxRecDepth 100000 in
set_option maxHeartbeats 4000000 in
theorem w_isBehind_0 {p : Program} {l : Launch} {e : Env} {s : State} {m : MethodId} {args : Array Value} {below : List Frame} {meth : Method} {c : Code} {Q : State → Prop} {D : va_G} {cy ci : ClassId} {h : Nat → Nat} {A0 : Nat → Prop} {o : Int32 × MS} (X : CallFix p m c cX12_isBehind 4 s args wsX12_isBehind RX12) (hret : mRi p l e ({ frames := 0, cells := 0, slots := 0, locals := 0 } : Room) s m args below meth c Q cX12_isBehind D cy ci h A0 .boolean o) {x1 : Int32} {x2 : Int32} {I : Nat → Int32} {A : Nat → Nat → Int32} {H : Heap} {locs : List Loc} {ls : Array Slot} (hf : f_isBehind_0 x1 x2 I A = some o) (hM : mH D cy ci h A0 s H locs I A) (hl : lv_has ls 4 [(0, .ref (h 0)), (1, .int x1), (2, .int x2)]) : W p l e ({ frames := 0, cells := 0, slots := 0, locals := 0 } : Room) s m args below meth c H locs 0 0 Q (F0 m 0 ls []) := by
  obtain ⟨hx, hb, hml, hown, hts⟩ := id X
  unfold f_isBehind_0 at hf
  refine lv_iload_n hx hb dX12_isBehind_0 rfl (lv_at hl 1 rfl) ?_
  refine lv_istore_n (lv' := [(3, .int x1), (0, .ref (h 0)), (1, .int x1), (2, .int x2)]) hx hb dX12_isBehind_1 rfl hl (by decide) rfl (fun ls hl => ?_)
  exact w_isBehind_2 X hret _ _ _ _ _ _ _ _ hf hM (lv_sub hl [1, 3, 0] rfl)
noncomputable def f_isBehind (x1 : Int32) (x2 : Int32) (I : Nat → Int32) (A : Nat → Nat → Int32) : Option (Int32 × MS) := f_isBehind_0 x1 x2 I A
theorem c_isBehind {l : Launch} {D : va_G} {cy ci : ClassId} {h : Nat → Nat} {x1 : Int32} {x2 : Int32} {I : Nat → Int32} {A : Nat → Nat → Int32} {o : Int32 × MS} (hf : f_isBehind x1 x2 I A = some o) : mMi l yX12_isBehind wsX12_isBehind ({ frames := 0, cells := 0, slots := 0, locals := 0 } : Room) [.ref (h 0), .int x1, .int x2] D cy ci h I A o :=
  m_entryI (cc := cX12_isBehind) (maxL := 4) (by decide) rfl rfl (Nat.le_of_ble_eq_true rfl) (fun p e s m args below meth c A0 Q H locs ls X hret hM hl => w_isBehind_0 X hret hf hM (lv_sub hl [0, 1, 2] rfl))
theorem hw_lead : ∀ w ∈ wsX120, w ∈ wsX12_lead := by decide +kernel
theorem fl_lead_0 : Cond.fieldLink RX12 99 "MoveTextsModel" "thrown" "I" ∈ wsX12_lead := by decide +kernel
theorem fl_lead_5 : Cond.fieldLink RX12 347 "MoveTextsModel" "game" "I" ∈ wsX12_lead := by decide +kernel
theorem fl_lead_6 : Cond.fieldLink RX12 353 "MoveTextsModel" "here" "I" ∈ wsX12_lead := by decide +kernel
theorem fl_lead_7 : Cond.fieldLink RX12 17 "MoveTextsModel" "count" "[I" ∈ wsX12_lead := by decide +kernel
theorem fl_lead_8 : Cond.fieldLink RX12 21 "MoveTextsModel" "parent" "[I" ∈ wsX12_lead := by decide +kernel
theorem fl_lead_10 : Cond.fieldLink RX12 27 "MoveTextsModel" "child" "[I" ∈ wsX12_lead := by decide +kernel
theorem fl_lead_11 : Cond.fieldLink RX12 30 "MoveTextsModel" "next" "[I" ∈ wsX12_lead := by decide +kernel
theorem hd_lead : yX12_lead.cls = RX12 ∧ yX12_lead.cls ≠ "java/lang/invoke/MethodHandle" ∧ yX12_lead.cls ≠ "java/lang/invoke/VarHandle" ∧ (parseMethodDescriptor yX12_lead.desc).map (fun d => d.parameters.length) = some 0 := by decide +kernel
noncomputable def f_lead_123s (self123 : Int32 → Int32 → Int32 → (Nat → Int32) → (Nat → Nat → Int32) → Option (Int32 × MS)) (x1 : Int32) (x2 : Int32) (x3 : Int32) (I : Nat → Int32) (A : Nat → Nat → Int32) : Option (Int32 × MS) :=
  m_bnd ((301 : Int32) * (I 5)) (fun v1 =>
  m_bnd (v1 + x3) (fun v2 =>
  m_chk (¬ (v2 < 0 ∨ 602 ≤ (v2).toNatClampNeg)) (
  m_bnd (A 11 (v2).toNatClampNeg) (fun v3 =>
  m_if (v3 = (I 6)) (
  m_bnd ((301 : Int32) * (I 5)) (fun v4 =>
  m_bnd (v4 + x3) (fun v5 =>
  m_bnd ((301 : Int32) * (I 5)) (fun v6 =>
  m_bnd (v6 + (I 6)) (fun v7 =>
  m_chk (¬ (v7 < 0 ∨ 602 ≤ (v7).toNatClampNeg)) (
  m_bnd (A 11 (v7).toNatClampNeg) (fun v8 =>
  m_chk (¬ (v5 < 0 ∨ 602 ≤ (v5).toNatClampNeg)) (
  m_bnd (va_up A 11 (upd (A 11) (v5).toNatClampNeg v8)) (fun A9 =>
  m_bnd ((301 : Int32) * (I 5)) (fun v10 =>
  m_bnd (v10 + (I 6)) (fun v11 =>
  m_chk (¬ (v11 < 0 ∨ 602 ≤ (v11).toNatClampNeg)) (
  m_bnd (va_up A9 11 (upd (A9 11) (v11).toNatClampNeg x2)) (fun A12 =>
  m_bnd ((301 : Int32) * (I 5)) (fun v13 =>
  m_bnd (v13 + x1) (fun v14 =>
  m_chk (¬ (v14 < 0 ∨ 602 ≤ (v14).toNatClampNeg)) (
  m_bnd (va_up A12 10 (upd (A12 10) (v14).toNatClampNeg (I 6))) (fun A15 =>
  m_chk (vp_nar .boolean (1 : Int32) = (1 : Int32)) (some ((1 : Int32), (I, A15)))))))))))))))))))
  ) (
  m_bnd ((301 : Int32) * (I 5)) (fun v16 =>
  m_bnd (v16 + x3) (fun v17 =>
  m_chk (¬ (v17 < 0 ∨ 602 ≤ (v17).toNatClampNeg)) (
  m_bnd (A 11 (v17).toNatClampNeg) (fun v18 =>
  self123 x1 x2 v18 I A))))
  )))))

set_option maxRecDepth 100000 in
set_option maxHeartbeats 4000000 in
theorem ws_lead_123 {p : Program} {l : Launch} {e : Env} {s : State} {m : MethodId} {args : Array Value} {below : List Frame} {meth : Method} {c : Code} {Q : State → Prop} {D : va_G} {cy ci : ClassId} {h : Nat → Nat} {A0 : Nat → Prop} {o : Int32 × MS} (X : CallFix p m c cX12_lead 4 s args wsX12_lead RX12) (hret : mRi p l e ({ frames := 2, cells := 0, slots := 0, locals := 46 } : Room) s m args below meth c Q cX12_lead D cy ci h A0 .boolean o) {self123 : Int32 → Int32 → Int32 → (Nat → Int32) → (Nat → Nat → Int32) → Option (Int32 × MS)} (hself123 : ∀ (x1 : Int32) (x2 : Int32) (x3 : Int32) (I : Nat → Int32) (A : Nat → Nat → Int32) (H : Heap) (locs : List Loc) (ls : Array Slot), self123 x1 x2 x3 I A = some o → mH D cy ci h A0 s H locs I A → lv_has ls 4 [(0, .ref (h 0)), (1, .int x1), (2, .int x2), (3, .int x3)] → W p l e ({ frames := 2, cells := 0, slots := 0, locals := 46 } : Room) s m args below meth c H locs 0 0 Q (F0 m 123 ls [])) {x1 : Int32} {x2 : Int32} {x3 : Int32} {I : Nat → Int32} {A : Nat → Nat → Int32} {H : Heap} {locs : List Loc} {ls : Array Slot} (hf : f_lead_123s self123 x1 x2 x3 I A = some o) (hM : mH D cy ci h A0 s H locs I A) (hl : lv_has ls 4 [(0, .ref (h 0)), (1, .int x1), (2, .int x2), (3, .int x3)]) : W p l e ({ frames := 2, cells := 0, slots := 0, locals := 46 } : Room) s m args below meth c H locs 0 0 Q (F0 m 123 ls []) := by
  obtain ⟨hx, hb, hml, hown, hts⟩ := id X
  unfold f_lead_123s at hf
  refine lv_aload_n hx hb dX12_lead_123 rfl (lv_at hl 0 rfl) ?_
  refine m_get (v := .ref (h 11)) X hw_lead hM 11 (by decide) fl_lead_11 rfl dX12_lead_124 ?_
  refine lv_sipush (v := (301 : Int32)) hx hb dX12_lead_127 (by decide) ?_
  refine lv_aload_n hx hb dX12_lead_130 rfl (lv_at hl 0 rfl) ?_
  refine m_get (v := .int (I 5)) X hw_lead hM 5 (by decide) fl_lead_5 rfl dX12_lead_131 ?_
  refine lv_imul hx hb dX12_lead_134 ?_
  obtain ⟨v1, ev, hf⟩ := m_bndE hf
  refine m_top ev ?_
  clear ev
  refine lv_iload_n hx hb dX12_lead_135 rfl (lv_at hl 3 rfl) ?_
  refine lv_iadd hx hb dX12_lead_136 ?_
  obtain ⟨v2, ev, hf⟩ := m_bndE hf
  refine m_top ev ?_
  clear ev
  obtain ⟨cd, hf⟩ := m_chkE hf
  refine m_iald X hM 11 7 602 rfl cd dX12_lead_137 ?_
  clear cd
  obtain ⟨v3, ev, hf⟩ := m_bndE hf
  refine m_top ev ?_
  clear ev
  refine lv_aload_n hx hb dX12_lead_138 rfl (lv_at hl 0 rfl) ?_
  refine m_get (v := .int (I 6)) X hw_lead hM 6 (by decide) fl_lead_6 rfl dX12_lead_139 ?_
  refine lv_icmp_eq (tgt := 164) hx hb dX12_lead_142 (by decide) (fun cc1 => ?_) (fun cc1 => ?_)
  · replace hf := m_ifT hf cc1
    refine lv_aload_n hx hb dX12_lead_164 rfl (lv_at hl 0 rfl) ?_
    refine m_get (v := .ref (h 11)) X hw_lead hM 11 (by decide) fl_lead_11 rfl dX12_lead_165 ?_
    refine lv_sipush (v := (301 : Int32)) hx hb dX12_lead_168 (by decide) ?_
    refine lv_aload_n hx hb dX12_lead_171 rfl (lv_at hl 0 rfl) ?_
    refine m_get (v := .int (I 5)) X hw_lead hM 5 (by decide) fl_lead_5 rfl dX12_lead_172 ?_
    refine lv_imul hx hb dX12_lead_175 ?_
    obtain ⟨v4, ev, hf⟩ := m_bndE hf
    refine m_top ev ?_
    clear ev
    refine lv_iload_n hx hb dX12_lead_176 rfl (lv_at hl 3 rfl) ?_
    refine lv_iadd hx hb dX12_lead_177 ?_
    obtain ⟨v5, ev, hf⟩ := m_bndE hf
    refine m_top ev ?_
    clear ev
    refine lv_aload_n hx hb dX12_lead_178 rfl (lv_at hl 0 rfl) ?_
    refine m_get (v := .ref (h 11)) X hw_lead hM 11 (by decide) fl_lead_11 rfl dX12_lead_179 ?_
    refine lv_sipush (v := (301 : Int32)) hx hb dX12_lead_182 (by decide) ?_
    refine lv_aload_n hx hb dX12_lead_185 rfl (lv_at hl 0 rfl) ?_
    refine m_get (v := .int (I 5)) X hw_lead hM 5 (by decide) fl_lead_5 rfl dX12_lead_186 ?_
    refine lv_imul hx hb dX12_lead_189 ?_
    obtain ⟨v6, ev, hf⟩ := m_bndE hf
    refine m_top ev ?_
    clear ev
    refine lv_aload_n hx hb dX12_lead_190 rfl (lv_at hl 0 rfl) ?_
    refine m_get (v := .int (I 6)) X hw_lead hM 6 (by decide) fl_lead_6 rfl dX12_lead_191 ?_
    refine lv_iadd hx hb dX12_lead_194 ?_
    obtain ⟨v7, ev, hf⟩ := m_bndE hf
    refine m_top ev ?_
    clear ev
    obtain ⟨cd, hf⟩ := m_chkE hf
    refine m_iald X hM 11 7 602 rfl cd dX12_lead_195 ?_
    clear cd
    obtain ⟨v8, ev, hf⟩ := m_bndE hf
    refine m_top ev ?_
    clear ev
    obtain ⟨cd, hf⟩ := m_chkE hf
    refine m_iast X hM 11 7 602 rfl ma_11 cd dX12_lead_196 (fun H locs hM => ?_)
    clear cd
    obtain ⟨A9, ev, hf⟩ := m_bndE hf
    replace hM := m_hA hM ev
    clear ev
    refine lv_aload_n hx hb dX12_lead_197 rfl (lv_at hl 0 rfl) ?_
    refine m_get (v := .ref (h 11)) X hw_lead hM 11 (by decide) fl_lead_11 rfl dX12_lead_198 ?_
    refine lv_sipush (v := (301 : Int32)) hx hb dX12_lead_201 (by decide) ?_
    refine lv_aload_n hx hb dX12_lead_204 rfl (lv_at hl 0 rfl) ?_
    refine m_get (v := .int (I 5)) X hw_lead hM 5 (by decide) fl_lead_5 rfl dX12_lead_205 ?_
    refine lv_imul hx hb dX12_lead_208 ?_
    obtain ⟨v10, ev, hf⟩ := m_bndE hf
    refine m_top ev ?_
    clear ev
    refine lv_aload_n hx hb dX12_lead_209 rfl (lv_at hl 0 rfl) ?_
    refine m_get (v := .int (I 6)) X hw_lead hM 6 (by decide) fl_lead_6 rfl dX12_lead_210 ?_
    refine lv_iadd hx hb dX12_lead_213 ?_
    obtain ⟨v11, ev, hf⟩ := m_bndE hf
    refine m_top ev ?_
    clear ev
    refine lv_iload_n hx hb dX12_lead_214 rfl (lv_at hl 2 rfl) ?_
    obtain ⟨cd, hf⟩ := m_chkE hf
    refine m_iast X hM 11 7 602 rfl ma_11 cd dX12_lead_215 (fun H locs hM => ?_)
    clear cd
    obtain ⟨A12, ev, hf⟩ := m_bndE hf
    replace hM := m_hA hM ev
    clear ev
    refine lv_aload_n hx hb dX12_lead_216 rfl (lv_at hl 0 rfl) ?_
    refine m_get (v := .ref (h 10)) X hw_lead hM 10 (by decide) fl_lead_10 rfl dX12_lead_217 ?_
    refine lv_sipush (v := (301 : Int32)) hx hb dX12_lead_220 (by decide) ?_
    refine lv_aload_n hx hb dX12_lead_223 rfl (lv_at hl 0 rfl) ?_
    refine m_get (v := .int (I 5)) X hw_lead hM 5 (by decide) fl_lead_5 rfl dX12_lead_224 ?_
    refine lv_imul hx hb dX12_lead_227 ?_
    obtain ⟨v13, ev, hf⟩ := m_bndE hf
    refine m_top ev ?_
    clear ev
    refine lv_iload_n hx hb dX12_lead_228 rfl (lv_at hl 1 rfl) ?_
    refine lv_iadd hx hb dX12_lead_229 ?_
    obtain ⟨v14, ev, hf⟩ := m_bndE hf
    refine m_top ev ?_
    clear ev
    refine lv_aload_n hx hb dX12_lead_230 rfl (lv_at hl 0 rfl) ?_
    refine m_get (v := .int (I 6)) X hw_lead hM 6 (by decide) fl_lead_6 rfl dX12_lead_231 ?_
    obtain ⟨cd, hf⟩ := m_chkE hf
    refine m_iast X hM 10 6 602 rfl ma_10 cd dX12_lead_234 (fun H locs hM => ?_)
    clear cd
    obtain ⟨A15, ev, hf⟩ := m_bndE hf
    replace hM := m_hA hM ev
    clear ev
    refine lv_iconst (v := (1 : Int32)) hx hb dX12_lead_235 (by decide) ?_
    obtain ⟨cd, hf⟩ := m_chkE hf
    cases hf
    exact hret H locs _ ls hM (m_nb cd) dX12_lead_236
  · replace hf := m_ifF hf cc1
    refine lv_aload_n hx hb dX12_lead_145 rfl (lv_at hl 0 rfl) ?_
    refine m_get (v := .ref (h 11)) X hw_lead hM 11 (by decide) fl_lead_11 rfl dX12_lead_146 ?_
    refine lv_sipush (v := (301 : Int32)) hx hb dX12_lead_149 (by decide) ?_
    refine lv_aload_n hx hb dX12_lead_152 rfl (lv_at hl 0 rfl) ?_
    refine m_get (v := .int (I 5)) X hw_lead hM 5 (by decide) fl_lead_5 rfl dX12_lead_153 ?_
    refine lv_imul hx hb dX12_lead_156 ?_
    obtain ⟨v16, ev, hf⟩ := m_bndE hf
    refine m_top ev ?_
    clear ev
    refine lv_iload_n hx hb dX12_lead_157 rfl (lv_at hl 3 rfl) ?_
    refine lv_iadd hx hb dX12_lead_158 ?_
    obtain ⟨v17, ev, hf⟩ := m_bndE hf
    refine m_top ev ?_
    clear ev
    obtain ⟨cd, hf⟩ := m_chkE hf
    refine m_iald X hM 11 7 602 rfl cd dX12_lead_159 ?_
    clear cd
    obtain ⟨v18, ev, hf⟩ := m_bndE hf
    refine m_top ev ?_
    clear ev
    refine lv_istore_n (lv' := [(3, .int v18), (0, .ref (h 0)), (1, .int x1), (2, .int x2)]) hx hb dX12_lead_160 rfl hl (by decide) rfl (fun ls hl => ?_)
    refine lv_goto (tgt := 123) hx hb dX12_lead_161 (by decide) ?_
    exact hself123 _ _ _ _ _ _ _ _ hf hM (lv_sub hl [1, 2, 3, 0] rfl)
noncomputable def f_lead_123 : Nat → Int32 → Int32 → Int32 → (Nat → Int32) → (Nat → Nat → Int32) → Option (Int32 × MS)
  | 0 => fun _ _ _ _ _ => none
  | n + 1 => f_lead_123s (f_lead_123 n)
theorem w_lead_123 {p : Program} {l : Launch} {e : Env} {s : State} {m : MethodId} {args : Array Value} {below : List Frame} {meth : Method} {c : Code} {Q : State → Prop} {D : va_G} {cy ci : ClassId} {h : Nat → Nat} {A0 : Nat → Prop} {o : Int32 × MS} (X : CallFix p m c cX12_lead 4 s args wsX12_lead RX12) (hret : mRi p l e ({ frames := 2, cells := 0, slots := 0, locals := 46 } : Room) s m args below meth c Q cX12_lead D cy ci h A0 .boolean o) (n : Nat) : ∀ (x1 : Int32) (x2 : Int32) (x3 : Int32) (I : Nat → Int32) (A : Nat → Nat → Int32) (H : Heap) (locs : List Loc) (ls : Array Slot), f_lead_123 n x1 x2 x3 I A = some o → mH D cy ci h A0 s H locs I A → lv_has ls 4 [(0, .ref (h 0)), (1, .int x1), (2, .int x2), (3, .int x3)] → W p l e ({ frames := 2, cells := 0, slots := 0, locals := 46 } : Room) s m args below meth c H locs 0 0 Q (F0 m 123 ls []) := by
  induction n with
  | zero => intro x1 x2 x3 I A H locs ls hf; cases hf
  | succ n ih => intro x1 x2 x3 I A H locs ls hf hM hl; exact ws_lead_123 X hret (self123 := f_lead_123 n) ih hf hM hl
noncomputable def f_lead_115 (self72 : Int32 → Int32 → Int32 → (Nat → Int32) → (Nat → Nat → Int32) → Option (Int32 × MS)) (x1 : Int32) (x2 : Int32) (x3 : Int32) (I : Nat → Int32) (A : Nat → Nat → Int32) : Option (Int32 × MS) :=
  m_bnd (x3 + (1 : Int32)) (fun v1 =>
  self72 x1 x2 v1 I A)

set_option maxRecDepth 100000 in
set_option maxHeartbeats 4000000 in
theorem w_lead_115 {p : Program} {l : Launch} {e : Env} {s : State} {m : MethodId} {args : Array Value} {below : List Frame} {meth : Method} {c : Code} {Q : State → Prop} {D : va_G} {cy ci : ClassId} {h : Nat → Nat} {A0 : Nat → Prop} {o : Int32 × MS} (X : CallFix p m c cX12_lead 4 s args wsX12_lead RX12) (hret : mRi p l e ({ frames := 2, cells := 0, slots := 0, locals := 46 } : Room) s m args below meth c Q cX12_lead D cy ci h A0 .boolean o) {self72 : Int32 → Int32 → Int32 → (Nat → Int32) → (Nat → Nat → Int32) → Option (Int32 × MS)} (hself72 : ∀ (x1 : Int32) (x2 : Int32) (x3 : Int32) (I : Nat → Int32) (A : Nat → Nat → Int32) (H : Heap) (locs : List Loc) (ls : Array Slot), self72 x1 x2 x3 I A = some o → mH D cy ci h A0 s H locs I A → lv_has ls 4 [(0, .ref (h 0)), (1, .int x1), (2, .int x2), (3, .int x3)] → W p l e ({ frames := 2, cells := 0, slots := 0, locals := 46 } : Room) s m args below meth c H locs 0 0 Q (F0 m 72 ls [])) {x1 : Int32} {x2 : Int32} {x3 : Int32} {I : Nat → Int32} {A : Nat → Nat → Int32} {H : Heap} {locs : List Loc} {ls : Array Slot} (hf : f_lead_115 self72 x1 x2 x3 I A = some o) (hM : mH D cy ci h A0 s H locs I A) (hl : lv_has ls 4 [(0, .ref (h 0)), (1, .int x1), (2, .int x2), (3, .int x3)]) : W p l e ({ frames := 2, cells := 0, slots := 0, locals := 46 } : Room) s m args below meth c H locs 0 0 Q (F0 m 115 ls []) := by
  obtain ⟨hx, hb, hml, hown, hts⟩ := id X
  unfold f_lead_115 at hf
  obtain ⟨v1, ev, hf⟩ := m_bndE hf
  refine lv_iinc (v := v1) (lv' := [(3, .int v1), (0, .ref (h 0)), (1, .int x1), (2, .int x2)]) hx hb dX12_lead_115 hl (k := 3) rfl (by rw [ev]; rfl) (by decide) rfl (fun ls hl => ?_)
  clear ev
  refine lv_goto (tgt := 72) hx hb dX12_lead_118 (by decide) ?_
  exact hself72 _ _ _ _ _ _ _ _ hf hM (lv_sub hl [1, 2, 3, 0] rfl)
noncomputable def f_lead_72s (self72 : Int32 → Int32 → Int32 → (Nat → Int32) → (Nat → Nat → Int32) → Option (Int32 × MS)) (x1 : Int32) (x2 : Int32) (x3 : Int32) (I : Nat → Int32) (A : Nat → Nat → Int32) : Option (Int32 × MS) :=
  m_chk (¬ ((I 5) < 0 ∨ 2 ≤ ((I 5)).toNatClampNeg)) (
  m_bnd (A 7 ((I 5)).toNatClampNeg) (fun v1 =>
  m_if (v1 < x3) (
  f_lead_123 mFuel x1 x2 x2 I A
  ) (
  m_cl (f_isBehind x3 x2 I A) (fun r2 Ic2 Ac2 =>
  m_if (r2 = 0) (
  f_lead_115 self72 x1 x2 x3 Ic2 Ac2
  ) (
  m_cl (f_deepOf (Ic2 5) x3 Ic2 Ac2) (fun r3 Ic3 Ac3 =>
  m_if (r3 = (6 : Int32)) (
  m_bnd (upd Ic3 0 (1 : Int32)) (fun I4 =>
  m_chk (vp_nar .boolean (0 : Int32) = (0 : Int32)) (some ((0 : Int32), (I4, Ac3))))
  ) (
  f_lead_115 self72 x1 x2 x3 Ic3 Ac3
  ))
  ))
  )))

set_option maxRecDepth 100000 in
set_option maxHeartbeats 4000000 in
theorem ws_lead_72 {p : Program} {l : Launch} {e : Env} {s : State} {m : MethodId} {args : Array Value} {below : List Frame} {meth : Method} {c : Code} {Q : State → Prop} {D : va_G} {cy ci : ClassId} {h : Nat → Nat} {A0 : Nat → Prop} {o : Int32 × MS} (X : CallFix p m c cX12_lead 4 s args wsX12_lead RX12) (hret : mRi p l e ({ frames := 2, cells := 0, slots := 0, locals := 46 } : Room) s m args below meth c Q cX12_lead D cy ci h A0 .boolean o) {self72 : Int32 → Int32 → Int32 → (Nat → Int32) → (Nat → Nat → Int32) → Option (Int32 × MS)} (hself72 : ∀ (x1 : Int32) (x2 : Int32) (x3 : Int32) (I : Nat → Int32) (A : Nat → Nat → Int32) (H : Heap) (locs : List Loc) (ls : Array Slot), self72 x1 x2 x3 I A = some o → mH D cy ci h A0 s H locs I A → lv_has ls 4 [(0, .ref (h 0)), (1, .int x1), (2, .int x2), (3, .int x3)] → W p l e ({ frames := 2, cells := 0, slots := 0, locals := 46 } : Room) s m args below meth c H locs 0 0 Q (F0 m 72 ls [])) {x1 : Int32} {x2 : Int32} {x3 : Int32} {I : Nat → Int32} {A : Nat → Nat → Int32} {H : Heap} {locs : List Loc} {ls : Array Slot} (hf : f_lead_72s self72 x1 x2 x3 I A = some o) (hM : mH D cy ci h A0 s H locs I A) (hl : lv_has ls 4 [(0, .ref (h 0)), (1, .int x1), (2, .int x2), (3, .int x3)]) : W p l e ({ frames := 2, cells := 0, slots := 0, locals := 46 } : Room) s m args below meth c H locs 0 0 Q (F0 m 72 ls []) := by
  obtain ⟨hx, hb, hml, hown, hts⟩ := id X
  unfold f_lead_72s at hf
  refine lv_iload_n hx hb dX12_lead_72 rfl (lv_at hl 3 rfl) ?_
  refine lv_aload_n hx hb dX12_lead_73 rfl (lv_at hl 0 rfl) ?_
  refine m_get (v := .ref (h 7)) X hw_lead hM 7 (by decide) fl_lead_7 rfl dX12_lead_74 ?_
  refine lv_aload_n hx hb dX12_lead_77 rfl (lv_at hl 0 rfl) ?_
  refine m_get (v := .int (I 5)) X hw_lead hM 5 (by decide) fl_lead_5 rfl dX12_lead_78 ?_
  obtain ⟨cd, hf⟩ := m_chkE hf
  refine m_iald X hM 7 3 2 rfl cd dX12_lead_81 ?_
  clear cd
  obtain ⟨v1, ev, hf⟩ := m_bndE hf
  refine m_top ev ?_
  clear ev
  refine lv_icmp_gt (tgt := 121) hx hb dX12_lead_82 (by decide) (fun cc1 => ?_) (fun cc1 => ?_)
  · replace hf := m_ifT hf cc1
    refine lv_iload_n hx hb dX12_lead_121 rfl (lv_at hl 2 rfl) ?_
    refine lv_istore_n (lv' := [(3, .int x2), (0, .ref (h 0)), (1, .int x1), (2, .int x2)]) hx hb dX12_lead_122 rfl hl (by decide) rfl (fun ls hl => ?_)
    exact w_lead_123 X hret _ _ _ _ _ _ _ _ _ hf hM (lv_sub hl [1, 2, 3, 0] rfl)
  · replace hf := m_ifF hf cc1
    refine lv_aload_n hx hb dX12_lead_85 rfl (lv_at hl 0 rfl) ?_
    refine lv_iload_n hx hb dX12_lead_86 rfl (lv_at hl 3 rfl) ?_
    refine lv_iload_n hx hb dX12_lead_87 rfl (lv_at hl 2 rfl) ?_
    obtain ⟨o2, ho, hf⟩ := m_clE hf
    refine m_callVi X hM (c_isBehind ho) gX12_lead_X12_isBehind rfl ⟨rfl, rfl⟩ hd_isBehind ⟨Nat.le_of_ble_eq_true rfl, Nat.le_of_ble_eq_true rfl⟩ rfl hl.1 rfl (Nat.le_of_ble_eq_true rfl) dX12_lead_88 (fun H locs hM => ?_)
    clear ho
    refine lv_if_eq (tgt := 115) hx hb dX12_lead_91 (by decide) (fun cc1 => ?_) (fun cc1 => ?_)
    · replace hf := m_ifT hf cc1
      exact w_lead_115 X hret hself72 hf hM (lv_sub hl [0, 1, 2, 3] rfl)
    · replace hf := m_ifF hf cc1
      refine lv_aload_n hx hb dX12_lead_94 rfl (lv_at hl 0 rfl) ?_
      refine lv_aload_n hx hb dX12_lead_95 rfl (lv_at hl 0 rfl) ?_
      refine m_get (v := .int (o2.2.1 5)) X hw_lead hM 5 (by decide) fl_lead_5 rfl dX12_lead_96 ?_
      refine lv_iload_n hx hb dX12_lead_99 rfl (lv_at hl 3 rfl) ?_
      obtain ⟨o3, ho, hf⟩ := m_clE hf
      refine m_callVi X hM (c_deepOf ho) gX12_lead_X12_deepOf rfl ⟨rfl, rfl⟩ hd_deepOf ⟨Nat.le_of_ble_eq_true rfl, Nat.le_of_ble_eq_true rfl⟩ rfl hl.1 rfl (Nat.le_of_ble_eq_true rfl) dX12_lead_100 (fun H locs hM => ?_)
      clear ho
      refine lv_bipush (v := (6 : Int32)) hx hb dX12_lead_103 (by decide) ?_
      refine lv_icmp_ne (tgt := 115) hx hb dX12_lead_105 (by decide) (fun cc1 => ?_) (fun cc1 => ?_)
      · replace hf := m_ifF hf cc1
        exact w_lead_115 X hret hself72 hf hM (lv_sub hl [0, 1, 2, 3] rfl)
      · replace hf := m_ifT hf cc1
        refine lv_aload_n hx hb dX12_lead_108 rfl (lv_at hl 0 rfl) ?_
        refine lv_iconst (v := (1 : Int32)) hx hb dX12_lead_109 (by decide) ?_
        refine m_put X hw_lead hM 0 (by decide) fl_lead_0 mi_0 rfl (tyX12_ok 0 (by decide)) dX12_lead_110 (fun H locs hM => ?_)
        obtain ⟨I4, ev, hf⟩ := m_bndE hf
        replace hM := m_hI hM ev
        clear ev
        refine lv_iconst (v := (0 : Int32)) hx hb dX12_lead_113 (by decide) ?_
        obtain ⟨cd, hf⟩ := m_chkE hf
        cases hf
        exact hret H locs _ ls hM (m_nb cd) dX12_lead_114
noncomputable def f_lead_72 : Nat → Int32 → Int32 → Int32 → (Nat → Int32) → (Nat → Nat → Int32) → Option (Int32 × MS)
  | 0 => fun _ _ _ _ _ => none
  | n + 1 => f_lead_72s (f_lead_72 n)
theorem w_lead_72 {p : Program} {l : Launch} {e : Env} {s : State} {m : MethodId} {args : Array Value} {below : List Frame} {meth : Method} {c : Code} {Q : State → Prop} {D : va_G} {cy ci : ClassId} {h : Nat → Nat} {A0 : Nat → Prop} {o : Int32 × MS} (X : CallFix p m c cX12_lead 4 s args wsX12_lead RX12) (hret : mRi p l e ({ frames := 2, cells := 0, slots := 0, locals := 46 } : Room) s m args below meth c Q cX12_lead D cy ci h A0 .boolean o) (n : Nat) : ∀ (x1 : Int32) (x2 : Int32) (x3 : Int32) (I : Nat → Int32) (A : Nat → Nat → Int32) (H : Heap) (locs : List Loc) (ls : Array Slot), f_lead_72 n x1 x2 x3 I A = some o → mH D cy ci h A0 s H locs I A → lv_has ls 4 [(0, .ref (h 0)), (1, .int x1), (2, .int x2), (3, .int x3)] → W p l e ({ frames := 2, cells := 0, slots := 0, locals := 46 } : Room) s m args below meth c H locs 0 0 Q (F0 m 72 ls []) := by
  induction n with
  | zero => intro x1 x2 x3 I A H locs ls hf; cases hf
  | succ n ih => intro x1 x2 x3 I A H locs ls hf hM hl; exact ws_lead_72 X hret (self72 := f_lead_72 n) ih hf hM hl
noncomputable def f_lead_13 (t0 : Int32) (I : Nat → Int32) (A : Nat → Nat → Int32) : Option (Int32 × MS) :=
  m_bnd (upd I 0 t0) (fun I1 =>
  m_if ((I1 0) ≤ 0) (
  m_bnd ((301 : Int32) * (I1 5)) (fun v2 =>
  m_bnd (v2 + (I1 6)) (fun v3 =>
  m_chk (¬ (v3 < 0 ∨ 602 ≤ (v3).toNatClampNeg)) (
  m_bnd (A 8 (v3).toNatClampNeg) (fun v4 =>
  m_bnd ((301 : Int32) * (I1 5)) (fun v5 =>
  m_bnd (v5 + v4) (fun v6 =>
  m_chk (¬ (v6 < 0 ∨ 602 ≤ (v6).toNatClampNeg)) (
  m_bnd (A 10 (v6).toNatClampNeg) (fun v7 =>
  m_if (v7 = (I1 6)) (
  m_chk (vp_nar .boolean (0 : Int32) = (0 : Int32)) (some ((0 : Int32), (I1, A)))
  ) (
  f_lead_72 mFuel v4 v7 (1 : Int32) I1 A
  )))))))))
  ) (
  m_chk (vp_nar .boolean (0 : Int32) = (0 : Int32)) (some ((0 : Int32), (I1, A)))
  ))

set_option maxRecDepth 100000 in
set_option maxHeartbeats 4000000 in
theorem w_lead_13 {p : Program} {l : Launch} {e : Env} {s : State} {m : MethodId} {args : Array Value} {below : List Frame} {meth : Method} {c : Code} {Q : State → Prop} {D : va_G} {cy ci : ClassId} {h : Nat → Nat} {A0 : Nat → Prop} {o : Int32 × MS} (X : CallFix p m c cX12_lead 4 s args wsX12_lead RX12) (hret : mRi p l e ({ frames := 2, cells := 0, slots := 0, locals := 46 } : Room) s m args below meth c Q cX12_lead D cy ci h A0 .boolean o) {t0 : Int32} {I : Nat → Int32} {A : Nat → Nat → Int32} {H : Heap} {locs : List Loc} {ls : Array Slot} (hf : f_lead_13 t0 I A = some o) (hM : mH D cy ci h A0 s H locs I A) (hl : lv_has ls 4 [(0, .ref (h 0))]) : W p l e ({ frames := 2, cells := 0, slots := 0, locals := 46 } : Room) s m args below meth c H locs 0 0 Q (F0 m 13 ls [.int t0, .ref (h 0)]) := by
  obtain ⟨hx, hb, hml, hown, hts⟩ := id X
  unfold f_lead_13 at hf
  refine m_put X hw_lead hM 0 (by decide) fl_lead_0 mi_0 rfl (tyX12_ok 0 (by decide)) dX12_lead_13 (fun H locs hM => ?_)
  obtain ⟨I1, ev, hf⟩ := m_bndE hf
  replace hM := m_hI hM ev
  clear ev
  refine lv_aload_n hx hb dX12_lead_16 rfl (lv_at hl 0 rfl) ?_
  refine m_get (v := .int (I1 0)) X hw_lead hM 0 (by decide) fl_lead_0 rfl dX12_lead_17 ?_
  refine lv_if_le (tgt := 25) hx hb dX12_lead_20 (by decide) (fun cc1 => ?_) (fun cc1 => ?_)
  · replace hf := m_ifT hf cc1
    refine lv_aload_n hx hb dX12_lead_25 rfl (lv_at hl 0 rfl) ?_
    refine m_get (v := .ref (h 8)) X hw_lead hM 8 (by decide) fl_lead_8 rfl dX12_lead_26 ?_
    refine lv_sipush (v := (301 : Int32)) hx hb dX12_lead_29 (by decide) ?_
    refine lv_aload_n hx hb dX12_lead_32 rfl (lv_at hl 0 rfl) ?_
    refine m_get (v := .int (I1 5)) X hw_lead hM 5 (by decide) fl_lead_5 rfl dX12_lead_33 ?_
    refine lv_imul hx hb dX12_lead_36 ?_
    obtain ⟨v2, ev, hf⟩ := m_bndE hf
    refine m_top ev ?_
    clear ev
    refine lv_aload_n hx hb dX12_lead_37 rfl (lv_at hl 0 rfl) ?_
    refine m_get (v := .int (I1 6)) X hw_lead hM 6 (by decide) fl_lead_6 rfl dX12_lead_38 ?_
    refine lv_iadd hx hb dX12_lead_41 ?_
    obtain ⟨v3, ev, hf⟩ := m_bndE hf
    refine m_top ev ?_
    clear ev
    obtain ⟨cd, hf⟩ := m_chkE hf
    refine m_iald X hM 8 4 602 rfl cd dX12_lead_42 ?_
    clear cd
    obtain ⟨v4, ev, hf⟩ := m_bndE hf
    refine m_top ev ?_
    clear ev
    refine lv_istore_n (lv' := [(1, .int v4), (0, .ref (h 0))]) hx hb dX12_lead_43 rfl hl (by decide) rfl (fun ls hl => ?_)
    refine lv_aload_n hx hb dX12_lead_44 rfl (lv_at hl 1 rfl) ?_
    refine m_get (v := .ref (h 10)) X hw_lead hM 10 (by decide) fl_lead_10 rfl dX12_lead_45 ?_
    refine lv_sipush (v := (301 : Int32)) hx hb dX12_lead_48 (by decide) ?_
    refine lv_aload_n hx hb dX12_lead_51 rfl (lv_at hl 1 rfl) ?_
    refine m_get (v := .int (I1 5)) X hw_lead hM 5 (by decide) fl_lead_5 rfl dX12_lead_52 ?_
    refine lv_imul hx hb dX12_lead_55 ?_
    obtain ⟨v5, ev, hf⟩ := m_bndE hf
    refine m_top ev ?_
    clear ev
    refine lv_iload_n hx hb dX12_lead_56 rfl (lv_at hl 0 rfl) ?_
    refine lv_iadd hx hb dX12_lead_57 ?_
    obtain ⟨v6, ev, hf⟩ := m_bndE hf
    refine m_top ev ?_
    clear ev
    obtain ⟨cd, hf⟩ := m_chkE hf
    refine m_iald X hM 10 6 602 rfl cd dX12_lead_58 ?_
    clear cd
    obtain ⟨v7, ev, hf⟩ := m_bndE hf
    refine m_top ev ?_
    clear ev
    refine lv_istore_n (lv' := [(2, .int v7), (1, .int v4), (0, .ref (h 0))]) hx hb dX12_lead_59 rfl hl (by decide) rfl (fun ls hl => ?_)
    refine lv_iload_n hx hb dX12_lead_60 rfl (lv_at hl 0 rfl) ?_
    refine lv_aload_n hx hb dX12_lead_61 rfl (lv_at hl 2 rfl) ?_
    refine m_get (v := .int (I1 6)) X hw_lead hM 6 (by decide) fl_lead_6 rfl dX12_lead_62 ?_
    refine lv_icmp_ne (tgt := 70) hx hb dX12_lead_65 (by decide) (fun cc1 => ?_) (fun cc1 => ?_)
    · replace hf := m_ifF hf cc1
      refine lv_iconst (v := (1 : Int32)) hx hb dX12_lead_70 (by decide) ?_
      refine lv_istore_n (lv' := [(3, .int (1 : Int32)), (2, .int v7), (1, .int v4), (0, .ref (h 0))]) hx hb dX12_lead_71 rfl hl (by decide) rfl (fun ls hl => ?_)
      exact w_lead_72 X hret _ _ _ _ _ _ _ _ _ hf hM (lv_sub hl [3, 2, 1, 0] rfl)
    · replace hf := m_ifT hf cc1
      refine lv_iconst (v := (0 : Int32)) hx hb dX12_lead_68 (by decide) ?_
      obtain ⟨cd, hf⟩ := m_chkE hf
      cases hf
      exact hret H locs _ ls hM (m_nb cd) dX12_lead_69
  · replace hf := m_ifF hf cc1
    refine lv_iconst (v := (0 : Int32)) hx hb dX12_lead_23 (by decide) ?_
    obtain ⟨cd, hf⟩ := m_chkE hf
    cases hf
    exact hret H locs _ ls hM (m_nb cd) dX12_lead_24
noncomputable def f_lead_0 (I : Nat → Int32) (A : Nat → Nat → Int32) : Option (Int32 × MS) :=
  m_if ((I 6) = 0) (
  f_lead_13 (1 : Int32) I A
  ) (
  f_lead_13 (0 : Int32) I A
  )

set_option maxRecDepth 100000 in
set_option maxHeartbeats 4000000 in
theorem w_lead_0 {p : Program} {l : Launch} {e : Env} {s : State} {m : MethodId} {args : Array Value} {below : List Frame} {meth : Method} {c : Code} {Q : State → Prop} {D : va_G} {cy ci : ClassId} {h : Nat → Nat} {A0 : Nat → Prop} {o : Int32 × MS} (X : CallFix p m c cX12_lead 4 s args wsX12_lead RX12) (hret : mRi p l e ({ frames := 2, cells := 0, slots := 0, locals := 46 } : Room) s m args below meth c Q cX12_lead D cy ci h A0 .boolean o) {I : Nat → Int32} {A : Nat → Nat → Int32} {H : Heap} {locs : List Loc} {ls : Array Slot} (hf : f_lead_0  I A = some o) (hM : mH D cy ci h A0 s H locs I A) (hl : lv_has ls 4 [(0, .ref (h 0))]) : W p l e ({ frames := 2, cells := 0, slots := 0, locals := 46 } : Room) s m args below meth c H locs 0 0 Q (F0 m 0 ls []) := by
  obtain ⟨hx, hb, hml, hown, hts⟩ := id X
  unfold f_lead_0 at hf
  refine lv_aload_n hx hb dX12_lead_0 rfl (lv_at hl 0 rfl) ?_
  refine lv_aload_n hx hb dX12_lead_1 rfl (lv_at hl 0 rfl) ?_
  refine m_get (v := .int (I 6)) X hw_lead hM 6 (by decide) fl_lead_6 rfl dX12_lead_2 ?_
  refine lv_if_ne (tgt := 12) hx hb dX12_lead_5 (by decide) (fun cc1 => ?_) (fun cc1 => ?_)
  · replace hf := m_ifF hf cc1
    refine lv_iconst (v := (0 : Int32)) hx hb dX12_lead_12 (by decide) ?_
    exact w_lead_13 X hret hf hM (lv_sub hl [0] rfl)
  · replace hf := m_ifT hf cc1
    refine lv_iconst (v := (1 : Int32)) hx hb dX12_lead_8 (by decide) ?_
    refine lv_goto (tgt := 13) hx hb dX12_lead_9 (by decide) ?_
    exact w_lead_13 X hret hf hM (lv_sub hl [0] rfl)
noncomputable def f_lead (I : Nat → Int32) (A : Nat → Nat → Int32) : Option (Int32 × MS) := f_lead_0  I A
theorem c_lead {l : Launch} {D : va_G} {cy ci : ClassId} {h : Nat → Nat} {I : Nat → Int32} {A : Nat → Nat → Int32} {o : Int32 × MS} (hf : f_lead  I A = some o) : mMi l yX12_lead wsX12_lead ({ frames := 2, cells := 0, slots := 0, locals := 46 } : Room) [.ref (h 0)] D cy ci h I A o :=
  m_entryI (cc := cX12_lead) (maxL := 4) (by decide) rfl rfl (Nat.le_of_ble_eq_true rfl) (fun p e s m args below meth c A0 Q H locs ls X hret hM hl => w_lead_0 X hret hf hM (lv_sub hl [0] rfl))
theorem hw_end : ∀ w ∈ wsX120, w ∈ wsX12_end := by decide +kernel
theorem fl_end_0 : Cond.fieldLink RX12 99 "MoveTextsModel" "thrown" "I" ∈ wsX12_end := by decide +kernel
theorem fl_end_5 : Cond.fieldLink RX12 347 "MoveTextsModel" "game" "I" ∈ wsX12_end := by decide +kernel
theorem fl_end_23 : Cond.fieldLink RX12 67 "MoveTextsModel" "results" "[I" ∈ wsX12_end := by decide +kernel
theorem hd_end : yX12_end.cls = RX12 ∧ yX12_end.cls ≠ "java/lang/invoke/MethodHandle" ∧ yX12_end.cls ≠ "java/lang/invoke/VarHandle" ∧ (parseMethodDescriptor yX12_end.desc).map (fun d => d.parameters.length) = some 1 := by decide +kernel
noncomputable def f_end_46 (t0 : Int32) (t1 : Int32) (I : Nat → Int32) (A : Nat → Nat → Int32) : Option (Int32 × MS) :=
  m_chk (¬ (t1 < 0 ∨ 2 ≤ (t1).toNatClampNeg)) (
  m_bnd (va_up A 23 (upd (A 23) (t1).toNatClampNeg t0)) (fun A1 =>
  some (0, (I, A1))))

set_option maxRecDepth 100000 in
set_option maxHeartbeats 4000000 in
theorem w_end_46 {p : Program} {l : Launch} {e : Env} {s : State} {m : MethodId} {args : Array Value} {below : List Frame} {meth : Method} {c : Code} {Q : State → Prop} {D : va_G} {cy ci : ClassId} {h : Nat → Nat} {A0 : Nat → Prop} {o : Int32 × MS} (X : CallFix p m c cX12_end 2 s args wsX12_end RX12) (hret : mRv p l e ({ frames := 0, cells := 0, slots := 0, locals := 0 } : Room) s m args below meth c Q cX12_end D cy ci h A0 o) {t0 : Int32} {t1 : Int32} {I : Nat → Int32} {A : Nat → Nat → Int32} {H : Heap} {locs : List Loc} {ls : Array Slot} (hf : f_end_46 t0 t1 I A = some o) (hM : mH D cy ci h A0 s H locs I A) (hl : lv_has ls 2 []) : W p l e ({ frames := 0, cells := 0, slots := 0, locals := 0 } : Room) s m args below meth c H locs 0 0 Q (F0 m 46 ls [.int t0, .int t1, .ref (h 23)]) := by
  obtain ⟨hx, hb, hml, hown, hts⟩ := id X
  unfold f_end_46 at hf
  obtain ⟨cd, hf⟩ := m_chkE hf
  refine m_iast X hM 23 19 2 rfl ma_23 cd dX12_end_46 (fun H locs hM => ?_)
  clear cd
  obtain ⟨A1, ev, hf⟩ := m_bndE hf
  replace hM := m_hA hM ev
  clear ev
  cases hf
  exact hret H locs _ ls hM dX12_end_47
noncomputable def f_end_15 (x1 : Int32) (t0 : Int32) (I : Nat → Int32) (A : Nat → Nat → Int32) : Option (Int32 × MS) :=
  m_bnd (upd I 0 t0) (fun I1 =>
  m_if ((I1 0) ≤ 0) (
  f_end_46 x1 (I1 5) I1 A
  ) (
  m_chk (¬ ((I1 5) < 0 ∨ 2 ≤ ((I1 5)).toNatClampNeg)) (
  m_bnd (A 23 ((I1 5)).toNatClampNeg) (fun v2 =>
  f_end_46 v2 (I1 5) I1 A))
  ))

set_option maxRecDepth 100000 in
set_option maxHeartbeats 4000000 in
theorem w_end_15 {p : Program} {l : Launch} {e : Env} {s : State} {m : MethodId} {args : Array Value} {below : List Frame} {meth : Method} {c : Code} {Q : State → Prop} {D : va_G} {cy ci : ClassId} {h : Nat → Nat} {A0 : Nat → Prop} {o : Int32 × MS} (X : CallFix p m c cX12_end 2 s args wsX12_end RX12) (hret : mRv p l e ({ frames := 0, cells := 0, slots := 0, locals := 0 } : Room) s m args below meth c Q cX12_end D cy ci h A0 o) {x1 : Int32} {t0 : Int32} {I : Nat → Int32} {A : Nat → Nat → Int32} {H : Heap} {locs : List Loc} {ls : Array Slot} (hf : f_end_15 x1 t0 I A = some o) (hM : mH D cy ci h A0 s H locs I A) (hl : lv_has ls 2 [(0, .ref (h 0)), (1, .int x1)]) : W p l e ({ frames := 0, cells := 0, slots := 0, locals := 0 } : Room) s m args below meth c H locs 0 0 Q (F0 m 15 ls [.int t0, .ref (h 0)]) := by
  obtain ⟨hx, hb, hml, hown, hts⟩ := id X
  unfold f_end_15 at hf
  refine m_put X hw_end hM 0 (by decide) fl_end_0 mi_0 rfl (tyX12_ok 0 (by decide)) dX12_end_15 (fun H locs hM => ?_)
  obtain ⟨I1, ev, hf⟩ := m_bndE hf
  replace hM := m_hI hM ev
  clear ev
  refine lv_aload_n hx hb dX12_end_18 rfl (lv_at hl 0 rfl) ?_
  refine m_get (v := .ref (h 23)) X hw_end hM 23 (by decide) fl_end_23 rfl dX12_end_19 ?_
  refine lv_aload_n hx hb dX12_end_22 rfl (lv_at hl 0 rfl) ?_
  refine m_get (v := .int (I1 5)) X hw_end hM 5 (by decide) fl_end_5 rfl dX12_end_23 ?_
  refine lv_aload_n hx hb dX12_end_26 rfl (lv_at hl 0 rfl) ?_
  refine m_get (v := .int (I1 0)) X hw_end hM 0 (by decide) fl_end_0 rfl dX12_end_27 ?_
  refine lv_if_le (tgt := 45) hx hb dX12_end_30 (by decide) (fun cc1 => ?_) (fun cc1 => ?_)
  · replace hf := m_ifT hf cc1
    refine lv_iload_n hx hb dX12_end_45 rfl (lv_at hl 1 rfl) ?_
    exact w_end_46 X hret hf hM (lv_sub hl [] rfl)
  · replace hf := m_ifF hf cc1
    refine lv_aload_n hx hb dX12_end_33 rfl (lv_at hl 0 rfl) ?_
    refine m_get (v := .ref (h 23)) X hw_end hM 23 (by decide) fl_end_23 rfl dX12_end_34 ?_
    refine lv_aload_n hx hb dX12_end_37 rfl (lv_at hl 0 rfl) ?_
    refine m_get (v := .int (I1 5)) X hw_end hM 5 (by decide) fl_end_5 rfl dX12_end_38 ?_
    obtain ⟨cd, hf⟩ := m_chkE hf
    refine m_iald X hM 23 19 2 rfl cd dX12_end_41 ?_
    clear cd
    obtain ⟨v2, ev, hf⟩ := m_bndE hf
    refine m_top ev ?_
    clear ev
    refine lv_goto (tgt := 46) hx hb dX12_end_42 (by decide) ?_
    exact w_end_46 X hret hf hM (lv_sub hl [] rfl)
noncomputable def f_end_10 (x1 : Int32) (I : Nat → Int32) (A : Nat → Nat → Int32) : Option (Int32 × MS) :=
  f_end_15 x1 (1 : Int32) I A

set_option maxRecDepth 100000 in
set_option maxHeartbeats 4000000 in
theorem w_end_10 {p : Program} {l : Launch} {e : Env} {s : State} {m : MethodId} {args : Array Value} {below : List Frame} {meth : Method} {c : Code} {Q : State → Prop} {D : va_G} {cy ci : ClassId} {h : Nat → Nat} {A0 : Nat → Prop} {o : Int32 × MS} (X : CallFix p m c cX12_end 2 s args wsX12_end RX12) (hret : mRv p l e ({ frames := 0, cells := 0, slots := 0, locals := 0 } : Room) s m args below meth c Q cX12_end D cy ci h A0 o) {x1 : Int32} {I : Nat → Int32} {A : Nat → Nat → Int32} {H : Heap} {locs : List Loc} {ls : Array Slot} (hf : f_end_10 x1 I A = some o) (hM : mH D cy ci h A0 s H locs I A) (hl : lv_has ls 2 [(0, .ref (h 0)), (1, .int x1)]) : W p l e ({ frames := 0, cells := 0, slots := 0, locals := 0 } : Room) s m args below meth c H locs 0 0 Q (F0 m 10 ls [.ref (h 0)]) := by
  obtain ⟨hx, hb, hml, hown, hts⟩ := id X
  unfold f_end_10 at hf
  refine lv_iconst (v := (1 : Int32)) hx hb dX12_end_10 (by decide) ?_
  refine lv_goto (tgt := 15) hx hb dX12_end_11 (by decide) ?_
  exact w_end_15 X hret hf hM (lv_sub hl [0, 1] rfl)
noncomputable def f_end_0 (x1 : Int32) (I : Nat → Int32) (A : Nat → Nat → Int32) : Option (Int32 × MS) :=
  m_if (x1 < 0) (
  f_end_10 x1 I A
  ) (
  m_if (x1 ≤ (3 : Int32)) (
  f_end_15 x1 (0 : Int32) I A
  ) (
  f_end_10 x1 I A
  )
  )

set_option maxRecDepth 100000 in
set_option maxHeartbeats 4000000 in
theorem w_end_0 {p : Program} {l : Launch} {e : Env} {s : State} {m : MethodId} {args : Array Value} {below : List Frame} {meth : Method} {c : Code} {Q : State → Prop} {D : va_G} {cy ci : ClassId} {h : Nat → Nat} {A0 : Nat → Prop} {o : Int32 × MS} (X : CallFix p m c cX12_end 2 s args wsX12_end RX12) (hret : mRv p l e ({ frames := 0, cells := 0, slots := 0, locals := 0 } : Room) s m args below meth c Q cX12_end D cy ci h A0 o) {x1 : Int32} {I : Nat → Int32} {A : Nat → Nat → Int32} {H : Heap} {locs : List Loc} {ls : Array Slot} (hf : f_end_0 x1 I A = some o) (hM : mH D cy ci h A0 s H locs I A) (hl : lv_has ls 2 [(0, .ref (h 0)), (1, .int x1)]) : W p l e ({ frames := 0, cells := 0, slots := 0, locals := 0 } : Room) s m args below meth c H locs 0 0 Q (F0 m 0 ls []) := by
  obtain ⟨hx, hb, hml, hown, hts⟩ := id X
  unfold f_end_0 at hf
  refine lv_aload_n hx hb dX12_end_0 rfl (lv_at hl 0 rfl) ?_
  refine lv_iload_n hx hb dX12_end_1 rfl (lv_at hl 1 rfl) ?_
  refine lv_if_lt (tgt := 10) hx hb dX12_end_2 (by decide) (fun cc1 => ?_) (fun cc1 => ?_)
  · replace hf := m_ifT hf cc1
    exact w_end_10 X hret hf hM (lv_sub hl [0, 1] rfl)
  · replace hf := m_ifF hf cc1
    refine lv_iload_n hx hb dX12_end_5 rfl (lv_at hl 1 rfl) ?_
    refine lv_iconst (v := (3 : Int32)) hx hb dX12_end_6 (by decide) ?_
    refine lv_icmp_le (tgt := 14) hx hb dX12_end_7 (by decide) (fun cc1 => ?_) (fun cc1 => ?_)
    · replace hf := m_ifT hf cc1
      refine lv_iconst (v := (0 : Int32)) hx hb dX12_end_14 (by decide) ?_
      exact w_end_15 X hret hf hM (lv_sub hl [0, 1] rfl)
    · replace hf := m_ifF hf cc1
      exact w_end_10 X hret hf hM (lv_sub hl [0, 1] rfl)
noncomputable def f_end (x1 : Int32) (I : Nat → Int32) (A : Nat → Nat → Int32) : Option (Int32 × MS) := f_end_0 x1 I A
theorem c_end {l : Launch} {D : va_G} {cy ci : ClassId} {h : Nat → Nat} {x1 : Int32} {I : Nat → Int32} {A : Nat → Nat → Int32} {o : Int32 × MS} (hf : f_end x1 I A = some o) : mMv l yX12_end wsX12_end ({ frames := 0, cells := 0, slots := 0, locals := 0 } : Room) [.ref (h 0), .int x1] D cy ci h I A o :=
  m_entryV (cc := cX12_end) (maxL := 2) (by decide) rfl rfl (Nat.le_of_ble_eq_true rfl) (fun p e s m args below meth c A0 Q H locs ls X hret hM hl => w_end_0 X hret hf hM (lv_sub hl [0, 1] rfl))
theorem hw_result : ∀ w ∈ wsX120, w ∈ wsX12_result := by decide +kernel
theorem fl_result_0 : Cond.fieldLink RX12 99 "MoveTextsModel" "thrown" "I" ∈ wsX12_result := by decide +kernel
theorem fl_result_5 : Cond.fieldLink RX12 347 "MoveTextsModel" "game" "I" ∈ wsX12_result := by decide +kernel
theorem fl_result_23 : Cond.fieldLink RX12 67 "MoveTextsModel" "results" "[I" ∈ wsX12_result := by decide +kernel
theorem hd_result : yX12_result.cls = RX12 ∧ yX12_result.cls ≠ "java/lang/invoke/MethodHandle" ∧ yX12_result.cls ≠ "java/lang/invoke/VarHandle" ∧ (parseMethodDescriptor yX12_result.desc).map (fun d => d.parameters.length) = some 0 := by decide +kernel
noncomputable def f_result_0 (I : Nat → Int32) (A : Nat → Nat → Int32) : Option (Int32 × MS) :=
  m_bnd (upd I 0 (0 : Int32)) (fun I1 =>
  m_chk (¬ ((I1 5) < 0 ∨ 2 ≤ ((I1 5)).toNatClampNeg)) (
  m_bnd (A 23 ((I1 5)).toNatClampNeg) (fun v2 =>
  some (v2, (I1, A)))))

set_option maxRecDepth 100000 in
set_option maxHeartbeats 4000000 in
theorem w_result_0 {p : Program} {l : Launch} {e : Env} {s : State} {m : MethodId} {args : Array Value} {below : List Frame} {meth : Method} {c : Code} {Q : State → Prop} {D : va_G} {cy ci : ClassId} {h : Nat → Nat} {A0 : Nat → Prop} {o : Int32 × MS} (X : CallFix p m c cX12_result 1 s args wsX12_result RX12) (hret : mRi p l e ({ frames := 0, cells := 0, slots := 0, locals := 0 } : Room) s m args below meth c Q cX12_result D cy ci h A0 .int o) {I : Nat → Int32} {A : Nat → Nat → Int32} {H : Heap} {locs : List Loc} {ls : Array Slot} (hf : f_result_0  I A = some o) (hM : mH D cy ci h A0 s H locs I A) (hl : lv_has ls 1 [(0, .ref (h 0))]) : W p l e ({ frames := 0, cells := 0, slots := 0, locals := 0 } : Room) s m args below meth c H locs 0 0 Q (F0 m 0 ls []) := by
  obtain ⟨hx, hb, hml, hown, hts⟩ := id X
  unfold f_result_0 at hf
  refine lv_aload_n hx hb dX12_result_0 rfl (lv_at hl 0 rfl) ?_
  refine lv_iconst (v := (0 : Int32)) hx hb dX12_result_1 (by decide) ?_
  refine m_put X hw_result hM 0 (by decide) fl_result_0 mi_0 rfl (tyX12_ok 0 (by decide)) dX12_result_2 (fun H locs hM => ?_)
  obtain ⟨I1, ev, hf⟩ := m_bndE hf
  replace hM := m_hI hM ev
  clear ev
  refine lv_aload_n hx hb dX12_result_5 rfl (lv_at hl 0 rfl) ?_
  refine m_get (v := .ref (h 23)) X hw_result hM 23 (by decide) fl_result_23 rfl dX12_result_6 ?_
  refine lv_aload_n hx hb dX12_result_9 rfl (lv_at hl 0 rfl) ?_
  refine m_get (v := .int (I1 5)) X hw_result hM 5 (by decide) fl_result_5 rfl dX12_result_10 ?_
  obtain ⟨cd, hf⟩ := m_chkE hf
  refine m_iald X hM 23 19 2 rfl cd dX12_result_13 ?_
  clear cd
  obtain ⟨v2, ev, hf⟩ := m_bndE hf
  refine m_top ev ?_
  clear ev
  cases hf
  exact hret H locs _ ls hM rfl dX12_result_14
noncomputable def f_result (I : Nat → Int32) (A : Nat → Nat → Int32) : Option (Int32 × MS) := f_result_0  I A
theorem c_result {l : Launch} {D : va_G} {cy ci : ClassId} {h : Nat → Nat} {I : Nat → Int32} {A : Nat → Nat → Int32} {o : Int32 × MS} (hf : f_result  I A = some o) : mMi l yX12_result wsX12_result ({ frames := 0, cells := 0, slots := 0, locals := 0 } : Room) [.ref (h 0)] D cy ci h I A o :=
  m_entryI (cc := cX12_result) (maxL := 1) (by decide) rfl rfl (Nat.le_of_ble_eq_true rfl) (fun p e s m args below meth c A0 Q H locs ls X hret hM hl => w_result_0 X hret hf hM (lv_sub hl [0] rfl))
theorem hw_tags : ∀ w ∈ wsX120, w ∈ wsX12_tags := by decide +kernel
theorem fl_tags_0 : Cond.fieldLink RX12 99 "MoveTextsModel" "thrown" "I" ∈ wsX12_tags := by decide +kernel
theorem fl_tags_5 : Cond.fieldLink RX12 347 "MoveTextsModel" "game" "I" ∈ wsX12_tags := by decide +kernel
theorem fl_tags_18 : Cond.fieldLink RX12 52 "MoveTextsModel" "tagCount" "[I" ∈ wsX12_tags := by decide +kernel
theorem hd_tags : yX12_tags.cls = RX12 ∧ yX12_tags.cls ≠ "java/lang/invoke/MethodHandle" ∧ yX12_tags.cls ≠ "java/lang/invoke/VarHandle" ∧ (parseMethodDescriptor yX12_tags.desc).map (fun d => d.parameters.length) = some 0 := by decide +kernel
noncomputable def f_tags_0 (I : Nat → Int32) (A : Nat → Nat → Int32) : Option (Int32 × MS) :=
  m_bnd (upd I 0 (0 : Int32)) (fun I1 =>
  m_chk (¬ ((I1 5) < 0 ∨ 2 ≤ ((I1 5)).toNatClampNeg)) (
  m_bnd (A 18 ((I1 5)).toNatClampNeg) (fun v2 =>
  some (v2, (I1, A)))))

set_option maxRecDepth 100000 in
set_option maxHeartbeats 4000000 in
theorem w_tags_0 {p : Program} {l : Launch} {e : Env} {s : State} {m : MethodId} {args : Array Value} {below : List Frame} {meth : Method} {c : Code} {Q : State → Prop} {D : va_G} {cy ci : ClassId} {h : Nat → Nat} {A0 : Nat → Prop} {o : Int32 × MS} (X : CallFix p m c cX12_tags 1 s args wsX12_tags RX12) (hret : mRi p l e ({ frames := 0, cells := 0, slots := 0, locals := 0 } : Room) s m args below meth c Q cX12_tags D cy ci h A0 .int o) {I : Nat → Int32} {A : Nat → Nat → Int32} {H : Heap} {locs : List Loc} {ls : Array Slot} (hf : f_tags_0  I A = some o) (hM : mH D cy ci h A0 s H locs I A) (hl : lv_has ls 1 [(0, .ref (h 0))]) : W p l e ({ frames := 0, cells := 0, slots := 0, locals := 0 } : Room) s m args below meth c H locs 0 0 Q (F0 m 0 ls []) := by
  obtain ⟨hx, hb, hml, hown, hts⟩ := id X
  unfold f_tags_0 at hf
  refine lv_aload_n hx hb dX12_tags_0 rfl (lv_at hl 0 rfl) ?_
  refine lv_iconst (v := (0 : Int32)) hx hb dX12_tags_1 (by decide) ?_
  refine m_put X hw_tags hM 0 (by decide) fl_tags_0 mi_0 rfl (tyX12_ok 0 (by decide)) dX12_tags_2 (fun H locs hM => ?_)
  obtain ⟨I1, ev, hf⟩ := m_bndE hf
  replace hM := m_hI hM ev
  clear ev
  refine lv_aload_n hx hb dX12_tags_5 rfl (lv_at hl 0 rfl) ?_
  refine m_get (v := .ref (h 18)) X hw_tags hM 18 (by decide) fl_tags_18 rfl dX12_tags_6 ?_
  refine lv_aload_n hx hb dX12_tags_9 rfl (lv_at hl 0 rfl) ?_
  refine m_get (v := .int (I1 5)) X hw_tags hM 5 (by decide) fl_tags_5 rfl dX12_tags_10 ?_
  obtain ⟨cd, hf⟩ := m_chkE hf
  refine m_iald X hM 18 14 2 rfl cd dX12_tags_13 ?_
  clear cd
  obtain ⟨v2, ev, hf⟩ := m_bndE hf
  refine m_top ev ?_
  clear ev
  cases hf
  exact hret H locs _ ls hM rfl dX12_tags_14
noncomputable def f_tags (I : Nat → Int32) (A : Nat → Nat → Int32) : Option (Int32 × MS) := f_tags_0  I A
theorem c_tags {l : Launch} {D : va_G} {cy ci : ClassId} {h : Nat → Nat} {I : Nat → Int32} {A : Nat → Nat → Int32} {o : Int32 × MS} (hf : f_tags  I A = some o) : mMi l yX12_tags wsX12_tags ({ frames := 0, cells := 0, slots := 0, locals := 0 } : Room) [.ref (h 0)] D cy ci h I A o :=
  m_entryI (cc := cX12_tags) (maxL := 1) (by decide) rfl rfl (Nat.le_of_ble_eq_true rfl) (fun p e s m args below meth c A0 Q H locs ls X hret hM hl => w_tags_0 X hret hf hM (lv_sub hl [0] rfl))
theorem hw_tag : ∀ w ∈ wsX120, w ∈ wsX12_tag := by decide +kernel
theorem fl_tag_0 : Cond.fieldLink RX12 99 "MoveTextsModel" "thrown" "I" ∈ wsX12_tag := by decide +kernel
theorem fl_tag_5 : Cond.fieldLink RX12 347 "MoveTextsModel" "game" "I" ∈ wsX12_tag := by decide +kernel
theorem fl_tag_18 : Cond.fieldLink RX12 52 "MoveTextsModel" "tagCount" "[I" ∈ wsX12_tag := by decide +kernel
theorem fl_tag_19 : Cond.fieldLink RX12 55 "MoveTextsModel" "nameSize" "[I" ∈ wsX12_tag := by decide +kernel
theorem fl_tag_20 : Cond.fieldLink RX12 58 "MoveTextsModel" "names" "[C" ∈ wsX12_tag := by decide +kernel
theorem fl_tag_21 : Cond.fieldLink RX12 61 "MoveTextsModel" "valueSize" "[I" ∈ wsX12_tag := by decide +kernel
theorem fl_tag_22 : Cond.fieldLink RX12 64 "MoveTextsModel" "values" "[C" ∈ wsX12_tag := by decide +kernel
theorem hd_tag : yX12_tag.cls = RX12 ∧ yX12_tag.cls ≠ "java/lang/invoke/MethodHandle" ∧ yX12_tag.cls ≠ "java/lang/invoke/VarHandle" ∧ (parseMethodDescriptor yX12_tag.desc).map (fun d => d.parameters.length) = some 3 := by decide +kernel
noncomputable def f_tag_132 (t0 : Int32) (I : Nat → Int32) (A : Nat → Nat → Int32) : Option (Int32 × MS) :=
  some (t0, (I, A))

set_option maxRecDepth 100000 in
set_option maxHeartbeats 4000000 in
theorem w_tag_132 {p : Program} {l : Launch} {e : Env} {s : State} {m : MethodId} {args : Array Value} {below : List Frame} {meth : Method} {c : Code} {Q : State → Prop} {D : va_G} {cy ci : ClassId} {h : Nat → Nat} {A0 : Nat → Prop} {o : Int32 × MS} (X : CallFix p m c cX12_tag 5 s args wsX12_tag RX12) (hret : mRi p l e ({ frames := 0, cells := 0, slots := 0, locals := 0 } : Room) s m args below meth c Q cX12_tag D cy ci h A0 .int o) {t0 : Int32} {I : Nat → Int32} {A : Nat → Nat → Int32} {H : Heap} {locs : List Loc} {ls : Array Slot} (hf : f_tag_132 t0 I A = some o) (hM : mH D cy ci h A0 s H locs I A) (hl : lv_has ls 5 []) : W p l e ({ frames := 0, cells := 0, slots := 0, locals := 0 } : Room) s m args below meth c H locs 0 0 Q (F0 m 132 ls [.int t0]) := by
  obtain ⟨hx, hb, hml, hown, hts⟩ := id X
  unfold f_tag_132 at hf
  cases hf
  exact hret H locs _ ls hM rfl dX12_tag_132
noncomputable def f_tag_74 (x1 : Int32) (x2 : Int32) (x3 : Int32) (t0 : Int32) (I : Nat → Int32) (A : Nat → Nat → Int32) : Option (Int32 × MS) :=
  m_if (x3 < t0) (
  m_if (x2 = 0) (
  m_bnd ((96 : Int32) * (I 5)) (fun v1 =>
  m_bnd ((12 : Int32) * x1) (fun v2 =>
  m_bnd (v1 + v2) (fun v3 =>
  m_bnd (v3 + x3) (fun v4 =>
  m_chk (¬ (v4 < 0 ∨ 192 ≤ (v4).toNatClampNeg)) (
  m_bnd (A 20 (v4).toNatClampNeg) (fun v5 =>
  f_tag_132 v5 I A))))))
  ) (
  m_bnd ((768 : Int32) * (I 5)) (fun v6 =>
  m_bnd ((96 : Int32) * x1) (fun v7 =>
  m_bnd (v6 + v7) (fun v8 =>
  m_bnd (v8 + x3) (fun v9 =>
  m_chk (¬ (v9 < 0 ∨ 1536 ≤ (v9).toNatClampNeg)) (
  m_bnd (A 22 (v9).toNatClampNeg) (fun v10 =>
  f_tag_132 v10 I A))))))
  )
  ) (
  f_tag_132 (0 : Int32) I A
  )

set_option maxRecDepth 100000 in
set_option maxHeartbeats 4000000 in
theorem w_tag_74 {p : Program} {l : Launch} {e : Env} {s : State} {m : MethodId} {args : Array Value} {below : List Frame} {meth : Method} {c : Code} {Q : State → Prop} {D : va_G} {cy ci : ClassId} {h : Nat → Nat} {A0 : Nat → Prop} {o : Int32 × MS} (X : CallFix p m c cX12_tag 5 s args wsX12_tag RX12) (hret : mRi p l e ({ frames := 0, cells := 0, slots := 0, locals := 0 } : Room) s m args below meth c Q cX12_tag D cy ci h A0 .int o) {x1 : Int32} {x2 : Int32} {x3 : Int32} {t0 : Int32} {I : Nat → Int32} {A : Nat → Nat → Int32} {H : Heap} {locs : List Loc} {ls : Array Slot} (hf : f_tag_74 x1 x2 x3 t0 I A = some o) (hM : mH D cy ci h A0 s H locs I A) (hl : lv_has ls 5 [(0, .ref (h 0)), (1, .int x1), (2, .int x2), (3, .int x3)]) : W p l e ({ frames := 0, cells := 0, slots := 0, locals := 0 } : Room) s m args below meth c H locs 0 0 Q (F0 m 74 ls [.int t0]) := by
  obtain ⟨hx, hb, hml, hown, hts⟩ := id X
  unfold f_tag_74 at hf
  refine lv_istore (lv' := [(4, .int t0), (0, .ref (h 0)), (1, .int x1), (2, .int x2), (3, .int x3)]) hx hb dX12_tag_74 hl (by decide) rfl (fun ls hl => ?_)
  refine lv_iload_n hx hb dX12_tag_76 rfl (lv_at hl 4 rfl) ?_
  refine lv_iload hx hb dX12_tag_77 (lv_at hl 0 rfl) ?_
  refine lv_icmp_lt (tgt := 86) hx hb dX12_tag_79 (by decide) (fun cc1 => ?_) (fun cc1 => ?_)
  · replace hf := m_ifT hf cc1
    refine lv_iload_n hx hb dX12_tag_86 rfl (lv_at hl 3 rfl) ?_
    refine lv_if_eq (tgt := 113) hx hb dX12_tag_87 (by decide) (fun cc1 => ?_) (fun cc1 => ?_)
    · replace hf := m_ifT hf cc1
      refine lv_aload_n hx hb dX12_tag_113 rfl (lv_at hl 1 rfl) ?_
      refine m_get (v := .ref (h 20)) X hw_tag hM 20 (by decide) fl_tag_20 rfl dX12_tag_114 ?_
      refine lv_bipush (v := (96 : Int32)) hx hb dX12_tag_117 (by decide) ?_
      refine lv_aload_n hx hb dX12_tag_119 rfl (lv_at hl 1 rfl) ?_
      refine m_get (v := .int (I 5)) X hw_tag hM 5 (by decide) fl_tag_5 rfl dX12_tag_120 ?_
      refine lv_imul hx hb dX12_tag_123 ?_
      obtain ⟨v1, ev, hf⟩ := m_bndE hf
      refine m_top ev ?_
      clear ev
      refine lv_bipush (v := (12 : Int32)) hx hb dX12_tag_124 (by decide) ?_
      refine lv_iload_n hx hb dX12_tag_126 rfl (lv_at hl 2 rfl) ?_
      refine lv_imul hx hb dX12_tag_127 ?_
      obtain ⟨v2, ev, hf⟩ := m_bndE hf
      refine m_top ev ?_
      clear ev
      refine lv_iadd hx hb dX12_tag_128 ?_
      obtain ⟨v3, ev, hf⟩ := m_bndE hf
      refine m_top ev ?_
      clear ev
      refine lv_iload_n hx hb dX12_tag_129 rfl (lv_at hl 4 rfl) ?_
      refine lv_iadd hx hb dX12_tag_130 ?_
      obtain ⟨v4, ev, hf⟩ := m_bndE hf
      refine m_top ev ?_
      clear ev
      obtain ⟨cd, hf⟩ := m_chkE hf
      refine m_cald X hM 20 16 192 rfl cd dX12_tag_131 ?_
      clear cd
      obtain ⟨v5, ev, hf⟩ := m_bndE hf
      refine m_top ev ?_
      clear ev
      exact w_tag_132 X hret hf hM (lv_sub hl [] rfl)
    · replace hf := m_ifF hf cc1
      refine lv_aload_n hx hb dX12_tag_90 rfl (lv_at hl 1 rfl) ?_
      refine m_get (v := .ref (h 22)) X hw_tag hM 22 (by decide) fl_tag_22 rfl dX12_tag_91 ?_
      refine lv_sipush (v := (768 : Int32)) hx hb dX12_tag_94 (by decide) ?_
      refine lv_aload_n hx hb dX12_tag_97 rfl (lv_at hl 1 rfl) ?_
      refine m_get (v := .int (I 5)) X hw_tag hM 5 (by decide) fl_tag_5 rfl dX12_tag_98 ?_
      refine lv_imul hx hb dX12_tag_101 ?_
      obtain ⟨v6, ev, hf⟩ := m_bndE hf
      refine m_top ev ?_
      clear ev
      refine lv_bipush (v := (96 : Int32)) hx hb dX12_tag_102 (by decide) ?_
      refine lv_iload_n hx hb dX12_tag_104 rfl (lv_at hl 2 rfl) ?_
      refine lv_imul hx hb dX12_tag_105 ?_
      obtain ⟨v7, ev, hf⟩ := m_bndE hf
      refine m_top ev ?_
      clear ev
      refine lv_iadd hx hb dX12_tag_106 ?_
      obtain ⟨v8, ev, hf⟩ := m_bndE hf
      refine m_top ev ?_
      clear ev
      refine lv_iload_n hx hb dX12_tag_107 rfl (lv_at hl 4 rfl) ?_
      refine lv_iadd hx hb dX12_tag_108 ?_
      obtain ⟨v9, ev, hf⟩ := m_bndE hf
      refine m_top ev ?_
      clear ev
      obtain ⟨cd, hf⟩ := m_chkE hf
      refine m_cald X hM 22 18 1536 rfl cd dX12_tag_109 ?_
      clear cd
      obtain ⟨v10, ev, hf⟩ := m_bndE hf
      refine m_top ev ?_
      clear ev
      refine lv_goto (tgt := 132) hx hb dX12_tag_110 (by decide) ?_
      exact w_tag_132 X hret hf hM (lv_sub hl [] rfl)
  · replace hf := m_ifF hf cc1
    refine lv_iconst (v := (0 : Int32)) hx hb dX12_tag_82 (by decide) ?_
    refine lv_goto (tgt := 132) hx hb dX12_tag_83 (by decide) ?_
    exact w_tag_132 X hret hf hM (lv_sub hl [] rfl)
noncomputable def f_tag_27 (x1 : Int32) (x2 : Int32) (x3 : Int32) (t0 : Int32) (I : Nat → Int32) (A : Nat → Nat → Int32) : Option (Int32 × MS) :=
  m_bnd (upd I 0 t0) (fun I1 =>
  m_if ((I1 0) ≤ 0) (
  m_if (x2 = 0) (
  m_bnd ((8 : Int32) * (I1 5)) (fun v2 =>
  m_bnd (v2 + x1) (fun v3 =>
  m_chk (¬ (v3 < 0 ∨ 16 ≤ (v3).toNatClampNeg)) (
  m_bnd (A 19 (v3).toNatClampNeg) (fun v4 =>
  f_tag_74 x1 x2 x3 v4 I1 A))))
  ) (
  m_bnd ((8 : Int32) * (I1 5)) (fun v5 =>
  m_bnd (v5 + x1) (fun v6 =>
  m_chk (¬ (v6 < 0 ∨ 16 ≤ (v6).toNatClampNeg)) (
  m_bnd (A 21 (v6).toNatClampNeg) (fun v7 =>
  f_tag_74 x1 x2 x3 v7 I1 A))))
  )
  ) (
  some ((0 : Int32), (I1, A))
  ))

set_option maxRecDepth 100000 in
set_option maxHeartbeats 4000000 in
theorem w_tag_27 {p : Program} {l : Launch} {e : Env} {s : State} {m : MethodId} {args : Array Value} {below : List Frame} {meth : Method} {c : Code} {Q : State → Prop} {D : va_G} {cy ci : ClassId} {h : Nat → Nat} {A0 : Nat → Prop} {o : Int32 × MS} (X : CallFix p m c cX12_tag 5 s args wsX12_tag RX12) (hret : mRi p l e ({ frames := 0, cells := 0, slots := 0, locals := 0 } : Room) s m args below meth c Q cX12_tag D cy ci h A0 .int o) {x1 : Int32} {x2 : Int32} {x3 : Int32} {t0 : Int32} {I : Nat → Int32} {A : Nat → Nat → Int32} {H : Heap} {locs : List Loc} {ls : Array Slot} (hf : f_tag_27 x1 x2 x3 t0 I A = some o) (hM : mH D cy ci h A0 s H locs I A) (hl : lv_has ls 5 [(0, .ref (h 0)), (1, .int x1), (2, .int x2), (3, .int x3)]) : W p l e ({ frames := 0, cells := 0, slots := 0, locals := 0 } : Room) s m args below meth c H locs 0 0 Q (F0 m 27 ls [.int t0, .ref (h 0)]) := by
  obtain ⟨hx, hb, hml, hown, hts⟩ := id X
  unfold f_tag_27 at hf
  refine m_put X hw_tag hM 0 (by decide) fl_tag_0 mi_0 rfl (tyX12_ok 0 (by decide)) dX12_tag_27 (fun H locs hM => ?_)
  obtain ⟨I1, ev, hf⟩ := m_bndE hf
  replace hM := m_hI hM ev
  clear ev
  refine lv_aload_n hx hb dX12_tag_30 rfl (lv_at hl 0 rfl) ?_
  refine m_get (v := .int (I1 0)) X hw_tag hM 0 (by decide) fl_tag_0 rfl dX12_tag_31 ?_
  refine lv_if_le (tgt := 39) hx hb dX12_tag_34 (by decide) (fun cc1 => ?_) (fun cc1 => ?_)
  · replace hf := m_ifT hf cc1
    refine lv_iload_n hx hb dX12_tag_39 rfl (lv_at hl 2 rfl) ?_
    refine lv_if_eq (tgt := 60) hx hb dX12_tag_40 (by decide) (fun cc1 => ?_) (fun cc1 => ?_)
    · replace hf := m_ifT hf cc1
      refine lv_aload_n hx hb dX12_tag_60 rfl (lv_at hl 0 rfl) ?_
      refine m_get (v := .ref (h 19)) X hw_tag hM 19 (by decide) fl_tag_19 rfl dX12_tag_61 ?_
      refine lv_bipush (v := (8 : Int32)) hx hb dX12_tag_64 (by decide) ?_
      refine lv_aload_n hx hb dX12_tag_66 rfl (lv_at hl 0 rfl) ?_
      refine m_get (v := .int (I1 5)) X hw_tag hM 5 (by decide) fl_tag_5 rfl dX12_tag_67 ?_
      refine lv_imul hx hb dX12_tag_70 ?_
      obtain ⟨v2, ev, hf⟩ := m_bndE hf
      refine m_top ev ?_
      clear ev
      refine lv_iload_n hx hb dX12_tag_71 rfl (lv_at hl 1 rfl) ?_
      refine lv_iadd hx hb dX12_tag_72 ?_
      obtain ⟨v3, ev, hf⟩ := m_bndE hf
      refine m_top ev ?_
      clear ev
      obtain ⟨cd, hf⟩ := m_chkE hf
      refine m_iald X hM 19 15 16 rfl cd dX12_tag_73 ?_
      clear cd
      obtain ⟨v4, ev, hf⟩ := m_bndE hf
      refine m_top ev ?_
      clear ev
      exact w_tag_74 X hret hf hM (lv_sub hl [0, 1, 2, 3] rfl)
    · replace hf := m_ifF hf cc1
      refine lv_aload_n hx hb dX12_tag_43 rfl (lv_at hl 0 rfl) ?_
      refine m_get (v := .ref (h 21)) X hw_tag hM 21 (by decide) fl_tag_21 rfl dX12_tag_44 ?_
      refine lv_bipush (v := (8 : Int32)) hx hb dX12_tag_47 (by decide) ?_
      refine lv_aload_n hx hb dX12_tag_49 rfl (lv_at hl 0 rfl) ?_
      refine m_get (v := .int (I1 5)) X hw_tag hM 5 (by decide) fl_tag_5 rfl dX12_tag_50 ?_
      refine lv_imul hx hb dX12_tag_53 ?_
      obtain ⟨v5, ev, hf⟩ := m_bndE hf
      refine m_top ev ?_
      clear ev
      refine lv_iload_n hx hb dX12_tag_54 rfl (lv_at hl 1 rfl) ?_
      refine lv_iadd hx hb dX12_tag_55 ?_
      obtain ⟨v6, ev, hf⟩ := m_bndE hf
      refine m_top ev ?_
      clear ev
      obtain ⟨cd, hf⟩ := m_chkE hf
      refine m_iald X hM 21 17 16 rfl cd dX12_tag_56 ?_
      clear cd
      obtain ⟨v7, ev, hf⟩ := m_bndE hf
      refine m_top ev ?_
      clear ev
      refine lv_goto (tgt := 74) hx hb dX12_tag_57 (by decide) ?_
      exact w_tag_74 X hret hf hM (lv_sub hl [0, 1, 2, 3] rfl)
  · replace hf := m_ifF hf cc1
    refine lv_iconst (v := (0 : Int32)) hx hb dX12_tag_37 (by decide) ?_
    cases hf
    exact hret H locs _ ls hM rfl dX12_tag_38
noncomputable def f_tag_22 (x1 : Int32) (x2 : Int32) (x3 : Int32) (I : Nat → Int32) (A : Nat → Nat → Int32) : Option (Int32 × MS) :=
  f_tag_27 x1 x2 x3 (1 : Int32) I A

set_option maxRecDepth 100000 in
set_option maxHeartbeats 4000000 in
theorem w_tag_22 {p : Program} {l : Launch} {e : Env} {s : State} {m : MethodId} {args : Array Value} {below : List Frame} {meth : Method} {c : Code} {Q : State → Prop} {D : va_G} {cy ci : ClassId} {h : Nat → Nat} {A0 : Nat → Prop} {o : Int32 × MS} (X : CallFix p m c cX12_tag 5 s args wsX12_tag RX12) (hret : mRi p l e ({ frames := 0, cells := 0, slots := 0, locals := 0 } : Room) s m args below meth c Q cX12_tag D cy ci h A0 .int o) {x1 : Int32} {x2 : Int32} {x3 : Int32} {I : Nat → Int32} {A : Nat → Nat → Int32} {H : Heap} {locs : List Loc} {ls : Array Slot} (hf : f_tag_22 x1 x2 x3 I A = some o) (hM : mH D cy ci h A0 s H locs I A) (hl : lv_has ls 5 [(0, .ref (h 0)), (1, .int x1), (2, .int x2), (3, .int x3)]) : W p l e ({ frames := 0, cells := 0, slots := 0, locals := 0 } : Room) s m args below meth c H locs 0 0 Q (F0 m 22 ls [.ref (h 0)]) := by
  obtain ⟨hx, hb, hml, hown, hts⟩ := id X
  unfold f_tag_22 at hf
  refine lv_iconst (v := (1 : Int32)) hx hb dX12_tag_22 (by decide) ?_
  refine lv_goto (tgt := 27) hx hb dX12_tag_23 (by decide) ?_
  exact w_tag_27 X hret hf hM (lv_sub hl [0, 1, 2, 3] rfl)
noncomputable def f_tag_0 (x1 : Int32) (x2 : Int32) (x3 : Int32) (I : Nat → Int32) (A : Nat → Nat → Int32) : Option (Int32 × MS) :=
  m_if (x1 < 0) (
  f_tag_22 x1 x2 x3 I A
  ) (
  m_chk (¬ ((I 5) < 0 ∨ 2 ≤ ((I 5)).toNatClampNeg)) (
  m_bnd (A 18 ((I 5)).toNatClampNeg) (fun v1 =>
  m_if (v1 ≤ x1) (
  f_tag_22 x1 x2 x3 I A
  ) (
  m_if (0 ≤ x3) (
  f_tag_27 x1 x2 x3 (0 : Int32) I A
  ) (
  f_tag_22 x1 x2 x3 I A
  )
  )))
  )

set_option maxRecDepth 100000 in
set_option maxHeartbeats 4000000 in
theorem w_tag_0 {p : Program} {l : Launch} {e : Env} {s : State} {m : MethodId} {args : Array Value} {below : List Frame} {meth : Method} {c : Code} {Q : State → Prop} {D : va_G} {cy ci : ClassId} {h : Nat → Nat} {A0 : Nat → Prop} {o : Int32 × MS} (X : CallFix p m c cX12_tag 5 s args wsX12_tag RX12) (hret : mRi p l e ({ frames := 0, cells := 0, slots := 0, locals := 0 } : Room) s m args below meth c Q cX12_tag D cy ci h A0 .int o) {x1 : Int32} {x2 : Int32} {x3 : Int32} {I : Nat → Int32} {A : Nat → Nat → Int32} {H : Heap} {locs : List Loc} {ls : Array Slot} (hf : f_tag_0 x1 x2 x3 I A = some o) (hM : mH D cy ci h A0 s H locs I A) (hl : lv_has ls 5 [(0, .ref (h 0)), (1, .int x1), (2, .int x2), (3, .int x3)]) : W p l e ({ frames := 0, cells := 0, slots := 0, locals := 0 } : Room) s m args below meth c H locs 0 0 Q (F0 m 0 ls []) := by
  obtain ⟨hx, hb, hml, hown, hts⟩ := id X
  unfold f_tag_0 at hf
  refine lv_aload_n hx hb dX12_tag_0 rfl (lv_at hl 0 rfl) ?_
  refine lv_iload_n hx hb dX12_tag_1 rfl (lv_at hl 1 rfl) ?_
  refine lv_if_lt (tgt := 22) hx hb dX12_tag_2 (by decide) (fun cc1 => ?_) (fun cc1 => ?_)
  · replace hf := m_ifT hf cc1
    exact w_tag_22 X hret hf hM (lv_sub hl [0, 1, 2, 3] rfl)
  · replace hf := m_ifF hf cc1
    refine lv_iload_n hx hb dX12_tag_5 rfl (lv_at hl 1 rfl) ?_
    refine lv_aload_n hx hb dX12_tag_6 rfl (lv_at hl 0 rfl) ?_
    refine m_get (v := .ref (h 18)) X hw_tag hM 18 (by decide) fl_tag_18 rfl dX12_tag_7 ?_
    refine lv_aload_n hx hb dX12_tag_10 rfl (lv_at hl 0 rfl) ?_
    refine m_get (v := .int (I 5)) X hw_tag hM 5 (by decide) fl_tag_5 rfl dX12_tag_11 ?_
    obtain ⟨cd, hf⟩ := m_chkE hf
    refine m_iald X hM 18 14 2 rfl cd dX12_tag_14 ?_
    clear cd
    obtain ⟨v1, ev, hf⟩ := m_bndE hf
    refine m_top ev ?_
    clear ev
    refine lv_icmp_ge (tgt := 22) hx hb dX12_tag_15 (by decide) (fun cc1 => ?_) (fun cc1 => ?_)
    · replace hf := m_ifT hf cc1
      exact w_tag_22 X hret hf hM (lv_sub hl [0, 1, 2, 3] rfl)
    · replace hf := m_ifF hf cc1
      refine lv_iload_n hx hb dX12_tag_18 rfl (lv_at hl 3 rfl) ?_
      refine lv_if_ge (tgt := 26) hx hb dX12_tag_19 (by decide) (fun cc1 => ?_) (fun cc1 => ?_)
      · replace hf := m_ifT hf cc1
        refine lv_iconst (v := (0 : Int32)) hx hb dX12_tag_26 (by decide) ?_
        exact w_tag_27 X hret hf hM (lv_sub hl [0, 1, 2, 3] rfl)
      · replace hf := m_ifF hf cc1
        exact w_tag_22 X hret hf hM (lv_sub hl [0, 1, 2, 3] rfl)
noncomputable def f_tag (x1 : Int32) (x2 : Int32) (x3 : Int32) (I : Nat → Int32) (A : Nat → Nat → Int32) : Option (Int32 × MS) := f_tag_0 x1 x2 x3 I A
theorem c_tag {l : Launch} {D : va_G} {cy ci : ClassId} {h : Nat → Nat} {x1 : Int32} {x2 : Int32} {x3 : Int32} {I : Nat → Int32} {A : Nat → Nat → Int32} {o : Int32 × MS} (hf : f_tag x1 x2 x3 I A = some o) : mMi l yX12_tag wsX12_tag ({ frames := 0, cells := 0, slots := 0, locals := 0 } : Room) [.ref (h 0), .int x1, .int x2, .int x3] D cy ci h I A o :=
  m_entryI (cc := cX12_tag) (maxL := 5) (by decide) rfl rfl (Nat.le_of_ble_eq_true rfl) (fun p e s m args below meth c A0 Q H locs ls X hret hM hl => w_tag_0 X hret hf hM (lv_sub hl [0, 1, 2, 3] rfl))
end
section
noncomputable def RJ11 : String := "java/lang/Character"
noncomputable def TJ11 : u_T := fun k => match k with
  | _ => ("", "", "", false)
noncomputable def tyJ11 : Nat → FieldType := fun k => match k with
  | _ => .int
theorem nmJ11 : ∀ a, a < 0 → ∀ b, b < 0 → a ≠ b → (TJ11 a).2.1 ≠ (TJ11 b).2.1 := by decide +kernel
theorem tyJ11_ok : ∀ k, k < 0 → parseFieldDescriptor (TJ11 k).2.2.1 = some (tyJ11 k) := by decide +kernel
noncomputable abbrev cJ11_isValidCodePoint_9a6ad : ByteArray := prog_15_method_11_code
noncomputable def yJ11_isValidCodePoint_9a6ad : MethodName := ⟨RJ11, "isValidCodePoint", "(I)Z"⟩
noncomputable abbrev cJ11_highSurrogate_5068e : ByteArray := prog_15_method_28_code
noncomputable def yJ11_highSurrogate_5068e : MethodName := ⟨RJ11, "highSurrogate", "(I)C"⟩
noncomputable abbrev cJ11_lowSurrogate_5068e : ByteArray := prog_15_method_29_code
noncomputable def yJ11_lowSurrogate_5068e : MethodName := ⟨RJ11, "lowSurrogate", "(I)C"⟩
noncomputable def RJ9 : String := "java/lang/Math"
noncomputable def TJ9 : u_T := fun k => match k with
  | _ => ("", "", "", false)
noncomputable def tyJ9 : Nat → FieldType := fun k => match k with
  | _ => .int
theorem nmJ9 : ∀ a, a < 0 → ∀ b, b < 0 → a ≠ b → (TJ9 a).2.1 ≠ (TJ9 b).2.1 := by decide +kernel
theorem tyJ9_ok : ∀ k, k < 0 → parseFieldDescriptor (TJ9 k).2.2.1 = some (tyJ9 k) := by decide +kernel
noncomputable abbrev cJ9_max_7cf53 : ByteArray := prog_20_method_65_code
noncomputable def yJ9_max_7cf53 : MethodName := ⟨RJ9, "max", "(II)I"⟩
noncomputable abbrev cJ9_min_7cf53 : ByteArray := prog_20_method_69_code
noncomputable def yJ9_min_7cf53 : MethodName := ⟨RJ9, "min", "(II)I"⟩
noncomputable def RJ0 : String := "java/lang/String"
noncomputable def TJ0 : u_T := fun k => match k with
  | _ => ("", "", "", false)
noncomputable def tyJ0 : Nat → FieldType := fun k => match k with
  | _ => .int
theorem nmJ0 : ∀ a, a < 0 → ∀ b, b < 0 → a ≠ b → (TJ0 a).2.1 ≠ (TJ0 b).2.1 := by decide +kernel
theorem tyJ0_ok : ∀ k, k < 0 → parseFieldDescriptor (TJ0 k).2.2.1 = some (tyJ0 k) := by decide +kernel
noncomputable abbrev cJ0_length_8abf5 : ByteArray := prog_22_method_54_code
noncomputable def yJ0_length_8abf5 : MethodName := ⟨RJ0, "length", "()I"⟩
noncomputable abbrev cJ0_charAt_5068e : ByteArray := prog_22_method_56_code
noncomputable def yJ0_charAt_5068e : MethodName := ⟨RJ0, "charAt", "(I)C"⟩
noncomputable abbrev cJ0_indexOf_0f7a4 : ByteArray := prog_22_method_79_code
noncomputable def yJ0_indexOf_0f7a4 : MethodName := ⟨RJ0, "indexOf", "(I)I"⟩
noncomputable abbrev cJ0_indexOf_7cf53 : ByteArray := prog_22_method_80_code
noncomputable def yJ0_indexOf_7cf53 : MethodName := ⟨RJ0, "indexOf", "(II)I"⟩
noncomputable abbrev cJ0_coder_7d493 : ByteArray := prog_22_method_152_code
noncomputable def yJ0_coder_7d493 : MethodName := ⟨RJ0, "coder", "()B"⟩
noncomputable abbrev cJ0_isLatin1_aae02 : ByteArray := prog_22_method_154_code
noncomputable def yJ0_isLatin1_aae02 : MethodName := ⟨RJ0, "isLatin1", "()Z"⟩
noncomputable abbrev cJ0_checkIndex_df160 : ByteArray := prog_22_method_155_code
noncomputable def yJ0_checkIndex_df160 : MethodName := ⟨RJ0, "checkIndex", "(II)V"⟩
noncomputable abbrev cJ0_checkBoundsBeginEnd_23922 : ByteArray := prog_22_method_158_code
noncomputable def yJ0_checkBoundsBeginEnd_23922 : MethodName := ⟨RJ0, "checkBoundsBeginEnd", "(III)V"⟩
noncomputable def RJ1 : String := "java/lang/StringLatin1"
noncomputable def TJ1 : u_T := fun k => match k with
  | _ => ("", "", "", false)
noncomputable def tyJ1 : Nat → FieldType := fun k => match k with
  | _ => .int
theorem nmJ1 : ∀ a, a < 0 → ∀ b, b < 0 → a ≠ b → (TJ1 a).2.1 ≠ (TJ1 b).2.1 := by decide +kernel
theorem tyJ1_ok : ∀ k, k < 0 → parseFieldDescriptor (TJ1 k).2.2.1 = some (tyJ1 k) := by decide +kernel
noncomputable abbrev cJ1_charAt_3b067 : ByteArray := prog_23_method_2_code
noncomputable def yJ1_charAt_3b067 : MethodName := ⟨RJ1, "charAt", "([BI)C"⟩
noncomputable abbrev cJ1_canEncode_9a6ad : ByteArray := prog_23_method_4_code
noncomputable def yJ1_canEncode_9a6ad : MethodName := ⟨RJ1, "canEncode", "(I)Z"⟩
noncomputable abbrev cJ1_indexOf_4cfef : ByteArray := prog_23_method_22_code
noncomputable def yJ1_indexOf_4cfef : MethodName := ⟨RJ1, "indexOf", "([BIII)I"⟩
noncomputable abbrev cJ1_indexOfChar_4cfef : ByteArray := prog_23_method_23_code
noncomputable def yJ1_indexOfChar_4cfef : MethodName := ⟨RJ1, "indexOfChar", "([BIII)I"⟩
noncomputable def RJ2 : String := "java/lang/StringUTF16"
noncomputable def TJ2 : u_T := fun k => match k with
  | _ => ("", "", "", false)
noncomputable def tyJ2 : Nat → FieldType := fun k => match k with
  | _ => .int
theorem nmJ2 : ∀ a, a < 0 → ∀ b, b < 0 → a ≠ b → (TJ2 a).2.1 ≠ (TJ2 b).2.1 := by decide +kernel
theorem tyJ2_ok : ∀ k, k < 0 → parseFieldDescriptor (TJ2 k).2.2.1 = some (tyJ2 k) := by decide +kernel
noncomputable abbrev cJ2_getChar_3b067 : ByteArray := prog_24_method_5_code
noncomputable def yJ2_getChar_3b067 : MethodName := ⟨RJ2, "getChar", "([BI)C"⟩
noncomputable abbrev cJ2_length_9d52b : ByteArray := prog_24_method_6_code
noncomputable def yJ2_length_9d52b : MethodName := ⟨RJ2, "length", "([B)I"⟩
noncomputable abbrev cJ2_indexOf_4cfef : ByteArray := prog_24_method_40_code
noncomputable def yJ2_indexOf_4cfef : MethodName := ⟨RJ2, "indexOf", "([BIII)I"⟩
noncomputable abbrev cJ2_indexOfChar_4cfef : ByteArray := prog_24_method_47_code
noncomputable def yJ2_indexOfChar_4cfef : MethodName := ⟨RJ2, "indexOfChar", "([BIII)I"⟩
noncomputable abbrev cJ2_indexOfCharUnsafe_4cfef : ByteArray := prog_24_method_48_code
noncomputable def yJ2_indexOfCharUnsafe_4cfef : MethodName := ⟨RJ2, "indexOfCharUnsafe", "([BIII)I"⟩
noncomputable abbrev cJ2_indexOfSupplementary_4cfef : ByteArray := prog_24_method_49_code
noncomputable def yJ2_indexOfSupplementary_4cfef : MethodName := ⟨RJ2, "indexOfSupplementary", "([BIII)I"⟩
noncomputable abbrev cJ2_charAt_3b067 : ByteArray := prog_24_method_83_code
noncomputable def yJ2_charAt_3b067 : MethodName := ⟨RJ2, "charAt", "([BI)C"⟩
noncomputable abbrev cJ2_checkIndex_2214a : ByteArray := prog_24_method_91_code
noncomputable def yJ2_checkIndex_2214a : MethodName := ⟨RJ2, "checkIndex", "(I[B)V"⟩
noncomputable abbrev cJ2_checkBoundsBeginEnd_d044e : ByteArray := prog_24_method_93_code
noncomputable def yJ2_checkBoundsBeginEnd_d044e : MethodName := ⟨RJ2, "checkBoundsBeginEnd", "(II[B)V"⟩
noncomputable def RJ10 : String := "java/lang/System"
noncomputable def TJ10 : u_T := fun k => match k with
  | _ => ("", "", "", false)
noncomputable def tyJ10 : Nat → FieldType := fun k => match k with
  | _ => .int
theorem nmJ10 : ∀ a, a < 0 → ∀ b, b < 0 → a ≠ b → (TJ10 a).2.1 ≠ (TJ10 b).2.1 := by decide +kernel
theorem tyJ10_ok : ∀ k, k < 0 → parseFieldDescriptor (TJ10 k).2.2.1 = some (tyJ10 k) := by decide +kernel
noncomputable def RJ3 : String := "jdk/internal/util/Preconditions"
noncomputable def TJ3 : u_T := fun k => match k with
  | _ => ("", "", "", false)
noncomputable def tyJ3 : Nat → FieldType := fun k => match k with
  | _ => .int
theorem nmJ3 : ∀ a, a < 0 → ∀ b, b < 0 → a ≠ b → (TJ3 a).2.1 ≠ (TJ3 b).2.1 := by decide +kernel
theorem tyJ3_ok : ∀ k, k < 0 → parseFieldDescriptor (TJ3 k).2.2.1 = some (tyJ3 k) := by decide +kernel
noncomputable abbrev cJ3_checkIndex_8e157 : ByteArray := prog_28_method_11_code
noncomputable def yJ3_checkIndex_8e157 : MethodName := ⟨RJ3, "checkIndex", "(IILjava/util/function/BiFunction;)I"⟩
noncomputable abbrev cJ3_checkFromToIndex_8c36e : ByteArray := prog_28_method_12_code
noncomputable def yJ3_checkFromToIndex_8c36e : MethodName := ⟨RJ3, "checkFromToIndex", "(IIILjava/util/function/BiFunction;)I"⟩
end
section
noncomputable abbrev wsJ110 : List Cond := u_ws RJ11 TJ11 0
noncomputable abbrev wsJ90 : List Cond := u_ws RJ9 TJ9 0
noncomputable abbrev wsJ00 : List Cond := u_ws RJ0 TJ0 0
noncomputable abbrev wsJ10 : List Cond := u_ws RJ1 TJ1 0
noncomputable abbrev wsJ20 : List Cond := u_ws RJ2 TJ2 0
noncomputable abbrev wsJ100 : List Cond := u_ws RJ10 TJ10 0
noncomputable abbrev wsJ30 : List Cond := u_ws RJ3 TJ3 0
noncomputable def wsJ0_coder_7d493 : List Cond := .code yJ0_coder_7d493 cJ0_coder_7d493 1 (some .byte) :: ([.fieldLink RJ0 38 "java/lang/String" "COMPACT_STRINGS" "Z", .fieldLink RJ0 15 "java/lang/String" "coder" "B"])
noncomputable def wsJ0_length_8abf5 : List Cond := .code yJ0_length_8abf5 cJ0_length_8abf5 1 (some .int) :: ([.fieldLink RJ0 9 "java/lang/String" "value" "[B", .methodLink RJ0 335 yJ0_coder_7d493, .instanceMethod yJ0_coder_7d493, .selects RJ0 yJ0_coder_7d493 yJ0_coder_7d493, .initialized RJ0, .code yJ0_coder_7d493 cJ0_coder_7d493 1 (some .byte), .fieldLink RJ0 38 "java/lang/String" "COMPACT_STRINGS" "Z", .fieldLink RJ0 15 "java/lang/String" "coder" "B"])
noncomputable def wsJ0_isLatin1_aae02 : List Cond := .code yJ0_isLatin1_aae02 cJ0_isLatin1_aae02 1 (some .boolean) :: ([.fieldLink RJ0 38 "java/lang/String" "COMPACT_STRINGS" "Z", .fieldLink RJ0 15 "java/lang/String" "coder" "B"])
noncomputable def wsJ3_checkIndex_8e157 : List Cond := .code yJ3_checkIndex_8e157 cJ3_checkIndex_8e157 3 (some .int) :: ([])
noncomputable def wsJ0_checkIndex_df160 : List Cond := .code yJ0_checkIndex_df160 cJ0_checkIndex_df160 2 none :: ([.fieldLink RJ0 1053 "jdk/internal/util/Preconditions" "SIOOBE_FORMATTER" "Ljava/util/function/BiFunction;", .methodLink RJ0 1059 yJ3_checkIndex_8e157, .static yJ3_checkIndex_8e157, .initialized RJ3, .code yJ3_checkIndex_8e157 cJ3_checkIndex_8e157 3 (some .int)])
noncomputable def wsJ1_charAt_3b067 : List Cond := .code yJ1_charAt_3b067 cJ1_charAt_3b067 2 (some .char) :: ([.methodLink RJ1 9 yJ0_checkIndex_df160, .static yJ0_checkIndex_df160, .initialized RJ0, .code yJ0_checkIndex_df160 cJ0_checkIndex_df160 2 none, .fieldLink RJ0 1053 "jdk/internal/util/Preconditions" "SIOOBE_FORMATTER" "Ljava/util/function/BiFunction;", .methodLink RJ0 1059 yJ3_checkIndex_8e157, .static yJ3_checkIndex_8e157, .initialized RJ3, .code yJ3_checkIndex_8e157 cJ3_checkIndex_8e157 3 (some .int)])
noncomputable def wsJ2_length_9d52b : List Cond := .code yJ2_length_9d52b cJ2_length_9d52b 1 (some .int) :: ([])
noncomputable def wsJ2_checkIndex_2214a : List Cond := .code yJ2_checkIndex_2214a cJ2_checkIndex_2214a 2 none :: ([.methodLink RJ2 48 yJ2_length_9d52b, .static yJ2_length_9d52b, .initialized RJ2, .code yJ2_length_9d52b cJ2_length_9d52b 1 (some .int), .methodLink RJ2 414 yJ0_checkIndex_df160, .static yJ0_checkIndex_df160, .initialized RJ0, .code yJ0_checkIndex_df160 cJ0_checkIndex_df160 2 none, .fieldLink RJ0 1053 "jdk/internal/util/Preconditions" "SIOOBE_FORMATTER" "Ljava/util/function/BiFunction;", .methodLink RJ0 1059 yJ3_checkIndex_8e157, .static yJ3_checkIndex_8e157, .initialized RJ3, .code yJ3_checkIndex_8e157 cJ3_checkIndex_8e157 3 (some .int)])
noncomputable def wsJ2_getChar_3b067 : List Cond := .code yJ2_getChar_3b067 cJ2_getChar_3b067 2 (some .char) :: ([.fieldLink RJ2 44 "java/lang/StringUTF16" "$assertionsDisabled" "Z", .fieldLink RJ2 59 "java/lang/StringUTF16" "HI_BYTE_SHIFT" "I", .fieldLink RJ2 63 "java/lang/StringUTF16" "LO_BYTE_SHIFT" "I", .methodLink RJ2 48 yJ2_length_9d52b, .static yJ2_length_9d52b, .initialized RJ2, .code yJ2_length_9d52b cJ2_length_9d52b 1 (some .int)])
noncomputable def wsJ2_charAt_3b067 : List Cond := .code yJ2_charAt_3b067 cJ2_charAt_3b067 2 (some .char) :: ([.methodLink RJ2 67 yJ2_checkIndex_2214a, .static yJ2_checkIndex_2214a, .initialized RJ2, .code yJ2_checkIndex_2214a cJ2_checkIndex_2214a 2 none, .methodLink RJ2 48 yJ2_length_9d52b, .static yJ2_length_9d52b, .code yJ2_length_9d52b cJ2_length_9d52b 1 (some .int), .methodLink RJ2 414 yJ0_checkIndex_df160, .static yJ0_checkIndex_df160, .initialized RJ0, .code yJ0_checkIndex_df160 cJ0_checkIndex_df160 2 none, .fieldLink RJ0 1053 "jdk/internal/util/Preconditions" "SIOOBE_FORMATTER" "Ljava/util/function/BiFunction;", .methodLink RJ0 1059 yJ3_checkIndex_8e157, .static yJ3_checkIndex_8e157, .initialized RJ3, .code yJ3_checkIndex_8e157 cJ3_checkIndex_8e157 3 (some .int), .methodLink RJ2 71 yJ2_getChar_3b067, .static yJ2_getChar_3b067, .code yJ2_getChar_3b067 cJ2_getChar_3b067 2 (some .char), .fieldLink RJ2 44 "java/lang/StringUTF16" "$assertionsDisabled" "Z", .fieldLink RJ2 59 "java/lang/StringUTF16" "HI_BYTE_SHIFT" "I", .fieldLink RJ2 63 "java/lang/StringUTF16" "LO_BYTE_SHIFT" "I"])
noncomputable def wsJ0_charAt_5068e_r1 : List Cond := [Cond.fieldLink RJ0 9 "java/lang/String" "value" "[B", Cond.methodLink RJ0 492 yJ0_isLatin1_aae02, Cond.instanceMethod yJ0_isLatin1_aae02, Cond.selects RJ0 yJ0_isLatin1_aae02 yJ0_isLatin1_aae02, Cond.initialized RJ0, Cond.code yJ0_isLatin1_aae02 cJ0_isLatin1_aae02 1 (some .boolean), Cond.fieldLink RJ0 38 "java/lang/String" "COMPACT_STRINGS" "Z", Cond.fieldLink RJ0 15 "java/lang/String" "coder" "B", Cond.methodLink RJ0 495 yJ1_charAt_3b067, Cond.static yJ1_charAt_3b067, Cond.initialized RJ1, Cond.code yJ1_charAt_3b067 cJ1_charAt_3b067 2 (some .char), Cond.methodLink RJ1 9 yJ0_checkIndex_df160, Cond.static yJ0_checkIndex_df160, Cond.code yJ0_checkIndex_df160 cJ0_checkIndex_df160 2 none, Cond.fieldLink RJ0 1053 "jdk/internal/util/Preconditions" "SIOOBE_FORMATTER" "Ljava/util/function/BiFunction;", Cond.methodLink RJ0 1059 yJ3_checkIndex_8e157, Cond.static yJ3_checkIndex_8e157, Cond.initialized RJ3, Cond.code yJ3_checkIndex_8e157 cJ3_checkIndex_8e157 3 (some .int), Cond.methodLink RJ0 498 yJ2_charAt_3b067, Cond.static yJ2_charAt_3b067, Cond.initialized RJ2, Cond.code yJ2_charAt_3b067 cJ2_charAt_3b067 2 (some .char)]
noncomputable def wsJ0_charAt_5068e_r2 : List Cond := [Cond.methodLink RJ2 67 yJ2_checkIndex_2214a, Cond.static yJ2_checkIndex_2214a, Cond.code yJ2_checkIndex_2214a cJ2_checkIndex_2214a 2 none, Cond.methodLink RJ2 48 yJ2_length_9d52b, Cond.static yJ2_length_9d52b, Cond.code yJ2_length_9d52b cJ2_length_9d52b 1 (some .int), Cond.methodLink RJ2 414 yJ0_checkIndex_df160, Cond.methodLink RJ2 71 yJ2_getChar_3b067, Cond.static yJ2_getChar_3b067, Cond.code yJ2_getChar_3b067 cJ2_getChar_3b067 2 (some .char), Cond.fieldLink RJ2 44 "java/lang/StringUTF16" "$assertionsDisabled" "Z", Cond.fieldLink RJ2 59 "java/lang/StringUTF16" "HI_BYTE_SHIFT" "I", Cond.fieldLink RJ2 63 "java/lang/StringUTF16" "LO_BYTE_SHIFT" "I"]
noncomputable def wsJ0_charAt_5068e : List Cond := .code yJ0_charAt_5068e cJ0_charAt_5068e 2 (some .char) :: ((wsJ0_charAt_5068e_r1 ++ wsJ0_charAt_5068e_r2))
noncomputable def wsJ1_canEncode_9a6ad : List Cond := .code yJ1_canEncode_9a6ad cJ1_canEncode_9a6ad 1 (some .boolean) :: ([])
noncomputable def wsJ1_indexOfChar_4cfef : List Cond := .code yJ1_indexOfChar_4cfef cJ1_indexOfChar_4cfef 6 (some .int) :: ([])
noncomputable def wsJ1_indexOf_4cfef : List Cond := .code yJ1_indexOf_4cfef cJ1_indexOf_4cfef 4 (some .int) :: ([.methodLink RJ1 92 Lib.Math.max.name, .static Lib.Math.max.name, .initialized "java/lang/Math", .code Lib.Math.max.name Lib.Math.max.code 2 (some .int), .methodLink RJ1 38 Lib.Math.min.name, .static Lib.Math.min.name, .code Lib.Math.min.name Lib.Math.min.code 2 (some .int), .methodLink RJ1 88 yJ1_canEncode_9a6ad, .static yJ1_canEncode_9a6ad, .initialized RJ1, .code yJ1_canEncode_9a6ad cJ1_canEncode_9a6ad 1 (some .boolean), .methodLink RJ1 95 yJ1_indexOfChar_4cfef, .static yJ1_indexOfChar_4cfef, .code yJ1_indexOfChar_4cfef cJ1_indexOfChar_4cfef 6 (some .int)])
noncomputable def wsJ3_checkFromToIndex_8c36e : List Cond := .code yJ3_checkFromToIndex_8c36e cJ3_checkFromToIndex_8c36e 4 (some .int) :: ([])
noncomputable def wsJ0_checkBoundsBeginEnd_23922 : List Cond := .code yJ0_checkBoundsBeginEnd_23922 cJ0_checkBoundsBeginEnd_23922 3 none :: ([.fieldLink RJ0 1053 "jdk/internal/util/Preconditions" "SIOOBE_FORMATTER" "Ljava/util/function/BiFunction;", .methodLink RJ0 1062 yJ3_checkFromToIndex_8c36e, .static yJ3_checkFromToIndex_8c36e, .initialized RJ3, .code yJ3_checkFromToIndex_8c36e cJ3_checkFromToIndex_8c36e 4 (some .int)])
noncomputable def wsJ2_checkBoundsBeginEnd_d044e : List Cond := .code yJ2_checkBoundsBeginEnd_d044e cJ2_checkBoundsBeginEnd_d044e 3 none :: ([.methodLink RJ2 48 yJ2_length_9d52b, .static yJ2_length_9d52b, .initialized RJ2, .code yJ2_length_9d52b cJ2_length_9d52b 1 (some .int), .methodLink RJ2 241 yJ0_checkBoundsBeginEnd_23922, .static yJ0_checkBoundsBeginEnd_23922, .initialized RJ0, .code yJ0_checkBoundsBeginEnd_23922 cJ0_checkBoundsBeginEnd_23922 3 none, .fieldLink RJ0 1053 "jdk/internal/util/Preconditions" "SIOOBE_FORMATTER" "Ljava/util/function/BiFunction;", .methodLink RJ0 1062 yJ3_checkFromToIndex_8c36e, .static yJ3_checkFromToIndex_8c36e, .initialized RJ3, .code yJ3_checkFromToIndex_8c36e cJ3_checkFromToIndex_8c36e 4 (some .int)])
noncomputable def wsJ2_indexOfCharUnsafe_4cfef : List Cond := .code yJ2_indexOfCharUnsafe_4cfef cJ2_indexOfCharUnsafe_4cfef 5 (some .int) :: ([.methodLink RJ2 71 yJ2_getChar_3b067, .static yJ2_getChar_3b067, .initialized RJ2, .code yJ2_getChar_3b067 cJ2_getChar_3b067 2 (some .char), .fieldLink RJ2 44 "java/lang/StringUTF16" "$assertionsDisabled" "Z", .fieldLink RJ2 59 "java/lang/StringUTF16" "HI_BYTE_SHIFT" "I", .fieldLink RJ2 63 "java/lang/StringUTF16" "LO_BYTE_SHIFT" "I", .methodLink RJ2 48 yJ2_length_9d52b, .static yJ2_length_9d52b, .code yJ2_length_9d52b cJ2_length_9d52b 1 (some .int)])
noncomputable def wsJ2_indexOfChar_4cfef_r1 : List Cond := [Cond.methodLink RJ2 96 yJ2_checkBoundsBeginEnd_d044e, Cond.static yJ2_checkBoundsBeginEnd_d044e, Cond.initialized RJ2, Cond.code yJ2_checkBoundsBeginEnd_d044e cJ2_checkBoundsBeginEnd_d044e 3 none, Cond.methodLink RJ2 48 yJ2_length_9d52b, Cond.static yJ2_length_9d52b, Cond.code yJ2_length_9d52b cJ2_length_9d52b 1 (some .int), Cond.methodLink RJ2 241 yJ0_checkBoundsBeginEnd_23922, Cond.static yJ0_checkBoundsBeginEnd_23922, Cond.initialized RJ0, Cond.code yJ0_checkBoundsBeginEnd_23922 cJ0_checkBoundsBeginEnd_23922 3 none, Cond.fieldLink RJ0 1053 "jdk/internal/util/Preconditions" "SIOOBE_FORMATTER" "Ljava/util/function/BiFunction;", Cond.methodLink RJ0 1062 yJ3_checkFromToIndex_8c36e, Cond.static yJ3_checkFromToIndex_8c36e, Cond.initialized RJ3, Cond.code yJ3_checkFromToIndex_8c36e cJ3_checkFromToIndex_8c36e 4 (some .int), Cond.methodLink RJ2 244 yJ2_indexOfCharUnsafe_4cfef, Cond.static yJ2_indexOfCharUnsafe_4cfef, Cond.code yJ2_indexOfCharUnsafe_4cfef cJ2_indexOfCharUnsafe_4cfef 5 (some .int), Cond.methodLink RJ2 71 yJ2_getChar_3b067, Cond.static yJ2_getChar_3b067, Cond.code yJ2_getChar_3b067 cJ2_getChar_3b067 2 (some .char), Cond.fieldLink RJ2 44 "java/lang/StringUTF16" "$assertionsDisabled" "Z", Cond.fieldLink RJ2 59 "java/lang/StringUTF16" "HI_BYTE_SHIFT" "I"]
noncomputable def wsJ2_indexOfChar_4cfef_r2 : List Cond := [Cond.fieldLink RJ2 63 "java/lang/StringUTF16" "LO_BYTE_SHIFT" "I"]
noncomputable def wsJ2_indexOfChar_4cfef : List Cond := .code yJ2_indexOfChar_4cfef cJ2_indexOfChar_4cfef 4 (some .int) :: ((wsJ2_indexOfChar_4cfef_r1 ++ wsJ2_indexOfChar_4cfef_r2))
noncomputable def wsJ11_isValidCodePoint_9a6ad : List Cond := .code yJ11_isValidCodePoint_9a6ad cJ11_isValidCodePoint_9a6ad 2 (some .boolean) :: ([])
noncomputable def wsJ11_highSurrogate_5068e : List Cond := .code yJ11_highSurrogate_5068e cJ11_highSurrogate_5068e 1 (some .char) :: ([.constant RJ11 110 (55232)])
noncomputable def wsJ11_lowSurrogate_5068e : List Cond := .code yJ11_lowSurrogate_5068e cJ11_lowSurrogate_5068e 1 (some .char) :: ([.constant RJ11 76 (56320)])
noncomputable def wsJ2_indexOfSupplementary_4cfef_r1 : List Cond := [Cond.methodLink RJ2 164 yJ11_isValidCodePoint_9a6ad, Cond.static yJ11_isValidCodePoint_9a6ad, Cond.initialized RJ11, Cond.code yJ11_isValidCodePoint_9a6ad cJ11_isValidCodePoint_9a6ad 2 (some .boolean), Cond.methodLink RJ2 157 yJ11_highSurrogate_5068e, Cond.static yJ11_highSurrogate_5068e, Cond.code yJ11_highSurrogate_5068e cJ11_highSurrogate_5068e 1 (some .char), Cond.constant RJ11 110 (55232), Cond.methodLink RJ2 161 yJ11_lowSurrogate_5068e, Cond.static yJ11_lowSurrogate_5068e, Cond.code yJ11_lowSurrogate_5068e cJ11_lowSurrogate_5068e 1 (some .char), Cond.constant RJ11 76 (56320), Cond.methodLink RJ2 96 yJ2_checkBoundsBeginEnd_d044e, Cond.static yJ2_checkBoundsBeginEnd_d044e, Cond.initialized RJ2, Cond.code yJ2_checkBoundsBeginEnd_d044e cJ2_checkBoundsBeginEnd_d044e 3 none, Cond.methodLink RJ2 48 yJ2_length_9d52b, Cond.static yJ2_length_9d52b, Cond.code yJ2_length_9d52b cJ2_length_9d52b 1 (some .int), Cond.methodLink RJ2 241 yJ0_checkBoundsBeginEnd_23922, Cond.static yJ0_checkBoundsBeginEnd_23922, Cond.initialized RJ0, Cond.code yJ0_checkBoundsBeginEnd_23922 cJ0_checkBoundsBeginEnd_23922 3 none, Cond.fieldLink RJ0 1053 "jdk/internal/util/Preconditions" "SIOOBE_FORMATTER" "Ljava/util/function/BiFunction;"]
noncomputable def wsJ2_indexOfSupplementary_4cfef_r2 : List Cond := [Cond.methodLink RJ0 1062 yJ3_checkFromToIndex_8c36e, Cond.static yJ3_checkFromToIndex_8c36e, Cond.initialized RJ3, Cond.code yJ3_checkFromToIndex_8c36e cJ3_checkFromToIndex_8c36e 4 (some .int), Cond.methodLink RJ2 71 yJ2_getChar_3b067, Cond.static yJ2_getChar_3b067, Cond.code yJ2_getChar_3b067 cJ2_getChar_3b067 2 (some .char), Cond.fieldLink RJ2 44 "java/lang/StringUTF16" "$assertionsDisabled" "Z", Cond.fieldLink RJ2 59 "java/lang/StringUTF16" "HI_BYTE_SHIFT" "I", Cond.fieldLink RJ2 63 "java/lang/StringUTF16" "LO_BYTE_SHIFT" "I"]
noncomputable def wsJ2_indexOfSupplementary_4cfef : List Cond := .code yJ2_indexOfSupplementary_4cfef cJ2_indexOfSupplementary_4cfef 7 (some .int) :: ((wsJ2_indexOfSupplementary_4cfef_r1 ++ wsJ2_indexOfSupplementary_4cfef_r2))
noncomputable def wsJ2_indexOf_4cfef_r1 : List Cond := [Cond.methodLink RJ2 224 Lib.Math.max.name, Cond.static Lib.Math.max.name, Cond.initialized "java/lang/Math", Cond.code Lib.Math.max.name Lib.Math.max.code 2 (some .int), Cond.methodLink RJ2 183 Lib.Math.min.name, Cond.static Lib.Math.min.name, Cond.code Lib.Math.min.name Lib.Math.min.code 2 (some .int), Cond.constant RJ2 227 (65536), Cond.methodLink RJ2 228 yJ2_indexOfChar_4cfef, Cond.static yJ2_indexOfChar_4cfef, Cond.initialized RJ2, Cond.code yJ2_indexOfChar_4cfef cJ2_indexOfChar_4cfef 4 (some .int), Cond.methodLink RJ2 96 yJ2_checkBoundsBeginEnd_d044e, Cond.static yJ2_checkBoundsBeginEnd_d044e, Cond.code yJ2_checkBoundsBeginEnd_d044e cJ2_checkBoundsBeginEnd_d044e 3 none, Cond.methodLink RJ2 48 yJ2_length_9d52b, Cond.static yJ2_length_9d52b, Cond.code yJ2_length_9d52b cJ2_length_9d52b 1 (some .int), Cond.methodLink RJ2 241 yJ0_checkBoundsBeginEnd_23922, Cond.static yJ0_checkBoundsBeginEnd_23922, Cond.initialized RJ0, Cond.code yJ0_checkBoundsBeginEnd_23922 cJ0_checkBoundsBeginEnd_23922 3 none, Cond.fieldLink RJ0 1053 "jdk/internal/util/Preconditions" "SIOOBE_FORMATTER" "Ljava/util/function/BiFunction;", Cond.methodLink RJ0 1062 yJ3_checkFromToIndex_8c36e]
noncomputable def wsJ2_indexOf_4cfef_r2 : List Cond := [Cond.static yJ3_checkFromToIndex_8c36e, Cond.initialized RJ3, Cond.code yJ3_checkFromToIndex_8c36e cJ3_checkFromToIndex_8c36e 4 (some .int), Cond.methodLink RJ2 244 yJ2_indexOfCharUnsafe_4cfef, Cond.static yJ2_indexOfCharUnsafe_4cfef, Cond.code yJ2_indexOfCharUnsafe_4cfef cJ2_indexOfCharUnsafe_4cfef 5 (some .int), Cond.methodLink RJ2 71 yJ2_getChar_3b067, Cond.static yJ2_getChar_3b067, Cond.code yJ2_getChar_3b067 cJ2_getChar_3b067 2 (some .char), Cond.fieldLink RJ2 44 "java/lang/StringUTF16" "$assertionsDisabled" "Z", Cond.fieldLink RJ2 59 "java/lang/StringUTF16" "HI_BYTE_SHIFT" "I", Cond.fieldLink RJ2 63 "java/lang/StringUTF16" "LO_BYTE_SHIFT" "I", Cond.methodLink RJ2 232 yJ2_indexOfSupplementary_4cfef, Cond.static yJ2_indexOfSupplementary_4cfef, Cond.code yJ2_indexOfSupplementary_4cfef cJ2_indexOfSupplementary_4cfef 7 (some .int), Cond.methodLink RJ2 164 yJ11_isValidCodePoint_9a6ad, Cond.static yJ11_isValidCodePoint_9a6ad, Cond.initialized RJ11, Cond.code yJ11_isValidCodePoint_9a6ad cJ11_isValidCodePoint_9a6ad 2 (some .boolean), Cond.methodLink RJ2 157 yJ11_highSurrogate_5068e, Cond.static yJ11_highSurrogate_5068e, Cond.code yJ11_highSurrogate_5068e cJ11_highSurrogate_5068e 1 (some .char), Cond.constant RJ11 110 (55232), Cond.methodLink RJ2 161 yJ11_lowSurrogate_5068e]
noncomputable def wsJ2_indexOf_4cfef_r3 : List Cond := [Cond.static yJ11_lowSurrogate_5068e, Cond.code yJ11_lowSurrogate_5068e cJ11_lowSurrogate_5068e 1 (some .char), Cond.constant RJ11 76 (56320)]
noncomputable def wsJ2_indexOf_4cfef : List Cond := .code yJ2_indexOf_4cfef cJ2_indexOf_4cfef 4 (some .int) :: ((wsJ2_indexOf_4cfef_r1 ++ (wsJ2_indexOf_4cfef_r2 ++ wsJ2_indexOf_4cfef_r3)))
noncomputable def wsJ0_indexOf_7cf53_r1 : List Cond := [Cond.fieldLink RJ0 9 "java/lang/String" "value" "[B", Cond.methodLink RJ0 492 yJ0_isLatin1_aae02, Cond.instanceMethod yJ0_isLatin1_aae02, Cond.selects RJ0 yJ0_isLatin1_aae02 yJ0_isLatin1_aae02, Cond.initialized RJ0, Cond.code yJ0_isLatin1_aae02 cJ0_isLatin1_aae02 1 (some .boolean), Cond.fieldLink RJ0 38 "java/lang/String" "COMPACT_STRINGS" "Z", Cond.fieldLink RJ0 15 "java/lang/String" "coder" "B", Cond.methodLink RJ0 505 yJ0_length_8abf5, Cond.instanceMethod yJ0_length_8abf5, Cond.selects RJ0 yJ0_length_8abf5 yJ0_length_8abf5, Cond.code yJ0_length_8abf5 cJ0_length_8abf5 1 (some .int), Cond.methodLink RJ0 335 yJ0_coder_7d493, Cond.instanceMethod yJ0_coder_7d493, Cond.selects RJ0 yJ0_coder_7d493 yJ0_coder_7d493, Cond.code yJ0_coder_7d493 cJ0_coder_7d493 1 (some .byte), Cond.methodLink RJ0 637 yJ1_indexOf_4cfef, Cond.static yJ1_indexOf_4cfef, Cond.initialized RJ1, Cond.code yJ1_indexOf_4cfef cJ1_indexOf_4cfef 4 (some .int), Cond.methodLink RJ1 92 Lib.Math.max.name, Cond.static Lib.Math.max.name, Cond.initialized "java/lang/Math", Cond.code Lib.Math.max.name Lib.Math.max.code 2 (some .int)]
noncomputable def wsJ0_indexOf_7cf53_r2 : List Cond := [Cond.methodLink RJ1 38 Lib.Math.min.name, Cond.static Lib.Math.min.name, Cond.code Lib.Math.min.name Lib.Math.min.code 2 (some .int), Cond.methodLink RJ1 88 yJ1_canEncode_9a6ad, Cond.static yJ1_canEncode_9a6ad, Cond.code yJ1_canEncode_9a6ad cJ1_canEncode_9a6ad 1 (some .boolean), Cond.methodLink RJ1 95 yJ1_indexOfChar_4cfef, Cond.static yJ1_indexOfChar_4cfef, Cond.code yJ1_indexOfChar_4cfef cJ1_indexOfChar_4cfef 6 (some .int), Cond.methodLink RJ0 640 yJ2_indexOf_4cfef, Cond.static yJ2_indexOf_4cfef, Cond.initialized RJ2, Cond.code yJ2_indexOf_4cfef cJ2_indexOf_4cfef 4 (some .int), Cond.methodLink RJ2 224 Lib.Math.max.name, Cond.methodLink RJ2 183 Lib.Math.min.name, Cond.constant RJ2 227 (65536), Cond.methodLink RJ2 228 yJ2_indexOfChar_4cfef, Cond.static yJ2_indexOfChar_4cfef, Cond.code yJ2_indexOfChar_4cfef cJ2_indexOfChar_4cfef 4 (some .int), Cond.methodLink RJ2 96 yJ2_checkBoundsBeginEnd_d044e, Cond.static yJ2_checkBoundsBeginEnd_d044e, Cond.code yJ2_checkBoundsBeginEnd_d044e cJ2_checkBoundsBeginEnd_d044e 3 none, Cond.methodLink RJ2 48 yJ2_length_9d52b, Cond.static yJ2_length_9d52b]
noncomputable def wsJ0_indexOf_7cf53_r3 : List Cond := [Cond.code yJ2_length_9d52b cJ2_length_9d52b 1 (some .int), Cond.methodLink RJ2 241 yJ0_checkBoundsBeginEnd_23922, Cond.static yJ0_checkBoundsBeginEnd_23922, Cond.code yJ0_checkBoundsBeginEnd_23922 cJ0_checkBoundsBeginEnd_23922 3 none, Cond.fieldLink RJ0 1053 "jdk/internal/util/Preconditions" "SIOOBE_FORMATTER" "Ljava/util/function/BiFunction;", Cond.methodLink RJ0 1062 yJ3_checkFromToIndex_8c36e, Cond.static yJ3_checkFromToIndex_8c36e, Cond.initialized RJ3, Cond.code yJ3_checkFromToIndex_8c36e cJ3_checkFromToIndex_8c36e 4 (some .int), Cond.methodLink RJ2 244 yJ2_indexOfCharUnsafe_4cfef, Cond.static yJ2_indexOfCharUnsafe_4cfef, Cond.code yJ2_indexOfCharUnsafe_4cfef cJ2_indexOfCharUnsafe_4cfef 5 (some .int), Cond.methodLink RJ2 71 yJ2_getChar_3b067, Cond.static yJ2_getChar_3b067, Cond.code yJ2_getChar_3b067 cJ2_getChar_3b067 2 (some .char), Cond.fieldLink RJ2 44 "java/lang/StringUTF16" "$assertionsDisabled" "Z", Cond.fieldLink RJ2 59 "java/lang/StringUTF16" "HI_BYTE_SHIFT" "I", Cond.fieldLink RJ2 63 "java/lang/StringUTF16" "LO_BYTE_SHIFT" "I", Cond.methodLink RJ2 232 yJ2_indexOfSupplementary_4cfef, Cond.static yJ2_indexOfSupplementary_4cfef, Cond.code yJ2_indexOfSupplementary_4cfef cJ2_indexOfSupplementary_4cfef 7 (some .int), Cond.methodLink RJ2 164 yJ11_isValidCodePoint_9a6ad, Cond.static yJ11_isValidCodePoint_9a6ad, Cond.initialized RJ11]
noncomputable def wsJ0_indexOf_7cf53_r4 : List Cond := [Cond.code yJ11_isValidCodePoint_9a6ad cJ11_isValidCodePoint_9a6ad 2 (some .boolean), Cond.methodLink RJ2 157 yJ11_highSurrogate_5068e, Cond.static yJ11_highSurrogate_5068e, Cond.code yJ11_highSurrogate_5068e cJ11_highSurrogate_5068e 1 (some .char), Cond.constant RJ11 110 (55232), Cond.methodLink RJ2 161 yJ11_lowSurrogate_5068e, Cond.static yJ11_lowSurrogate_5068e, Cond.code yJ11_lowSurrogate_5068e cJ11_lowSurrogate_5068e 1 (some .char), Cond.constant RJ11 76 (56320)]
noncomputable def wsJ0_indexOf_7cf53 : List Cond := .code yJ0_indexOf_7cf53 cJ0_indexOf_7cf53 3 (some .int) :: ((wsJ0_indexOf_7cf53_r1 ++ (wsJ0_indexOf_7cf53_r2 ++ (wsJ0_indexOf_7cf53_r3 ++ wsJ0_indexOf_7cf53_r4))))
noncomputable def wsJ0_indexOf_0f7a4_r1 : List Cond := [Cond.methodLink RJ0 633 yJ0_indexOf_7cf53, Cond.instanceMethod yJ0_indexOf_7cf53, Cond.selects RJ0 yJ0_indexOf_7cf53 yJ0_indexOf_7cf53, Cond.initialized RJ0, Cond.code yJ0_indexOf_7cf53 cJ0_indexOf_7cf53 3 (some .int), Cond.fieldLink RJ0 9 "java/lang/String" "value" "[B", Cond.methodLink RJ0 492 yJ0_isLatin1_aae02, Cond.instanceMethod yJ0_isLatin1_aae02, Cond.selects RJ0 yJ0_isLatin1_aae02 yJ0_isLatin1_aae02, Cond.code yJ0_isLatin1_aae02 cJ0_isLatin1_aae02 1 (some .boolean), Cond.fieldLink RJ0 38 "java/lang/String" "COMPACT_STRINGS" "Z", Cond.fieldLink RJ0 15 "java/lang/String" "coder" "B", Cond.methodLink RJ0 505 yJ0_length_8abf5, Cond.instanceMethod yJ0_length_8abf5, Cond.selects RJ0 yJ0_length_8abf5 yJ0_length_8abf5, Cond.code yJ0_length_8abf5 cJ0_length_8abf5 1 (some .int), Cond.methodLink RJ0 335 yJ0_coder_7d493, Cond.instanceMethod yJ0_coder_7d493, Cond.selects RJ0 yJ0_coder_7d493 yJ0_coder_7d493, Cond.code yJ0_coder_7d493 cJ0_coder_7d493 1 (some .byte), Cond.methodLink RJ0 637 yJ1_indexOf_4cfef, Cond.static yJ1_indexOf_4cfef, Cond.initialized RJ1, Cond.code yJ1_indexOf_4cfef cJ1_indexOf_4cfef 4 (some .int)]
noncomputable def wsJ0_indexOf_0f7a4_r2 : List Cond := [Cond.methodLink RJ1 92 Lib.Math.max.name, Cond.static Lib.Math.max.name, Cond.initialized "java/lang/Math", Cond.code Lib.Math.max.name Lib.Math.max.code 2 (some .int), Cond.methodLink RJ1 38 Lib.Math.min.name, Cond.static Lib.Math.min.name, Cond.code Lib.Math.min.name Lib.Math.min.code 2 (some .int), Cond.methodLink RJ1 88 yJ1_canEncode_9a6ad, Cond.static yJ1_canEncode_9a6ad, Cond.code yJ1_canEncode_9a6ad cJ1_canEncode_9a6ad 1 (some .boolean), Cond.methodLink RJ1 95 yJ1_indexOfChar_4cfef, Cond.static yJ1_indexOfChar_4cfef, Cond.code yJ1_indexOfChar_4cfef cJ1_indexOfChar_4cfef 6 (some .int), Cond.methodLink RJ0 640 yJ2_indexOf_4cfef, Cond.static yJ2_indexOf_4cfef, Cond.initialized RJ2, Cond.code yJ2_indexOf_4cfef cJ2_indexOf_4cfef 4 (some .int), Cond.methodLink RJ2 224 Lib.Math.max.name, Cond.methodLink RJ2 183 Lib.Math.min.name, Cond.constant RJ2 227 (65536), Cond.methodLink RJ2 228 yJ2_indexOfChar_4cfef, Cond.static yJ2_indexOfChar_4cfef, Cond.code yJ2_indexOfChar_4cfef cJ2_indexOfChar_4cfef 4 (some .int), Cond.methodLink RJ2 96 yJ2_checkBoundsBeginEnd_d044e]
noncomputable def wsJ0_indexOf_0f7a4_r3 : List Cond := [Cond.static yJ2_checkBoundsBeginEnd_d044e, Cond.code yJ2_checkBoundsBeginEnd_d044e cJ2_checkBoundsBeginEnd_d044e 3 none, Cond.methodLink RJ2 48 yJ2_length_9d52b, Cond.static yJ2_length_9d52b, Cond.code yJ2_length_9d52b cJ2_length_9d52b 1 (some .int), Cond.methodLink RJ2 241 yJ0_checkBoundsBeginEnd_23922, Cond.static yJ0_checkBoundsBeginEnd_23922, Cond.code yJ0_checkBoundsBeginEnd_23922 cJ0_checkBoundsBeginEnd_23922 3 none, Cond.fieldLink RJ0 1053 "jdk/internal/util/Preconditions" "SIOOBE_FORMATTER" "Ljava/util/function/BiFunction;", Cond.methodLink RJ0 1062 yJ3_checkFromToIndex_8c36e, Cond.static yJ3_checkFromToIndex_8c36e, Cond.initialized RJ3, Cond.code yJ3_checkFromToIndex_8c36e cJ3_checkFromToIndex_8c36e 4 (some .int), Cond.methodLink RJ2 244 yJ2_indexOfCharUnsafe_4cfef, Cond.static yJ2_indexOfCharUnsafe_4cfef, Cond.code yJ2_indexOfCharUnsafe_4cfef cJ2_indexOfCharUnsafe_4cfef 5 (some .int), Cond.methodLink RJ2 71 yJ2_getChar_3b067, Cond.static yJ2_getChar_3b067, Cond.code yJ2_getChar_3b067 cJ2_getChar_3b067 2 (some .char), Cond.fieldLink RJ2 44 "java/lang/StringUTF16" "$assertionsDisabled" "Z", Cond.fieldLink RJ2 59 "java/lang/StringUTF16" "HI_BYTE_SHIFT" "I", Cond.fieldLink RJ2 63 "java/lang/StringUTF16" "LO_BYTE_SHIFT" "I", Cond.methodLink RJ2 232 yJ2_indexOfSupplementary_4cfef, Cond.static yJ2_indexOfSupplementary_4cfef]
noncomputable def wsJ0_indexOf_0f7a4_r4 : List Cond := [Cond.code yJ2_indexOfSupplementary_4cfef cJ2_indexOfSupplementary_4cfef 7 (some .int), Cond.methodLink RJ2 164 yJ11_isValidCodePoint_9a6ad, Cond.static yJ11_isValidCodePoint_9a6ad, Cond.initialized RJ11, Cond.code yJ11_isValidCodePoint_9a6ad cJ11_isValidCodePoint_9a6ad 2 (some .boolean), Cond.methodLink RJ2 157 yJ11_highSurrogate_5068e, Cond.static yJ11_highSurrogate_5068e, Cond.code yJ11_highSurrogate_5068e cJ11_highSurrogate_5068e 1 (some .char), Cond.constant RJ11 110 (55232), Cond.methodLink RJ2 161 yJ11_lowSurrogate_5068e, Cond.static yJ11_lowSurrogate_5068e, Cond.code yJ11_lowSurrogate_5068e cJ11_lowSurrogate_5068e 1 (some .char), Cond.constant RJ11 76 (56320)]
noncomputable def wsJ0_indexOf_0f7a4 : List Cond := .code yJ0_indexOf_0f7a4 cJ0_indexOf_0f7a4 2 (some .int) :: ((wsJ0_indexOf_0f7a4_r1 ++ (wsJ0_indexOf_0f7a4_r2 ++ (wsJ0_indexOf_0f7a4_r3 ++ wsJ0_indexOf_0f7a4_r4))))
noncomputable def wsJ9_max_7cf53 : List Cond := .code yJ9_max_7cf53 cJ9_max_7cf53 2 (some .int) :: ([])
noncomputable def wsJ9_min_7cf53 : List Cond := .code yJ9_min_7cf53 cJ9_min_7cf53 2 (some .int) :: ([])
end
section
set_option maxRecDepth 20000 in
theorem ggJ0_length_8abf5_J0_coder_7d493 : GoodIn wsJ0_length_8abf5 wsJ0_coder_7d493 := goodIn_r _ [6, 7, 8] rfl (by decide +kernel)
set_option maxRecDepth 20000 in
theorem gJ0_length_8abf5_J0_coder_7d493 : GoodIn wsJ0_length_8abf5 (wsV RJ0 335 RJ0 yJ0_coder_7d493 wsJ0_coder_7d493) := goodIn_app (goodIn_of _ (by decide +kernel)) ggJ0_length_8abf5_J0_coder_7d493
set_option maxRecDepth 20000 in
theorem ggJ0_charAt_5068e_J0_isLatin1_aae02 : GoodIn wsJ0_charAt_5068e wsJ0_isLatin1_aae02 := goodIn_r _ [6, 7, 8] rfl (by decide +kernel)
set_option maxRecDepth 20000 in
theorem gJ0_charAt_5068e_J0_isLatin1_aae02 : GoodIn wsJ0_charAt_5068e (wsV RJ0 492 RJ0 yJ0_isLatin1_aae02 wsJ0_isLatin1_aae02) := goodIn_app (goodIn_of _ (by decide +kernel)) ggJ0_charAt_5068e_J0_isLatin1_aae02
set_option maxRecDepth 20000 in
theorem ggJ0_charAt_5068e_J1_charAt_3b067 : GoodIn wsJ0_charAt_5068e wsJ1_charAt_3b067 := goodIn_r _ [12, 13, 14, 5, 15, 16, 17, 18, 19, 20] rfl (by decide +kernel)
set_option maxRecDepth 20000 in
theorem gJ0_charAt_5068e_J1_charAt_3b067 : GoodIn wsJ0_charAt_5068e (va_wsS RJ0 495 yJ1_charAt_3b067 wsJ1_charAt_3b067) := goodIn_app (goodIn_of _ (by decide +kernel)) ggJ0_charAt_5068e_J1_charAt_3b067
set_option maxRecDepth 20000 in
theorem ggJ0_charAt_5068e_J2_charAt_3b067 : GoodIn wsJ0_charAt_5068e wsJ2_charAt_3b067 := goodIn_r _ [24, 25, 26, 23, 27, 28, 29, 30, 31, 14, 5, 15, 16, 17, 18, 19, 20, 32, 33, 34, 35, 36, 37] rfl (by decide +kernel)
set_option maxRecDepth 20000 in
theorem gJ0_charAt_5068e_J2_charAt_3b067 : GoodIn wsJ0_charAt_5068e (va_wsS RJ0 498 yJ2_charAt_3b067 wsJ2_charAt_3b067) := goodIn_app (goodIn_of _ (by decide +kernel)) ggJ0_charAt_5068e_J2_charAt_3b067
set_option maxRecDepth 20000 in
theorem ggJ0_indexOf_0f7a4_J0_indexOf_7cf53 : GoodIn wsJ0_indexOf_0f7a4 wsJ0_indexOf_7cf53 := goodIn_r _ [5, 6, 7, 8, 9, 4, 10, 11, 12, 13, 14, 15, 16, 17, 18, 19, 20, 21, 22, 23, 24, 25, 26, 27, 28, 29, 30, 31, 32, 33, 34, 35, 36, 37, 38, 39, 40, 41, 42, 43, 44, 45, 46, 47, 48, 49, 50, 51, 52, 53, 54, 55, 56, 57, 58, 59, 60, 61, 62, 63, 64, 65, 66, 67, 68, 69, 70, 71, 72, 73, 74, 75, 76, 77, 78, 79, 80, 81, 82, 83, 84, 85] rfl (by decide +kernel)
set_option maxRecDepth 20000 in
theorem gJ0_indexOf_0f7a4_J0_indexOf_7cf53 : GoodIn wsJ0_indexOf_0f7a4 (wsV RJ0 633 RJ0 yJ0_indexOf_7cf53 wsJ0_indexOf_7cf53) := goodIn_app (goodIn_of _ (by decide +kernel)) ggJ0_indexOf_0f7a4_J0_indexOf_7cf53
set_option maxRecDepth 20000 in
theorem ggJ0_indexOf_7cf53_J0_isLatin1_aae02 : GoodIn wsJ0_indexOf_7cf53 wsJ0_isLatin1_aae02 := goodIn_r _ [6, 7, 8] rfl (by decide +kernel)
set_option maxRecDepth 20000 in
theorem gJ0_indexOf_7cf53_J0_isLatin1_aae02 : GoodIn wsJ0_indexOf_7cf53 (wsV RJ0 492 RJ0 yJ0_isLatin1_aae02 wsJ0_isLatin1_aae02) := goodIn_app (goodIn_of _ (by decide +kernel)) ggJ0_indexOf_7cf53_J0_isLatin1_aae02
set_option maxRecDepth 20000 in
theorem ggJ0_indexOf_7cf53_J0_length_8abf5 : GoodIn wsJ0_indexOf_7cf53 wsJ0_length_8abf5 := goodIn_r _ [12, 1, 13, 14, 15, 5, 16, 7, 8] rfl (by decide +kernel)
set_option maxRecDepth 20000 in
theorem gJ0_indexOf_7cf53_J0_length_8abf5 : GoodIn wsJ0_indexOf_7cf53 (wsV RJ0 505 RJ0 yJ0_length_8abf5 wsJ0_length_8abf5) := goodIn_app (goodIn_of _ (by decide +kernel)) ggJ0_indexOf_7cf53_J0_length_8abf5
set_option maxRecDepth 20000 in
theorem ggJ0_indexOf_7cf53_J1_indexOf_4cfef : GoodIn wsJ0_indexOf_7cf53 wsJ1_indexOf_4cfef := goodIn_r _ [20, 21, 22, 23, 24, 25, 26, 27, 28, 29, 19, 30, 31, 32, 33] rfl (by decide +kernel)
set_option maxRecDepth 20000 in
theorem gJ0_indexOf_7cf53_J1_indexOf_4cfef : GoodIn wsJ0_indexOf_7cf53 (va_wsS RJ0 637 yJ1_indexOf_4cfef wsJ1_indexOf_4cfef) := goodIn_app (goodIn_of _ (by decide +kernel)) ggJ0_indexOf_7cf53_J1_indexOf_4cfef
set_option maxRecDepth 20000 in
theorem ggJ0_indexOf_7cf53_J2_indexOf_4cfef : GoodIn wsJ0_indexOf_7cf53 wsJ2_indexOf_4cfef := goodIn_r _ [37, 38, 22, 23, 24, 39, 26, 27, 40, 41, 42, 36, 43, 44, 45, 46, 47, 48, 49, 50, 51, 5, 52, 53, 54, 55, 56, 57, 58, 59, 60, 61, 62, 63, 64, 65, 66, 67, 68, 69, 70, 71, 72, 73, 74, 75, 76, 77, 78, 79, 80, 81] rfl (by decide +kernel)
set_option maxRecDepth 20000 in
theorem gJ0_indexOf_7cf53_J2_indexOf_4cfef : GoodIn wsJ0_indexOf_7cf53 (va_wsS RJ0 640 yJ2_indexOf_4cfef wsJ2_indexOf_4cfef) := goodIn_app (goodIn_of _ (by decide +kernel)) ggJ0_indexOf_7cf53_J2_indexOf_4cfef
set_option maxRecDepth 20000 in
theorem ggJ0_checkIndex_df160_J3_checkIndex_8e157 : GoodIn wsJ0_checkIndex_df160 wsJ3_checkIndex_8e157 := goodIn_r _ [5] rfl (by decide +kernel)
set_option maxRecDepth 20000 in
theorem gJ0_checkIndex_df160_J3_checkIndex_8e157 : GoodIn wsJ0_checkIndex_df160 (va_wsS RJ0 1059 yJ3_checkIndex_8e157 wsJ3_checkIndex_8e157) := goodIn_app (goodIn_of _ (by decide +kernel)) ggJ0_checkIndex_df160_J3_checkIndex_8e157
set_option maxRecDepth 20000 in
theorem ggJ0_checkBoundsBeginEnd_23922_J3_checkFromToIndex_8c36e : GoodIn wsJ0_checkBoundsBeginEnd_23922 wsJ3_checkFromToIndex_8c36e := goodIn_r _ [5] rfl (by decide +kernel)
set_option maxRecDepth 20000 in
theorem gJ0_checkBoundsBeginEnd_23922_J3_checkFromToIndex_8c36e : GoodIn wsJ0_checkBoundsBeginEnd_23922 (va_wsS RJ0 1062 yJ3_checkFromToIndex_8c36e wsJ3_checkFromToIndex_8c36e) := goodIn_app (goodIn_of _ (by decide +kernel)) ggJ0_checkBoundsBeginEnd_23922_J3_checkFromToIndex_8c36e
set_option maxRecDepth 20000 in
theorem ggJ1_charAt_3b067_J0_checkIndex_df160 : GoodIn wsJ1_charAt_3b067 wsJ0_checkIndex_df160 := goodIn_r _ [4, 5, 6, 7, 8, 9] rfl (by decide +kernel)
set_option maxRecDepth 20000 in
theorem gJ1_charAt_3b067_J0_checkIndex_df160 : GoodIn wsJ1_charAt_3b067 (va_wsS RJ1 9 yJ0_checkIndex_df160 wsJ0_checkIndex_df160) := goodIn_app (goodIn_of _ (by decide +kernel)) ggJ1_charAt_3b067_J0_checkIndex_df160
set_option maxRecDepth 20000 in
theorem ggJ1_indexOf_4cfef_J1_canEncode_9a6ad : GoodIn wsJ1_indexOf_4cfef wsJ1_canEncode_9a6ad := goodIn_r _ [11] rfl (by decide +kernel)
set_option maxRecDepth 20000 in
theorem gJ1_indexOf_4cfef_J1_canEncode_9a6ad : GoodIn wsJ1_indexOf_4cfef (va_wsS RJ1 88 yJ1_canEncode_9a6ad wsJ1_canEncode_9a6ad) := goodIn_app (goodIn_of _ (by decide +kernel)) ggJ1_indexOf_4cfef_J1_canEncode_9a6ad
set_option maxRecDepth 20000 in
theorem ggJ1_indexOf_4cfef_J1_indexOfChar_4cfef : GoodIn wsJ1_indexOf_4cfef wsJ1_indexOfChar_4cfef := goodIn_r _ [14] rfl (by decide +kernel)
set_option maxRecDepth 20000 in
theorem gJ1_indexOf_4cfef_J1_indexOfChar_4cfef : GoodIn wsJ1_indexOf_4cfef (va_wsS RJ1 95 yJ1_indexOfChar_4cfef wsJ1_indexOfChar_4cfef) := goodIn_app (goodIn_of _ (by decide +kernel)) ggJ1_indexOf_4cfef_J1_indexOfChar_4cfef
set_option maxRecDepth 20000 in
theorem ggJ2_getChar_3b067_J2_length_9d52b : GoodIn wsJ2_getChar_3b067 wsJ2_length_9d52b := goodIn_r _ [7] rfl (by decide +kernel)
set_option maxRecDepth 20000 in
theorem gJ2_getChar_3b067_J2_length_9d52b : GoodIn wsJ2_getChar_3b067 (va_wsS RJ2 48 yJ2_length_9d52b wsJ2_length_9d52b) := goodIn_app (goodIn_of _ (by decide +kernel)) ggJ2_getChar_3b067_J2_length_9d52b
set_option maxRecDepth 20000 in
theorem ggJ2_indexOf_4cfef_J2_indexOfChar_4cfef : GoodIn wsJ2_indexOf_4cfef wsJ2_indexOfChar_4cfef := goodIn_r _ [12, 13, 14, 11, 15, 16, 17, 18, 19, 20, 21, 22, 23, 24, 25, 26, 27, 28, 29, 30, 31, 32, 33, 34, 35, 36] rfl (by decide +kernel)
set_option maxRecDepth 20000 in
theorem gJ2_indexOf_4cfef_J2_indexOfChar_4cfef : GoodIn wsJ2_indexOf_4cfef (va_wsS RJ2 228 yJ2_indexOfChar_4cfef wsJ2_indexOfChar_4cfef) := goodIn_app (goodIn_of _ (by decide +kernel)) ggJ2_indexOf_4cfef_J2_indexOfChar_4cfef
set_option maxRecDepth 20000 in
theorem ggJ2_indexOf_4cfef_J2_indexOfSupplementary_4cfef : GoodIn wsJ2_indexOf_4cfef wsJ2_indexOfSupplementary_4cfef := goodIn_r _ [39, 40, 41, 42, 43, 44, 45, 46, 47, 48, 49, 50, 51, 13, 14, 11, 15, 16, 17, 18, 19, 20, 21, 22, 23, 24, 25, 26, 27, 31, 32, 33, 34, 35, 36] rfl (by decide +kernel)
set_option maxRecDepth 20000 in
theorem gJ2_indexOf_4cfef_J2_indexOfSupplementary_4cfef : GoodIn wsJ2_indexOf_4cfef (va_wsS RJ2 232 yJ2_indexOfSupplementary_4cfef wsJ2_indexOfSupplementary_4cfef) := goodIn_app (goodIn_of _ (by decide +kernel)) ggJ2_indexOf_4cfef_J2_indexOfSupplementary_4cfef
set_option maxRecDepth 20000 in
theorem ggJ2_indexOfChar_4cfef_J2_checkBoundsBeginEnd_d044e : GoodIn wsJ2_indexOfChar_4cfef wsJ2_checkBoundsBeginEnd_d044e := goodIn_r _ [4, 5, 6, 3, 7, 8, 9, 10, 11, 12, 13, 14, 15, 16] rfl (by decide +kernel)
set_option maxRecDepth 20000 in
theorem gJ2_indexOfChar_4cfef_J2_checkBoundsBeginEnd_d044e : GoodIn wsJ2_indexOfChar_4cfef (va_wsS RJ2 96 yJ2_checkBoundsBeginEnd_d044e wsJ2_checkBoundsBeginEnd_d044e) := goodIn_app (goodIn_of _ (by decide +kernel)) ggJ2_indexOfChar_4cfef_J2_checkBoundsBeginEnd_d044e
set_option maxRecDepth 20000 in
theorem ggJ2_indexOfChar_4cfef_J2_indexOfCharUnsafe_4cfef : GoodIn wsJ2_indexOfChar_4cfef wsJ2_indexOfCharUnsafe_4cfef := goodIn_r _ [19, 20, 21, 3, 22, 23, 24, 25, 5, 6, 7] rfl (by decide +kernel)
set_option maxRecDepth 20000 in
theorem gJ2_indexOfChar_4cfef_J2_indexOfCharUnsafe_4cfef : GoodIn wsJ2_indexOfChar_4cfef (va_wsS RJ2 244 yJ2_indexOfCharUnsafe_4cfef wsJ2_indexOfCharUnsafe_4cfef) := goodIn_app (goodIn_of _ (by decide +kernel)) ggJ2_indexOfChar_4cfef_J2_indexOfCharUnsafe_4cfef
set_option maxRecDepth 20000 in
theorem ggJ2_indexOfCharUnsafe_4cfef_J2_getChar_3b067 : GoodIn wsJ2_indexOfCharUnsafe_4cfef wsJ2_getChar_3b067 := goodIn_r _ [4, 5, 6, 7, 8, 9, 3, 10] rfl (by decide +kernel)
set_option maxRecDepth 20000 in
theorem gJ2_indexOfCharUnsafe_4cfef_J2_getChar_3b067 : GoodIn wsJ2_indexOfCharUnsafe_4cfef (va_wsS RJ2 71 yJ2_getChar_3b067 wsJ2_getChar_3b067) := goodIn_app (goodIn_of _ (by decide +kernel)) ggJ2_indexOfCharUnsafe_4cfef_J2_getChar_3b067
set_option maxRecDepth 20000 in
theorem ggJ2_indexOfSupplementary_4cfef_J11_isValidCodePoint_9a6ad : GoodIn wsJ2_indexOfSupplementary_4cfef wsJ11_isValidCodePoint_9a6ad := goodIn_r _ [4] rfl (by decide +kernel)
set_option maxRecDepth 20000 in
theorem gJ2_indexOfSupplementary_4cfef_J11_isValidCodePoint_9a6ad : GoodIn wsJ2_indexOfSupplementary_4cfef (va_wsS RJ2 164 yJ11_isValidCodePoint_9a6ad wsJ11_isValidCodePoint_9a6ad) := goodIn_app (goodIn_of _ (by decide +kernel)) ggJ2_indexOfSupplementary_4cfef_J11_isValidCodePoint_9a6ad
set_option maxRecDepth 20000 in
theorem ggJ2_indexOfSupplementary_4cfef_J11_highSurrogate_5068e : GoodIn wsJ2_indexOfSupplementary_4cfef wsJ11_highSurrogate_5068e := goodIn_r _ [7, 8] rfl (by decide +kernel)
set_option maxRecDepth 20000 in
theorem gJ2_indexOfSupplementary_4cfef_J11_highSurrogate_5068e : GoodIn wsJ2_indexOfSupplementary_4cfef (va_wsS RJ2 157 yJ11_highSurrogate_5068e wsJ11_highSurrogate_5068e) := goodIn_app (goodIn_of _ (by decide +kernel)) ggJ2_indexOfSupplementary_4cfef_J11_highSurrogate_5068e
set_option maxRecDepth 20000 in
theorem ggJ2_indexOfSupplementary_4cfef_J11_lowSurrogate_5068e : GoodIn wsJ2_indexOfSupplementary_4cfef wsJ11_lowSurrogate_5068e := goodIn_r _ [11, 12] rfl (by decide +kernel)
set_option maxRecDepth 20000 in
theorem gJ2_indexOfSupplementary_4cfef_J11_lowSurrogate_5068e : GoodIn wsJ2_indexOfSupplementary_4cfef (va_wsS RJ2 161 yJ11_lowSurrogate_5068e wsJ11_lowSurrogate_5068e) := goodIn_app (goodIn_of _ (by decide +kernel)) ggJ2_indexOfSupplementary_4cfef_J11_lowSurrogate_5068e
set_option maxRecDepth 20000 in
theorem ggJ2_indexOfSupplementary_4cfef_J2_checkBoundsBeginEnd_d044e : GoodIn wsJ2_indexOfSupplementary_4cfef wsJ2_checkBoundsBeginEnd_d044e := goodIn_r _ [16, 17, 18, 15, 19, 20, 21, 22, 23, 24, 25, 26, 27, 28] rfl (by decide +kernel)
set_option maxRecDepth 20000 in
theorem gJ2_indexOfSupplementary_4cfef_J2_checkBoundsBeginEnd_d044e : GoodIn wsJ2_indexOfSupplementary_4cfef (va_wsS RJ2 96 yJ2_checkBoundsBeginEnd_d044e wsJ2_checkBoundsBeginEnd_d044e) := goodIn_app (goodIn_of _ (by decide +kernel)) ggJ2_indexOfSupplementary_4cfef_J2_checkBoundsBeginEnd_d044e
set_option maxRecDepth 20000 in
theorem ggJ2_indexOfSupplementary_4cfef_J2_getChar_3b067 : GoodIn wsJ2_indexOfSupplementary_4cfef wsJ2_getChar_3b067 := goodIn_r _ [31, 32, 33, 34, 17, 18, 15, 19] rfl (by decide +kernel)
set_option maxRecDepth 20000 in
theorem gJ2_indexOfSupplementary_4cfef_J2_getChar_3b067 : GoodIn wsJ2_indexOfSupplementary_4cfef (va_wsS RJ2 71 yJ2_getChar_3b067 wsJ2_getChar_3b067) := goodIn_app (goodIn_of _ (by decide +kernel)) ggJ2_indexOfSupplementary_4cfef_J2_getChar_3b067
set_option maxRecDepth 20000 in
theorem ggJ2_charAt_3b067_J2_checkIndex_2214a : GoodIn wsJ2_charAt_3b067 wsJ2_checkIndex_2214a := goodIn_r _ [4, 5, 6, 3, 7, 8, 9, 10, 11, 12, 13, 14, 15, 16] rfl (by decide +kernel)
set_option maxRecDepth 20000 in
theorem gJ2_charAt_3b067_J2_checkIndex_2214a : GoodIn wsJ2_charAt_3b067 (va_wsS RJ2 67 yJ2_checkIndex_2214a wsJ2_checkIndex_2214a) := goodIn_app (goodIn_of _ (by decide +kernel)) ggJ2_charAt_3b067_J2_checkIndex_2214a
set_option maxRecDepth 20000 in
theorem ggJ2_charAt_3b067_J2_getChar_3b067 : GoodIn wsJ2_charAt_3b067 wsJ2_getChar_3b067 := goodIn_r _ [19, 20, 21, 22, 5, 6, 3, 7] rfl (by decide +kernel)
set_option maxRecDepth 20000 in
theorem gJ2_charAt_3b067_J2_getChar_3b067 : GoodIn wsJ2_charAt_3b067 (va_wsS RJ2 71 yJ2_getChar_3b067 wsJ2_getChar_3b067) := goodIn_app (goodIn_of _ (by decide +kernel)) ggJ2_charAt_3b067_J2_getChar_3b067
set_option maxRecDepth 20000 in
theorem ggJ2_checkIndex_2214a_J2_length_9d52b : GoodIn wsJ2_checkIndex_2214a wsJ2_length_9d52b := goodIn_r _ [4] rfl (by decide +kernel)
set_option maxRecDepth 20000 in
theorem gJ2_checkIndex_2214a_J2_length_9d52b : GoodIn wsJ2_checkIndex_2214a (va_wsS RJ2 48 yJ2_length_9d52b wsJ2_length_9d52b) := goodIn_app (goodIn_of _ (by decide +kernel)) ggJ2_checkIndex_2214a_J2_length_9d52b
set_option maxRecDepth 20000 in
theorem ggJ2_checkIndex_2214a_J0_checkIndex_df160 : GoodIn wsJ2_checkIndex_2214a wsJ0_checkIndex_df160 := goodIn_r _ [8, 9, 10, 11, 12, 13] rfl (by decide +kernel)
set_option maxRecDepth 20000 in
theorem gJ2_checkIndex_2214a_J0_checkIndex_df160 : GoodIn wsJ2_checkIndex_2214a (va_wsS RJ2 414 yJ0_checkIndex_df160 wsJ0_checkIndex_df160) := goodIn_app (goodIn_of _ (by decide +kernel)) ggJ2_checkIndex_2214a_J0_checkIndex_df160
set_option maxRecDepth 20000 in
theorem ggJ2_checkBoundsBeginEnd_d044e_J2_length_9d52b : GoodIn wsJ2_checkBoundsBeginEnd_d044e wsJ2_length_9d52b := goodIn_r _ [4] rfl (by decide +kernel)
set_option maxRecDepth 20000 in
theorem gJ2_checkBoundsBeginEnd_d044e_J2_length_9d52b : GoodIn wsJ2_checkBoundsBeginEnd_d044e (va_wsS RJ2 48 yJ2_length_9d52b wsJ2_length_9d52b) := goodIn_app (goodIn_of _ (by decide +kernel)) ggJ2_checkBoundsBeginEnd_d044e_J2_length_9d52b
set_option maxRecDepth 20000 in
theorem ggJ2_checkBoundsBeginEnd_d044e_J0_checkBoundsBeginEnd_23922 : GoodIn wsJ2_checkBoundsBeginEnd_d044e wsJ0_checkBoundsBeginEnd_23922 := goodIn_r _ [8, 9, 10, 11, 12, 13] rfl (by decide +kernel)
set_option maxRecDepth 20000 in
theorem gJ2_checkBoundsBeginEnd_d044e_J0_checkBoundsBeginEnd_23922 : GoodIn wsJ2_checkBoundsBeginEnd_d044e (va_wsS RJ2 241 yJ0_checkBoundsBeginEnd_23922 wsJ0_checkBoundsBeginEnd_23922) := goodIn_app (goodIn_of _ (by decide +kernel)) ggJ2_checkBoundsBeginEnd_d044e_J0_checkBoundsBeginEnd_23922
end
