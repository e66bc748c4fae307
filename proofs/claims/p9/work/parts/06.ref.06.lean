theorem hw_readMoveNumber : ∀ w ∈ wsX120, w ∈ wsX12_readMoveNumber := by decide +kernel
theorem fl_readMoveNumber_29 : Cond.fieldLink RX12 133 "MoveTextsModel" "number" "I" ∈ wsX12_readMoveNumber := by decide +kernel
theorem fl_readMoveNumber_37 : Cond.fieldLink RX12 267 "MoveTextsModel" "at" "I" ∈ wsX12_readMoveNumber := by decide +kernel
theorem hd_readMoveNumber : yX12_readMoveNumber.cls = RX12 ∧ yX12_readMoveNumber.cls ≠ "java/lang/invoke/MethodHandle" ∧ yX12_readMoveNumber.cls ≠ "java/lang/invoke/VarHandle" ∧ (parseMethodDescriptor yX12_readMoveNumber.desc).map (fun d => d.parameters.length) = some 0 := by decide +kernel
def f_readMoveNumber_65s (self65 : Int32 → Int32 → (Nat → Int32) → (Nat → Nat → Int32) → Option (Int32 × MS)) (x1 : Int32) (x2 : Int32) (I : Nat → Int32) (A : Nat → Nat → Int32) : Option (Int32 × MS) :=
  m_cl (f_look  I A) (fun r1 Ic1 Ac1 =>
  m_if (r1 = (46 : Int32)) (
  m_bnd ((Ic1 37) + (1 : Int32)) (fun v4 =>
  m_bnd (upd Ic1 37 v4) (fun I5 =>
  self65 x1 x2 I5 Ac1))
  ) (
  m_if (x2 = (Ic1 29)) (
  m_cl (f_blanks  Ic1 Ac1) (fun r2 Ic2 Ac2 =>
  some ((0 : Int32), (Ic2, Ac2)))
  ) (
  m_cl (f_fault (7 : Int32) x1 Ic1 Ac1) (fun r3 Ic3 Ac3 =>
  some (r3, (Ic3, Ac3)))
  )
  ))

set_option maxRecDepth 100000 in
set_option maxHeartbeats 4000000 in
theorem ws_readMoveNumber_65 {p : Program} {l : Launch} {e : Env} {s : State} {m : MethodId} {args : Array Value} {below : List Frame} {meth : Method} {c : Code} {Q : State → Prop} {D : va_G} {cy ci : ClassId} {h : Nat → Nat} {A0 : Nat → Prop} {o : Int32 × MS} (X : CallFix p m c cX12_readMoveNumber 4 s args wsX12_readMoveNumber RX12) (hret : mRi p l e ({ frames := 1, cells := 0, slots := 0, locals := 21 } : Room) s m args below meth c Q cX12_readMoveNumber D cy ci h A0 .int o) {self65 : Int32 → Int32 → (Nat → Int32) → (Nat → Nat → Int32) → Option (Int32 × MS)} (hself65 : ∀ (x1 : Int32) (x2 : Int32) (I : Nat → Int32) (A : Nat → Nat → Int32) (H : Heap) (locs : List Loc) (ls : Array Slot), self65 x1 x2 I A = some o → mH D cy ci h A0 s H locs I A → lv_has ls 4 [(0, .ref (h 0)), (1, .int x1), (2, .int x2)] → W p l e ({ frames := 1, cells := 0, slots := 0, locals := 21 } : Room) s m args below meth c H locs 0 0 Q (F0 m 65 ls [])) {x1 : Int32} {x2 : Int32} {I : Nat → Int32} {A : Nat → Nat → Int32} {H : Heap} {locs : List Loc} {ls : Array Slot} (hf : f_readMoveNumber_65s self65 x1 x2 I A = some o) (hM : mH D cy ci h A0 s H locs I A) (hl : lv_has ls 4 [(0, .ref (h 0)), (1, .int x1), (2, .int x2)]) : W p l e ({ frames := 1, cells := 0, slots := 0, locals := 21 } : Room) s m args below meth c H locs 0 0 Q (F0 m 65 ls []) := by
  obtain ⟨hx, hb, hml, hown, hts⟩ := id X
  unfold f_readMoveNumber_65s at hf
  refine lv_aload_n hx hb dX12_readMoveNumber_65 rfl (lv_at hl 0 rfl) ?_
  obtain ⟨o1, ho, hf⟩ := m_clE hf
  refine m_callVi X hM (c_look ho) gX12_readMoveNumber_X12_look rfl ⟨rfl, rfl⟩ hd_look ⟨Nat.le_of_ble_eq_true rfl, Nat.le_of_ble_eq_true rfl⟩ rfl hl.1 rfl (Nat.le_of_ble_eq_true rfl) dX12_readMoveNumber_66 (fun H locs hM => ?_)
  clear ho
  refine lv_bipush (v := (46 : Int32)) hx hb dX12_readMoveNumber_69 (by decide) ?_
  refine lv_icmp_ne (tgt := 87) hx hb dX12_readMoveNumber_71 (by decide) (fun cc1 => ?_) (fun cc1 => ?_)
  · replace hf := m_ifF hf cc1
    refine lv_iload_n hx hb dX12_readMoveNumber_87 rfl (lv_at hl 2 rfl) ?_
    refine lv_aload_n hx hb dX12_readMoveNumber_88 rfl (lv_at hl 0 rfl) ?_
    refine m_get (v := .int (o1.2.1 29)) X hw_readMoveNumber hM 29 (by decide) fl_readMoveNumber_29 rfl dX12_readMoveNumber_89 ?_
    refine lv_icmp_eq (tgt := 102) hx hb dX12_readMoveNumber_92 (by decide) (fun cc1 => ?_) (fun cc1 => ?_)
    · replace hf := m_ifT hf cc1
      refine lv_aload_n hx hb dX12_readMoveNumber_102 rfl (lv_at hl 0 rfl) ?_
      obtain ⟨o2, ho, hf⟩ := m_clE hf
      refine m_callVv X hM (c_blanks ho) gX12_readMoveNumber_X12_blanks rfl ⟨rfl, rfl⟩ hd_blanks ⟨Nat.le_of_ble_eq_true rfl, Nat.le_of_ble_eq_true rfl⟩ rfl hl.1 rfl (Nat.le_of_ble_eq_true rfl) dX12_readMoveNumber_103 (fun H locs hM => ?_)
      clear ho
      refine lv_iconst (v := (0 : Int32)) hx hb dX12_readMoveNumber_106 (by decide) ?_
      cases hf
      exact hret H locs _ ls hM rfl dX12_readMoveNumber_107
    · replace hf := m_ifF hf cc1
      refine lv_bipush (v := (7 : Int32)) hx hb dX12_readMoveNumber_95 (by decide) ?_
      refine lv_iload_n hx hb dX12_readMoveNumber_97 rfl (lv_at hl 1 rfl) ?_
      obtain ⟨o3, ho, hf⟩ := m_clE hf
      refine m_callSi X hM (c_fault ho) gX12_readMoveNumber_X12_fault rfl ⟨rfl, rfl⟩ hd_fault ⟨Nat.le_of_ble_eq_true rfl, Nat.le_of_ble_eq_true rfl⟩ rfl hl.1 rfl (Nat.le_of_ble_eq_true rfl) dX12_readMoveNumber_98 (fun H locs hM => ?_)
      clear ho
      cases hf
      exact hret H locs _ ls hM rfl dX12_readMoveNumber_101
  · replace hf := m_ifT hf cc1
    refine lv_aload_n hx hb dX12_readMoveNumber_74 rfl (lv_at hl 0 rfl) ?_
    refine lv_dup hx hb dX12_readMoveNumber_75 rfl ?_
    refine m_get (v := .int (o1.2.1 37)) X hw_readMoveNumber hM 37 (by decide) fl_readMoveNumber_37 rfl dX12_readMoveNumber_76 ?_
    refine lv_iconst (v := (1 : Int32)) hx hb dX12_readMoveNumber_79 (by decide) ?_
    refine lv_iadd hx hb dX12_readMoveNumber_80 ?_
    obtain ⟨v4, ev, hf⟩ := m_bndE hf
    refine m_top ev ?_
    clear ev
    refine m_put X hw_readMoveNumber hM 37 (by decide) fl_readMoveNumber_37 mi_37 rfl (tyX12_ok 37 (by decide)) dX12_readMoveNumber_81 (fun H locs hM => ?_)
    obtain ⟨I5, ev, hf⟩ := m_bndE hf
    replace hM := m_hI hM ev
    clear ev
    refine lv_goto (tgt := 65) hx hb dX12_readMoveNumber_84 (by decide) ?_
    exact hself65 _ _ _ _ _ _ _ hf hM (lv_sub hl [0, 1, 2] rfl)
def f_readMoveNumber_65 : Nat → Int32 → Int32 → (Nat → Int32) → (Nat → Nat → Int32) → Option (Int32 × MS)
  | 0 => fun _ _ _ _ => none
  | n + 1 => f_readMoveNumber_65s (f_readMoveNumber_65 n)
theorem w_readMoveNumber_65 {p : Program} {l : Launch} {e : Env} {s : State} {m : MethodId} {args : Array Value} {below : List Frame} {meth : Method} {c : Code} {Q : State → Prop} {D : va_G} {cy ci : ClassId} {h : Nat → Nat} {A0 : Nat → Prop} {o : Int32 × MS} (X : CallFix p m c cX12_readMoveNumber 4 s args wsX12_readMoveNumber RX12) (hret : mRi p l e ({ frames := 1, cells := 0, slots := 0, locals := 21 } : Room) s m args below meth c Q cX12_readMoveNumber D cy ci h A0 .int o) (n : Nat) : ∀ (x1 : Int32) (x2 : Int32) (I : Nat → Int32) (A : Nat → Nat → Int32) (H : Heap) (locs : List Loc) (ls : Array Slot), f_readMoveNumber_65 n x1 x2 I A = some o → mH D cy ci h A0 s H locs I A → lv_has ls 4 [(0, .ref (h 0)), (1, .int x1), (2, .int x2)] → W p l e ({ frames := 1, cells := 0, slots := 0, locals := 21 } : Room) s m args below meth c H locs 0 0 Q (F0 m 65 ls []) := by
  induction n with
  | zero => intro x1 x2 I A H locs ls hf; cases hf
  | succ n ih => intro x1 x2 I A H locs ls hf hM hl; exact ws_readMoveNumber_65 X hret (self65 := f_readMoveNumber_65 n) ih hf hM hl
def f_readMoveNumber_21s (self21 : Int32 → Int32 → Int32 → (Nat → Int32) → (Nat → Nat → Int32) → Option (Int32 × MS)) (x1 : Int32) (x2 : Int32) (x3 : Int32) (I : Nat → Int32) (A : Nat → Nat → Int32) : Option (Int32 × MS) :=
  m_cl (f_look  I A) (fun r1 Ic1 Ac1 =>
  m_cl (f_isDigit r1 Ic1 Ac1) (fun r2 Ic2 Ac2 =>
  m_if (r2 = 0) (
  f_readMoveNumber_65 mFuel x1 x2 Ic2 Ac2
  ) (
  m_if ((4 : Int32) ≤ x3) (
  f_readMoveNumber_65 mFuel x1 x2 Ic2 Ac2
  ) (
  m_bnd ((10 : Int32) * x2) (fun v3 =>
  m_cl (f_look  Ic2 Ac2) (fun r4 Ic4 Ac4 =>
  m_bnd (v3 + r4) (fun v5 =>
  m_bnd (v5 - (48 : Int32)) (fun v6 =>
  m_bnd (x3 + (1 : Int32)) (fun v7 =>
  m_bnd ((Ic4 37) + (1 : Int32)) (fun v8 =>
  m_bnd (upd Ic4 37 v8) (fun I9 =>
  self21 x1 v6 v7 I9 Ac4)))))))
  )
  )))

set_option maxRecDepth 100000 in
set_option maxHeartbeats 4000000 in
theorem ws_readMoveNumber_21 {p : Program} {l : Launch} {e : Env} {s : State} {m : MethodId} {args : Array Value} {below : List Frame} {meth : Method} {c : Code} {Q : State → Prop} {D : va_G} {cy ci : ClassId} {h : Nat → Nat} {A0 : Nat → Prop} {o : Int32 × MS} (X : CallFix p m c cX12_readMoveNumber 4 s args wsX12_readMoveNumber RX12) (hret : mRi p l e ({ frames := 1, cells := 0, slots := 0, locals := 21 } : Room) s m args below meth c Q cX12_readMoveNumber D cy ci h A0 .int o) {self21 : Int32 → Int32 → Int32 → (Nat → Int32) → (Nat → Nat → Int32) → Option (Int32 × MS)} (hself21 : ∀ (x1 : Int32) (x2 : Int32) (x3 : Int32) (I : Nat → Int32) (A : Nat → Nat → Int32) (H : Heap) (locs : List Loc) (ls : Array Slot), self21 x1 x2 x3 I A = some o → mH D cy ci h A0 s H locs I A → lv_has ls 4 [(0, .ref (h 0)), (1, .int x1), (2, .int x2), (3, .int x3)] → W p l e ({ frames := 1, cells := 0, slots := 0, locals := 21 } : Room) s m args below meth c H locs 0 0 Q (F0 m 21 ls [])) {x1 : Int32} {x2 : Int32} {x3 : Int32} {I : Nat → Int32} {A : Nat → Nat → Int32} {H : Heap} {locs : List Loc} {ls : Array Slot} (hf : f_readMoveNumber_21s self21 x1 x2 x3 I A = some o) (hM : mH D cy ci h A0 s H locs I A) (hl : lv_has ls 4 [(0, .ref (h 0)), (1, .int x1), (2, .int x2), (3, .int x3)]) : W p l e ({ frames := 1, cells := 0, slots := 0, locals := 21 } : Room) s m args below meth c H locs 0 0 Q (F0 m 21 ls []) := by
  obtain ⟨hx, hb, hml, hown, hts⟩ := id X
  unfold f_readMoveNumber_21s at hf
  refine lv_aload_n hx hb dX12_readMoveNumber_21 rfl (lv_at hl 0 rfl) ?_
  obtain ⟨o1, ho, hf⟩ := m_clE hf
  refine m_callVi X hM (c_look ho) gX12_readMoveNumber_X12_look rfl ⟨rfl, rfl⟩ hd_look ⟨Nat.le_of_ble_eq_true rfl, Nat.le_of_ble_eq_true rfl⟩ rfl hl.1 rfl (Nat.le_of_ble_eq_true rfl) dX12_readMoveNumber_22 (fun H locs hM => ?_)
  clear ho
  obtain ⟨o2, ho, hf⟩ := m_clE hf
  refine m_callSi X hM (c_isDigit ho) gX12_readMoveNumber_X12_isDigit rfl ⟨rfl, rfl⟩ hd_isDigit ⟨Nat.le_of_ble_eq_true rfl, Nat.le_of_ble_eq_true rfl⟩ rfl hl.1 rfl (Nat.le_of_ble_eq_true rfl) dX12_readMoveNumber_25 (fun H locs hM => ?_)
  clear ho
  refine lv_if_eq (tgt := 65) hx hb dX12_readMoveNumber_28 (by decide) (fun cc1 => ?_) (fun cc1 => ?_)
  · replace hf := m_ifT hf cc1
    exact w_readMoveNumber_65 X hret _ _ _ _ _ _ _ _ hf hM (lv_sub hl [0, 1, 2] rfl)
  · replace hf := m_ifF hf cc1
    refine lv_iload_n hx hb dX12_readMoveNumber_31 rfl (lv_at hl 3 rfl) ?_
    refine lv_iconst (v := (4 : Int32)) hx hb dX12_readMoveNumber_32 (by decide) ?_
    refine lv_icmp_ge (tgt := 65) hx hb dX12_readMoveNumber_33 (by decide) (fun cc1 => ?_) (fun cc1 => ?_)
    · replace hf := m_ifT hf cc1
      exact w_readMoveNumber_65 X hret _ _ _ _ _ _ _ _ hf hM (lv_sub hl [0, 1, 2] rfl)
    · replace hf := m_ifF hf cc1
      refine lv_bipush (v := (10 : Int32)) hx hb dX12_readMoveNumber_36 (by decide) ?_
      refine lv_iload_n hx hb dX12_readMoveNumber_38 rfl (lv_at hl 2 rfl) ?_
      refine lv_imul hx hb dX12_readMoveNumber_39 ?_
      obtain ⟨v3, ev, hf⟩ := m_bndE hf
      refine m_top ev ?_
      clear ev
      refine lv_aload_n hx hb dX12_readMoveNumber_40 rfl (lv_at hl 0 rfl) ?_
      obtain ⟨o4, ho, hf⟩ := m_clE hf
      refine m_callVi X hM (c_look ho) gX12_readMoveNumber_X12_look rfl ⟨rfl, rfl⟩ hd_look ⟨Nat.le_of_ble_eq_true rfl, Nat.le_of_ble_eq_true rfl⟩ rfl hl.1 rfl (Nat.le_of_ble_eq_true rfl) dX12_readMoveNumber_41 (fun H locs hM => ?_)
      clear ho
      refine lv_iadd hx hb dX12_readMoveNumber_44 ?_
      obtain ⟨v5, ev, hf⟩ := m_bndE hf
      refine m_top ev ?_
      clear ev
      refine lv_bipush (v := (48 : Int32)) hx hb dX12_readMoveNumber_45 (by decide) ?_
      refine lv_isub hx hb dX12_readMoveNumber_47 ?_
      obtain ⟨v6, ev, hf⟩ := m_bndE hf
      refine m_top ev ?_
      clear ev
      refine lv_istore_n (lv' := [(2, .int v6), (0, .ref (h 0)), (1, .int x1), (3, .int x3)]) hx hb dX12_readMoveNumber_48 rfl hl (by decide) rfl (fun ls hl => ?_)
      obtain ⟨v7, ev, hf⟩ := m_bndE hf
      refine lv_iinc (v := v7) (lv' := [(3, .int v7), (2, .int v6), (0, .ref (h 0)), (1, .int x1)]) hx hb dX12_readMoveNumber_49 hl (k := 3) rfl (by rw [ev]; rfl) (by decide) rfl (fun ls hl => ?_)
      clear ev
      refine lv_aload_n hx hb dX12_readMoveNumber_52 rfl (lv_at hl 2 rfl) ?_
      refine lv_dup hx hb dX12_readMoveNumber_53 rfl ?_
      refine m_get (v := .int (o4.2.1 37)) X hw_readMoveNumber hM 37 (by decide) fl_readMoveNumber_37 rfl dX12_readMoveNumber_54 ?_
      refine lv_iconst (v := (1 : Int32)) hx hb dX12_readMoveNumber_57 (by decide) ?_
      refine lv_iadd hx hb dX12_readMoveNumber_58 ?_
      obtain ⟨v8, ev, hf⟩ := m_bndE hf
      refine m_top ev ?_
      clear ev
      refine m_put X hw_readMoveNumber hM 37 (by decide) fl_readMoveNumber_37 mi_37 rfl (tyX12_ok 37 (by decide)) dX12_readMoveNumber_59 (fun H locs hM => ?_)
      obtain ⟨I9, ev, hf⟩ := m_bndE hf
      replace hM := m_hI hM ev
      clear ev
      refine lv_goto (tgt := 21) hx hb dX12_readMoveNumber_62 (by decide) ?_
      exact hself21 _ _ _ _ _ _ _ _ hf hM (lv_sub hl [2, 3, 1, 0] rfl)
def f_readMoveNumber_21 : Nat → Int32 → Int32 → Int32 → (Nat → Int32) → (Nat → Nat → Int32) → Option (Int32 × MS)
  | 0 => fun _ _ _ _ _ => none
  | n + 1 => f_readMoveNumber_21s (f_readMoveNumber_21 n)
theorem w_readMoveNumber_21 {p : Program} {l : Launch} {e : Env} {s : State} {m : MethodId} {args : Array Value} {below : List Frame} {meth : Method} {c : Code} {Q : State → Prop} {D : va_G} {cy ci : ClassId} {h : Nat → Nat} {A0 : Nat → Prop} {o : Int32 × MS} (X : CallFix p m c cX12_readMoveNumber 4 s args wsX12_readMoveNumber RX12) (hret : mRi p l e ({ frames := 1, cells := 0, slots := 0, locals := 21 } : Room) s m args below meth c Q cX12_readMoveNumber D cy ci h A0 .int o) (n : Nat) : ∀ (x1 : Int32) (x2 : Int32) (x3 : Int32) (I : Nat → Int32) (A : Nat → Nat → Int32) (H : Heap) (locs : List Loc) (ls : Array Slot), f_readMoveNumber_21 n x1 x2 x3 I A = some o → mH D cy ci h A0 s H locs I A → lv_has ls 4 [(0, .ref (h 0)), (1, .int x1), (2, .int x2), (3, .int x3)] → W p l e ({ frames := 1, cells := 0, slots := 0, locals := 21 } : Room) s m args below meth c H locs 0 0 Q (F0 m 21 ls []) := by
  induction n with
  | zero => intro x1 x2 x3 I A H locs ls hf; cases hf
  | succ n ih => intro x1 x2 x3 I A H locs ls hf hM hl; exact ws_readMoveNumber_21 X hret (self21 := f_readMoveNumber_21 n) ih hf hM hl
def f_readMoveNumber_0 (I : Nat → Int32) (A : Nat → Nat → Int32) : Option (Int32 × MS) :=
  m_cl (f_look  I A) (fun r1 Ic1 Ac1 =>
  m_cl (f_isDigit r1 Ic1 Ac1) (fun r2 Ic2 Ac2 =>
  m_if (r2 = 0) (
  some ((0 : Int32), (Ic2, Ac2))
  ) (
  f_readMoveNumber_21 mFuel (Ic2 37) (0 : Int32) (0 : Int32) Ic2 Ac2
  )))

set_option maxRecDepth 100000 in
set_option maxHeartbeats 4000000 in
theorem w_readMoveNumber_0 {p : Program} {l : Launch} {e : Env} {s : State} {m : MethodId} {args : Array Value} {below : List Frame} {meth : Method} {c : Code} {Q : State → Prop} {D : va_G} {cy ci : ClassId} {h : Nat → Nat} {A0 : Nat → Prop} {o : Int32 × MS} (X : CallFix p m c cX12_readMoveNumber 4 s args wsX12_readMoveNumber RX12) (hret : mRi p l e ({ frames := 1, cells := 0, slots := 0, locals := 21 } : Room) s m args below meth c Q cX12_readMoveNumber D cy ci h A0 .int o) {I : Nat → Int32} {A : Nat → Nat → Int32} {H : Heap} {locs : List Loc} {ls : Array Slot} (hf : f_readMoveNumber_0  I A = some o) (hM : mH D cy ci h A0 s H locs I A) (hl : lv_has ls 4 [(0, .ref (h 0))]) : W p l e ({ frames := 1, cells := 0, slots := 0, locals := 21 } : Room) s m args below meth c H locs 0 0 Q (F0 m 0 ls []) := by
  obtain ⟨hx, hb, hml, hown, hts⟩ := id X
  unfold f_readMoveNumber_0 at hf
  refine lv_aload_n hx hb dX12_readMoveNumber_0 rfl (lv_at hl 0 rfl) ?_
  obtain ⟨o1, ho, hf⟩ := m_clE hf
  refine m_callVi X hM (c_look ho) gX12_readMoveNumber_X12_look rfl ⟨rfl, rfl⟩ hd_look ⟨Nat.le_of_ble_eq_true rfl, Nat.le_of_ble_eq_true rfl⟩ rfl hl.1 rfl (Nat.le_of_ble_eq_true rfl) dX12_readMoveNumber_1 (fun H locs hM => ?_)
  clear ho
  obtain ⟨o2, ho, hf⟩ := m_clE hf
  refine m_callSi X hM (c_isDigit ho) gX12_readMoveNumber_X12_isDigit rfl ⟨rfl, rfl⟩ hd_isDigit ⟨Nat.le_of_ble_eq_true rfl, Nat.le_of_ble_eq_true rfl⟩ rfl hl.1 rfl (Nat.le_of_ble_eq_true rfl) dX12_readMoveNumber_4 (fun H locs hM => ?_)
  clear ho
  refine lv_if_ne (tgt := 12) hx hb dX12_readMoveNumber_7 (by decide) (fun cc1 => ?_) (fun cc1 => ?_)
  · replace hf := m_ifF hf cc1
    refine lv_aload_n hx hb dX12_readMoveNumber_12 rfl (lv_at hl 0 rfl) ?_
    refine m_get (v := .int (o2.2.1 37)) X hw_readMoveNumber hM 37 (by decide) fl_readMoveNumber_37 rfl dX12_readMoveNumber_13 ?_
    refine lv_istore_n (lv' := [(1, .int (o2.2.1 37)), (0, .ref (h 0))]) hx hb dX12_readMoveNumber_16 rfl hl (by decide) rfl (fun ls hl => ?_)
    refine lv_iconst (v := (0 : Int32)) hx hb dX12_readMoveNumber_17 (by decide) ?_
    refine lv_istore_n (lv' := [(2, .int (0 : Int32)), (1, .int (o2.2.1 37)), (0, .ref (h 0))]) hx hb dX12_readMoveNumber_18 rfl hl (by decide) rfl (fun ls hl => ?_)
    refine lv_iconst (v := (0 : Int32)) hx hb dX12_readMoveNumber_19 (by decide) ?_
    refine lv_istore_n (lv' := [(3, .int (0 : Int32)), (2, .int (0 : Int32)), (1, .int (o2.2.1 37)), (0, .ref (h 0))]) hx hb dX12_readMoveNumber_20 rfl hl (by decide) rfl (fun ls hl => ?_)
    exact w_readMoveNumber_21 X hret _ _ _ _ _ _ _ _ _ hf hM (lv_sub hl [3, 2, 1, 0] rfl)
  · replace hf := m_ifT hf cc1
    refine lv_iconst (v := (0 : Int32)) hx hb dX12_readMoveNumber_10 (by decide) ?_
    cases hf
    exact hret H locs _ ls hM rfl dX12_readMoveNumber_11
def f_readMoveNumber (I : Nat → Int32) (A : Nat → Nat → Int32) : Option (Int32 × MS) := f_readMoveNumber_0  I A
theorem c_readMoveNumber {l : Launch} {D : va_G} {cy ci : ClassId} {h : Nat → Nat} {I : Nat → Int32} {A : Nat → Nat → Int32} {o : Int32 × MS} (hf : f_readMoveNumber  I A = some o) : mMi l yX12_readMoveNumber wsX12_readMoveNumber ({ frames := 1, cells := 0, slots := 0, locals := 21 } : Room) [.ref (h 0)] D cy ci h I A o :=
  m_entryI (cc := cX12_readMoveNumber) (maxL := 4) (by decide) rfl rfl (Nat.le_of_ble_eq_true rfl) (fun p e s m args below meth c A0 Q H locs ls X hret hM hl => w_readMoveNumber_0 X hret hf hM (lv_sub hl [0] rfl))
theorem hw_readMove : ∀ w ∈ wsX120, w ∈ wsX12_readMove := by decide +kernel
theorem fl_readMove_7 : Cond.fieldLink RX12 17 "MoveTextsModel" "count" "[I" ∈ wsX12_readMove := by decide +kernel
theorem fl_readMove_37 : Cond.fieldLink RX12 267 "MoveTextsModel" "at" "I" ∈ wsX12_readMove := by decide +kernel
theorem hd_readMove : yX12_readMove.cls = RX12 ∧ yX12_readMove.cls ≠ "java/lang/invoke/MethodHandle" ∧ yX12_readMove.cls ≠ "java/lang/invoke/VarHandle" ∧ (parseMethodDescriptor yX12_readMove.desc).map (fun d => d.parameters.length) = some 2 := by decide +kernel
def f_readMove_81 (self25 : Int32 → Int32 → Int32 → (Nat → Int32) → (Nat → Nat → Int32) → Option (Int32 × MS)) (x1 : Int32) (x2 : Int32) (x3 : Int32) (I : Nat → Int32) (A : Nat → Nat → Int32) : Option (Int32 × MS) :=
  m_bnd ((I 37) + (1 : Int32)) (fun v1 =>
  m_bnd (upd I 37 v1) (fun I2 =>
  self25 x1 x2 x3 I2 A))

set_option maxRecDepth 100000 in
set_option maxHeartbeats 4000000 in
theorem w_readMove_81 {p : Program} {l : Launch} {e : Env} {s : State} {m : MethodId} {args : Array Value} {below : List Frame} {meth : Method} {c : Code} {Q : State → Prop} {D : va_G} {cy ci : ClassId} {h : Nat → Nat} {A0 : Nat → Prop} {o : Int32 × MS} (X : CallFix p m c cX12_readMove 5 s args wsX12_readMove RX12) (hret : mRi p l e ({ frames := 8, cells := 0, slots := 0, locals := 210 } : Room) s m args below meth c Q cX12_readMove D cy ci h A0 .int o) {self25 : Int32 → Int32 → Int32 → (Nat → Int32) → (Nat → Nat → Int32) → Option (Int32 × MS)} (hself25 : ∀ (x1 : Int32) (x2 : Int32) (x3 : Int32) (I : Nat → Int32) (A : Nat → Nat → Int32) (H : Heap) (locs : List Loc) (ls : Array Slot), self25 x1 x2 x3 I A = some o → mH D cy ci h A0 s H locs I A → lv_has ls 5 [(0, .ref (h 0)), (1, .int x1), (2, .int x2), (3, .int x3)] → W p l e ({ frames := 8, cells := 0, slots := 0, locals := 210 } : Room) s m args below meth c H locs 0 0 Q (F0 m 25 ls [])) {x1 : Int32} {x2 : Int32} {x3 : Int32} {I : Nat → Int32} {A : Nat → Nat → Int32} {H : Heap} {locs : List Loc} {ls : Array Slot} (hf : f_readMove_81 self25 x1 x2 x3 I A = some o) (hM : mH D cy ci h A0 s H locs I A) (hl : lv_has ls 5 [(0, .ref (h 0)), (1, .int x1), (2, .int x2), (3, .int x3)]) : W p l e ({ frames := 8, cells := 0, slots := 0, locals := 210 } : Room) s m args below meth c H locs 0 0 Q (F0 m 81 ls []) := by
  obtain ⟨hx, hb, hml, hown, hts⟩ := id X
  unfold f_readMove_81 at hf
  refine lv_aload_n hx hb dX12_readMove_81 rfl (lv_at hl 0 rfl) ?_
  refine lv_dup hx hb dX12_readMove_82 rfl ?_
  refine m_get (v := .int (I 37)) X hw_readMove hM 37 (by decide) fl_readMove_37 rfl dX12_readMove_83 ?_
  refine lv_iconst (v := (1 : Int32)) hx hb dX12_readMove_86 (by decide) ?_
  refine lv_iadd hx hb dX12_readMove_87 ?_
  obtain ⟨v1, ev, hf⟩ := m_bndE hf
  refine m_top ev ?_
  clear ev
  refine m_put X hw_readMove hM 37 (by decide) fl_readMove_37 mi_37 rfl (tyX12_ok 37 (by decide)) dX12_readMove_88 (fun H locs hM => ?_)
  obtain ⟨I2, ev, hf⟩ := m_bndE hf
  replace hM := m_hI hM ev
  clear ev
  refine lv_goto (tgt := 25) hx hb dX12_readMove_91 (by decide) ?_
  exact hself25 _ _ _ _ _ _ _ _ hf hM (lv_sub hl [0, 1, 2, 3] rfl)
def f_readMove_122 (x3 : Int32) (t0 : Int32) (I : Nat → Int32) (A : Nat → Nat → Int32) : Option (Int32 × MS) :=
  m_cl (f_fault t0 x3 I A) (fun r1 Ic1 Ac1 =>
  m_bnd (-r1) (fun v2 =>
  some (v2, (Ic1, Ac1))))

set_option maxRecDepth 100000 in
set_option maxHeartbeats 4000000 in
theorem w_readMove_122 {p : Program} {l : Launch} {e : Env} {s : State} {m : MethodId} {args : Array Value} {below : List Frame} {meth : Method} {c : Code} {Q : State → Prop} {D : va_G} {cy ci : ClassId} {h : Nat → Nat} {A0 : Nat → Prop} {o : Int32 × MS} (X : CallFix p m c cX12_readMove 5 s args wsX12_readMove RX12) (hret : mRi p l e ({ frames := 8, cells := 0, slots := 0, locals := 210 } : Room) s m args below meth c Q cX12_readMove D cy ci h A0 .int o) {x3 : Int32} {t0 : Int32} {I : Nat → Int32} {A : Nat → Nat → Int32} {H : Heap} {locs : List Loc} {ls : Array Slot} (hf : f_readMove_122 x3 t0 I A = some o) (hM : mH D cy ci h A0 s H locs I A) (hl : lv_has ls 5 [(3, .int x3)]) : W p l e ({ frames := 8, cells := 0, slots := 0, locals := 210 } : Room) s m args below meth c H locs 0 0 Q (F0 m 122 ls [.int t0]) := by
  obtain ⟨hx, hb, hml, hown, hts⟩ := id X
  unfold f_readMove_122 at hf
  refine lv_iload_n hx hb dX12_readMove_122 rfl (lv_at hl 0 rfl) ?_
  obtain ⟨o1, ho, hf⟩ := m_clE hf
  refine m_callSi X hM (c_fault ho) gX12_readMove_X12_fault rfl ⟨rfl, rfl⟩ hd_fault ⟨Nat.le_of_ble_eq_true rfl, Nat.le_of_ble_eq_true rfl⟩ rfl hl.1 rfl (Nat.le_of_ble_eq_true rfl) dX12_readMove_123 (fun H locs hM => ?_)
  clear ho
  refine lv_ineg hx hb dX12_readMove_126 ?_
  obtain ⟨v2, ev, hf⟩ := m_bndE hf
  refine m_top ev ?_
  clear ev
  cases hf
  exact hret H locs _ ls hM rfl dX12_readMove_127
def f_readMove_25s (self25 : Int32 → Int32 → Int32 → (Nat → Int32) → (Nat → Nat → Int32) → Option (Int32 × MS)) (x1 : Int32) (x2 : Int32) (x3 : Int32) (I : Nat → Int32) (A : Nat → Nat → Int32) : Option (Int32 × MS) :=
  m_cl (f_look  I A) (fun r1 Ic1 Ac1 =>
  m_cl (f_isLetter r1 Ic1 Ac1) (fun r2 Ic2 Ac2 =>
  m_if (r2 = 0) (
  m_cl (f_look  Ic2 Ac2) (fun r3 Ic3 Ac3 =>
  m_cl (f_isDigit r3 Ic3 Ac3) (fun r4 Ic4 Ac4 =>
  m_if (r4 = 0) (
  m_cl (f_look  Ic4 Ac4) (fun r5 Ic5 Ac5 =>
  m_if (r5 = (61 : Int32)) (
  f_readMove_81 self25 x1 x2 x3 Ic5 Ac5
  ) (
  m_cl (f_look  Ic5 Ac5) (fun r6 Ic6 Ac6 =>
  m_if (r6 = (45 : Int32)) (
  f_readMove_81 self25 x1 x2 x3 Ic6 Ac6
  ) (
  m_cl (f_look  Ic6 Ac6) (fun r7 Ic7 Ac7 =>
  m_if (r7 = (43 : Int32)) (
  f_readMove_81 self25 x1 x2 x3 Ic7 Ac7
  ) (
  m_cl (f_look  Ic7 Ac7) (fun r8 Ic8 Ac8 =>
  m_if (r8 = (35 : Int32)) (
  f_readMove_81 self25 x1 x2 x3 Ic8 Ac8
  ) (
  m_cl (f_understood x3 (Ic8 37) Ic8 Ac8) (fun r9 Ic9 Ac9 =>
  m_if (0 ≤ r9) (
  m_cl (f_childWith x1 x2 r9 Ic9 Ac9) (fun r10 Ic10 Ac10 =>
  m_if (r10 < 0) (
  m_chk (¬ (x1 < 0 ∨ 2 ≤ (x1).toNatClampNeg)) (
  m_bnd (Ac10 7 (x1).toNatClampNeg) (fun v11 =>
  m_if (v11 = (300 : Int32)) (
  m_cl (f_fault (8 : Int32) x3 Ic10 Ac10) (fun r13 Ic13 Ac13 =>
  m_bnd (-r13) (fun v14 =>
  some (v14, (Ic13, Ac13))))
  ) (
  m_cl (f_append x1 x2 r9 Ic10 Ac10) (fun r12 Ic12 Ac12 =>
  some (r12, (Ic12, Ac12)))
  )))
  ) (
  m_cl (f_fault (6 : Int32) x3 Ic10 Ac10) (fun r15 Ic15 Ac15 =>
  m_bnd (-r15) (fun v16 =>
  some (v16, (Ic15, Ac15))))
  ))
  ) (
  m_if (r9 = (-2 : Int32)) (
  f_readMove_122 x3 (5 : Int32) Ic9 Ac9
  ) (
  f_readMove_122 x3 (4 : Int32) Ic9 Ac9
  )
  ))
  ))
  ))
  ))
  ))
  ) (
  f_readMove_81 self25 x1 x2 x3 Ic4 Ac4
  )))
  ) (
  f_readMove_81 self25 x1 x2 x3 Ic2 Ac2
  )))

set_option maxRecDepth 100000 in
set_option maxHeartbeats 4000000 in
theorem ws_readMove_25 {p : Program} {l : Launch} {e : Env} {s : State} {m : MethodId} {args : Array Value} {below : List Frame} {meth : Method} {c : Code} {Q : State → Prop} {D : va_G} {cy ci : ClassId} {h : Nat → Nat} {A0 : Nat → Prop} {o : Int32 × MS} (X : CallFix p m c cX12_readMove 5 s args wsX12_readMove RX12) (hret : mRi p l e ({ frames := 8, cells := 0, slots := 0, locals := 210 } : Room) s m args below meth c Q cX12_readMove D cy ci h A0 .int o) {self25 : Int32 → Int32 → Int32 → (Nat → Int32) → (Nat → Nat → Int32) → Option (Int32 × MS)} (hself25 : ∀ (x1 : Int32) (x2 : Int32) (x3 : Int32) (I : Nat → Int32) (A : Nat → Nat → Int32) (H : Heap) (locs : List Loc) (ls : Array Slot), self25 x1 x2 x3 I A = some o → mH D cy ci h A0 s H locs I A → lv_has ls 5 [(0, .ref (h 0)), (1, .int x1), (2, .int x2), (3, .int x3)] → W p l e ({ frames := 8, cells := 0, slots := 0, locals := 210 } : Room) s m args below meth c H locs 0 0 Q (F0 m 25 ls [])) {x1 : Int32} {x2 : Int32} {x3 : Int32} {I : Nat → Int32} {A : Nat → Nat → Int32} {H : Heap} {locs : List Loc} {ls : Array Slot} (hf : f_readMove_25s self25 x1 x2 x3 I A = some o) (hM : mH D cy ci h A0 s H locs I A) (hl : lv_has ls 5 [(0, .ref (h 0)), (1, .int x1), (2, .int x2), (3, .int x3)]) : W p l e ({ frames := 8, cells := 0, slots := 0, locals := 210 } : Room) s m args below meth c H locs 0 0 Q (F0 m 25 ls []) := by
  obtain ⟨hx, hb, hml, hown, hts⟩ := id X
  unfold f_readMove_25s at hf
  refine lv_aload_n hx hb dX12_readMove_25 rfl (lv_at hl 0 rfl) ?_
  obtain ⟨o1, ho, hf⟩ := m_clE hf
  refine m_callVi X hM (c_look ho) gX12_readMove_X12_look rfl ⟨rfl, rfl⟩ hd_look ⟨Nat.le_of_ble_eq_true rfl, Nat.le_of_ble_eq_true rfl⟩ rfl hl.1 rfl (Nat.le_of_ble_eq_true rfl) dX12_readMove_26 (fun H locs hM => ?_)
  clear ho
  obtain ⟨o2, ho, hf⟩ := m_clE hf
  refine m_callSi X hM (c_isLetter ho) gX12_readMove_X12_isLetter rfl ⟨rfl, rfl⟩ hd_isLetter ⟨Nat.le_of_ble_eq_true rfl, Nat.le_of_ble_eq_true rfl⟩ rfl hl.1 rfl (Nat.le_of_ble_eq_true rfl) dX12_readMove_29 (fun H locs hM => ?_)
  clear ho
  refine lv_if_ne (tgt := 81) hx hb dX12_readMove_32 (by decide) (fun cc1 => ?_) (fun cc1 => ?_)
  · replace hf := m_ifF hf cc1
    exact w_readMove_81 X hret hself25 hf hM (lv_sub hl [0, 1, 2, 3] rfl)
  · replace hf := m_ifT hf cc1
    refine lv_aload_n hx hb dX12_readMove_35 rfl (lv_at hl 0 rfl) ?_
    obtain ⟨o3, ho, hf⟩ := m_clE hf
    refine m_callVi X hM (c_look ho) gX12_readMove_X12_look rfl ⟨rfl, rfl⟩ hd_look ⟨Nat.le_of_ble_eq_true rfl, Nat.le_of_ble_eq_true rfl⟩ rfl hl.1 rfl (Nat.le_of_ble_eq_true rfl) dX12_readMove_36 (fun H locs hM => ?_)
    clear ho
    obtain ⟨o4, ho, hf⟩ := m_clE hf
    refine m_callSi X hM (c_isDigit ho) gX12_readMove_X12_isDigit rfl ⟨rfl, rfl⟩ hd_isDigit ⟨Nat.le_of_ble_eq_true rfl, Nat.le_of_ble_eq_true rfl⟩ rfl hl.1 rfl (Nat.le_of_ble_eq_true rfl) dX12_readMove_39 (fun H locs hM => ?_)
    clear ho
    refine lv_if_ne (tgt := 81) hx hb dX12_readMove_42 (by decide) (fun cc1 => ?_) (fun cc1 => ?_)
    · replace hf := m_ifF hf cc1
      exact w_readMove_81 X hret hself25 hf hM (lv_sub hl [0, 1, 2, 3] rfl)
    · replace hf := m_ifT hf cc1
      refine lv_aload_n hx hb dX12_readMove_45 rfl (lv_at hl 0 rfl) ?_
      obtain ⟨o5, ho, hf⟩ := m_clE hf
      refine m_callVi X hM (c_look ho) gX12_readMove_X12_look rfl ⟨rfl, rfl⟩ hd_look ⟨Nat.le_of_ble_eq_true rfl, Nat.le_of_ble_eq_true rfl⟩ rfl hl.1 rfl (Nat.le_of_ble_eq_true rfl) dX12_readMove_46 (fun H locs hM => ?_)
      clear ho
      refine lv_bipush (v := (61 : Int32)) hx hb dX12_readMove_49 (by decide) ?_
      refine lv_icmp_eq (tgt := 81) hx hb dX12_readMove_51 (by decide) (fun cc1 => ?_) (fun cc1 => ?_)
      · replace hf := m_ifT hf cc1
        exact w_readMove_81 X hret hself25 hf hM (lv_sub hl [0, 1, 2, 3] rfl)
      · replace hf := m_ifF hf cc1
        refine lv_aload_n hx hb dX12_readMove_54 rfl (lv_at hl 0 rfl) ?_
        obtain ⟨o6, ho, hf⟩ := m_clE hf
        refine m_callVi X hM (c_look ho) gX12_readMove_X12_look rfl ⟨rfl, rfl⟩ hd_look ⟨Nat.le_of_ble_eq_true rfl, Nat.le_of_ble_eq_true rfl⟩ rfl hl.1 rfl (Nat.le_of_ble_eq_true rfl) dX12_readMove_55 (fun H locs hM => ?_)
        clear ho
        refine lv_bipush (v := (45 : Int32)) hx hb dX12_readMove_58 (by decide) ?_
        refine lv_icmp_eq (tgt := 81) hx hb dX12_readMove_60 (by decide) (fun cc1 => ?_) (fun cc1 => ?_)
        · replace hf := m_ifT hf cc1
          exact w_readMove_81 X hret hself25 hf hM (lv_sub hl [0, 1, 2, 3] rfl)
        · replace hf := m_ifF hf cc1
          refine lv_aload_n hx hb dX12_readMove_63 rfl (lv_at hl 0 rfl) ?_
          obtain ⟨o7, ho, hf⟩ := m_clE hf
          refine m_callVi X hM (c_look ho) gX12_readMove_X12_look rfl ⟨rfl, rfl⟩ hd_look ⟨Nat.le_of_ble_eq_true rfl, Nat.le_of_ble_eq_true rfl⟩ rfl hl.1 rfl (Nat.le_of_ble_eq_true rfl) dX12_readMove_64 (fun H locs hM => ?_)
          clear ho
          refine lv_bipush (v := (43 : Int32)) hx hb dX12_readMove_67 (by decide) ?_
          refine lv_icmp_eq (tgt := 81) hx hb dX12_readMove_69 (by decide) (fun cc1 => ?_) (fun cc1 => ?_)
          · replace hf := m_ifT hf cc1
            exact w_readMove_81 X hret hself25 hf hM (lv_sub hl [0, 1, 2, 3] rfl)
          · replace hf := m_ifF hf cc1
            refine lv_aload_n hx hb dX12_readMove_72 rfl (lv_at hl 0 rfl) ?_
            obtain ⟨o8, ho, hf⟩ := m_clE hf
            refine m_callVi X hM (c_look ho) gX12_readMove_X12_look rfl ⟨rfl, rfl⟩ hd_look ⟨Nat.le_of_ble_eq_true rfl, Nat.le_of_ble_eq_true rfl⟩ rfl hl.1 rfl (Nat.le_of_ble_eq_true rfl) dX12_readMove_73 (fun H locs hM => ?_)
            clear ho
            refine lv_bipush (v := (35 : Int32)) hx hb dX12_readMove_76 (by decide) ?_
            refine lv_icmp_ne (tgt := 94) hx hb dX12_readMove_78 (by decide) (fun cc1 => ?_) (fun cc1 => ?_)
            · replace hf := m_ifF hf cc1
              refine lv_aload_n hx hb dX12_readMove_94 rfl (lv_at hl 0 rfl) ?_
              refine lv_iload_n hx hb dX12_readMove_95 rfl (lv_at hl 3 rfl) ?_
              refine lv_aload_n hx hb dX12_readMove_96 rfl (lv_at hl 0 rfl) ?_
              refine m_get (v := .int (o8.2.1 37)) X hw_readMove hM 37 (by decide) fl_readMove_37 rfl dX12_readMove_97 ?_
              obtain ⟨o9, ho, hf⟩ := m_clE hf
              refine m_callVi X hM (c_understood ho) gX12_readMove_X12_understood rfl ⟨rfl, rfl⟩ hd_understood ⟨Nat.le_of_ble_eq_true rfl, Nat.le_of_ble_eq_true rfl⟩ rfl hl.1 rfl (Nat.le_of_ble_eq_true rfl) dX12_readMove_100 (fun H locs hM => ?_)
              clear ho
              refine lv_istore (lv' := [(4, .int o9.1), (0, .ref (h 0)), (1, .int x1), (2, .int x2), (3, .int x3)]) hx hb dX12_readMove_103 hl (by decide) rfl (fun ls hl => ?_)
              refine lv_iload hx hb dX12_readMove_105 (lv_at hl 0 rfl) ?_
              refine lv_if_ge (tgt := 128) hx hb dX12_readMove_107 (by decide) (fun cc1 => ?_) (fun cc1 => ?_)
              · replace hf := m_ifT hf cc1
                refine lv_aload_n hx hb dX12_readMove_128 rfl (lv_at hl 1 rfl) ?_
                refine lv_iload_n hx hb dX12_readMove_129 rfl (lv_at hl 2 rfl) ?_
                refine lv_iload_n hx hb dX12_readMove_130 rfl (lv_at hl 3 rfl) ?_
                refine lv_iload hx hb dX12_readMove_131 (lv_at hl 0 rfl) ?_
                obtain ⟨o10, ho, hf⟩ := m_clE hf
                refine m_callVi X hM (c_childWith ho) gX12_readMove_X12_childWith rfl ⟨rfl, rfl⟩ hd_childWith ⟨Nat.le_of_ble_eq_true rfl, Nat.le_of_ble_eq_true rfl⟩ rfl hl.1 rfl (Nat.le_of_ble_eq_true rfl) dX12_readMove_133 (fun H locs hM => ?_)
                clear ho
                refine lv_if_lt (tgt := 147) hx hb dX12_readMove_136 (by decide) (fun cc1 => ?_) (fun cc1 => ?_)
                · replace hf := m_ifT hf cc1
                  refine lv_aload_n hx hb dX12_readMove_147 rfl (lv_at hl 1 rfl) ?_
                  refine m_get (v := .ref (h 7)) X hw_readMove hM 7 (by decide) fl_readMove_7 rfl dX12_readMove_148 ?_
                  refine lv_iload_n hx hb dX12_readMove_151 rfl (lv_at hl 2 rfl) ?_
                  obtain ⟨cd, hf⟩ := m_chkE hf
                  refine m_iald X hM 7 3 2 rfl cd dX12_readMove_152 ?_
                  clear cd
                  obtain ⟨v11, ev, hf⟩ := m_bndE hf
                  refine m_top ev ?_
                  clear ev
                  refine lv_sipush (v := (300 : Int32)) hx hb dX12_readMove_153 (by decide) ?_
                  refine lv_icmp_ne (tgt := 167) hx hb dX12_readMove_156 (by decide) (fun cc1 => ?_) (fun cc1 => ?_)
                  · replace hf := m_ifF hf cc1
                    refine lv_aload_n hx hb dX12_readMove_167 rfl (lv_at hl 1 rfl) ?_
                    refine lv_iload_n hx hb dX12_readMove_168 rfl (lv_at hl 2 rfl) ?_
                    refine lv_iload_n hx hb dX12_readMove_169 rfl (lv_at hl 3 rfl) ?_
                    refine lv_iload hx hb dX12_readMove_170 (lv_at hl 0 rfl) ?_
                    obtain ⟨o12, ho, hf⟩ := m_clE hf
                    refine m_callVi X hM (c_append ho) gX12_readMove_X12_append rfl ⟨rfl, rfl⟩ hd_append ⟨Nat.le_of_ble_eq_true rfl, Nat.le_of_ble_eq_true rfl⟩ rfl hl.1 rfl (Nat.le_of_ble_eq_true rfl) dX12_readMove_172 (fun H locs hM => ?_)
                    clear ho
                    cases hf
                    exact hret H locs _ ls hM rfl dX12_readMove_175
                  · replace hf := m_ifT hf cc1
                    refine lv_bipush (v := (8 : Int32)) hx hb dX12_readMove_159 (by decide) ?_
                    refine lv_iload_n hx hb dX12_readMove_161 rfl (lv_at hl 4 rfl) ?_
                    obtain ⟨o13, ho, hf⟩ := m_clE hf
                    refine m_callSi X hM (c_fault ho) gX12_readMove_X12_fault rfl ⟨rfl, rfl⟩ hd_fault ⟨Nat.le_of_ble_eq_true rfl, Nat.le_of_ble_eq_true rfl⟩ rfl hl.1 rfl (Nat.le_of_ble_eq_true rfl) dX12_readMove_162 (fun H locs hM => ?_)
                    clear ho
                    refine lv_ineg hx hb dX12_readMove_165 ?_
                    obtain ⟨v14, ev, hf⟩ := m_bndE hf
                    refine m_top ev ?_
                    clear ev
                    cases hf
                    exact hret H locs _ ls hM rfl dX12_readMove_166
                · replace hf := m_ifF hf cc1
                  refine lv_bipush (v := (6 : Int32)) hx hb dX12_readMove_139 (by decide) ?_
                  refine lv_iload_n hx hb dX12_readMove_141 rfl (lv_at hl 4 rfl) ?_
                  obtain ⟨o15, ho, hf⟩ := m_clE hf
                  refine m_callSi X hM (c_fault ho) gX12_readMove_X12_fault rfl ⟨rfl, rfl⟩ hd_fault ⟨Nat.le_of_ble_eq_true rfl, Nat.le_of_ble_eq_true rfl⟩ rfl hl.1 rfl (Nat.le_of_ble_eq_true rfl) dX12_readMove_142 (fun H locs hM => ?_)
                  clear ho
                  refine lv_ineg hx hb dX12_readMove_145 ?_
                  obtain ⟨v16, ev, hf⟩ := m_bndE hf
                  refine m_top ev ?_
                  clear ev
                  cases hf
                  exact hret H locs _ ls hM rfl dX12_readMove_146
              · replace hf := m_ifF hf cc1
                refine lv_iload hx hb dX12_readMove_110 (lv_at hl 0 rfl) ?_
                refine lv_bipush (v := (-2 : Int32)) hx hb dX12_readMove_112 (by decide) ?_
                refine lv_icmp_ne (tgt := 121) hx hb dX12_readMove_114 (by decide) (fun cc1 => ?_) (fun cc1 => ?_)
                · replace hf := m_ifF hf cc1
                  refine lv_iconst (v := (4 : Int32)) hx hb dX12_readMove_121 (by decide) ?_
                  exact w_readMove_122 X hret hf hM (lv_sub hl [4] rfl)
                · replace hf := m_ifT hf cc1
                  refine lv_iconst (v := (5 : Int32)) hx hb dX12_readMove_117 (by decide) ?_
                  refine lv_goto (tgt := 122) hx hb dX12_readMove_118 (by decide) ?_
                  exact w_readMove_122 X hret hf hM (lv_sub hl [4] rfl)
            · replace hf := m_ifT hf cc1
              exact w_readMove_81 X hret hself25 hf hM (lv_sub hl [0, 1, 2, 3] rfl)
def f_readMove_25 : Nat → Int32 → Int32 → Int32 → (Nat → Int32) → (Nat → Nat → Int32) → Option (Int32 × MS)
  | 0 => fun _ _ _ _ _ => none
  | n + 1 => f_readMove_25s (f_readMove_25 n)
theorem w_readMove_25 {p : Program} {l : Launch} {e : Env} {s : State} {m : MethodId} {args : Array Value} {below : List Frame} {meth : Method} {c : Code} {Q : State → Prop} {D : va_G} {cy ci : ClassId} {h : Nat → Nat} {A0 : Nat → Prop} {o : Int32 × MS} (X : CallFix p m c cX12_readMove 5 s args wsX12_readMove RX12) (hret : mRi p l e ({ frames := 8, cells := 0, slots := 0, locals := 210 } : Room) s m args below meth c Q cX12_readMove D cy ci h A0 .int o) (n : Nat) : ∀ (x1 : Int32) (x2 : Int32) (x3 : Int32) (I : Nat → Int32) (A : Nat → Nat → Int32) (H : Heap) (locs : List Loc) (ls : Array Slot), f_readMove_25 n x1 x2 x3 I A = some o → mH D cy ci h A0 s H locs I A → lv_has ls 5 [(0, .ref (h 0)), (1, .int x1), (2, .int x2), (3, .int x3)] → W p l e ({ frames := 8, cells := 0, slots := 0, locals := 210 } : Room) s m args below meth c H locs 0 0 Q (F0 m 25 ls []) := by
  induction n with
  | zero => intro x1 x2 x3 I A H locs ls hf; cases hf
  | succ n ih => intro x1 x2 x3 I A H locs ls hf hM hl; exact ws_readMove_25 X hret (self25 := f_readMove_25 n) ih hf hM hl
def f_readMove_0 (x1 : Int32) (x2 : Int32) (I : Nat → Int32) (A : Nat → Nat → Int32) : Option (Int32 × MS) :=
  m_cl (f_look  I A) (fun r1 Ic1 Ac1 =>
  m_cl (f_isLetter r1 Ic1 Ac1) (fun r2 Ic2 Ac2 =>
  m_if (r2 = 0) (
  m_cl (f_fault (1 : Int32) (Ic2 37) Ic2 Ac2) (fun r3 Ic3 Ac3 =>
  m_bnd (-r3) (fun v4 =>
  some (v4, (Ic3, Ac3))))
  ) (
  f_readMove_25 mFuel x1 x2 (I 37) Ic2 Ac2
  )))

set_option maxRecDepth 100000 in
set_option maxHeartbeats 4000000 in
theorem w_readMove_0 {p : Program} {l : Launch} {e : Env} {s : State} {m : MethodId} {args : Array Value} {below : List Frame} {meth : Method} {c : Code} {Q : State → Prop} {D : va_G} {cy ci : ClassId} {h : Nat → Nat} {A0 : Nat → Prop} {o : Int32 × MS} (X : CallFix p m c cX12_readMove 5 s args wsX12_readMove RX12) (hret : mRi p l e ({ frames := 8, cells := 0, slots := 0, locals := 210 } : Room) s m args below meth c Q cX12_readMove D cy ci h A0 .int o) {x1 : Int32} {x2 : Int32} {I : Nat → Int32} {A : Nat → Nat → Int32} {H : Heap} {locs : List Loc} {ls : Array Slot} (hf : f_readMove_0 x1 x2 I A = some o) (hM : mH D cy ci h A0 s H locs I A) (hl : lv_has ls 5 [(0, .ref (h 0)), (1, .int x1), (2, .int x2)]) : W p l e ({ frames := 8, cells := 0, slots := 0, locals := 210 } : Room) s m args below meth c H locs 0 0 Q (F0 m 0 ls []) := by
  obtain ⟨hx, hb, hml, hown, hts⟩ := id X
  unfold f_readMove_0 at hf
  refine lv_aload_n hx hb dX12_readMove_0 rfl (lv_at hl 0 rfl) ?_
  refine m_get (v := .int (I 37)) X hw_readMove hM 37 (by decide) fl_readMove_37 rfl dX12_readMove_1 ?_
  refine lv_istore_n (lv' := [(3, .int (I 37)), (0, .ref (h 0)), (1, .int x1), (2, .int x2)]) hx hb dX12_readMove_4 rfl hl (by decide) rfl (fun ls hl => ?_)
  refine lv_aload_n hx hb dX12_readMove_5 rfl (lv_at hl 1 rfl) ?_
  obtain ⟨o1, ho, hf⟩ := m_clE hf
  refine m_callVi X hM (c_look ho) gX12_readMove_X12_look rfl ⟨rfl, rfl⟩ hd_look ⟨Nat.le_of_ble_eq_true rfl, Nat.le_of_ble_eq_true rfl⟩ rfl hl.1 rfl (Nat.le_of_ble_eq_true rfl) dX12_readMove_6 (fun H locs hM => ?_)
  clear ho
  obtain ⟨o2, ho, hf⟩ := m_clE hf
  refine m_callSi X hM (c_isLetter ho) gX12_readMove_X12_isLetter rfl ⟨rfl, rfl⟩ hd_isLetter ⟨Nat.le_of_ble_eq_true rfl, Nat.le_of_ble_eq_true rfl⟩ rfl hl.1 rfl (Nat.le_of_ble_eq_true rfl) dX12_readMove_9 (fun H locs hM => ?_)
  clear ho
  refine lv_if_ne (tgt := 25) hx hb dX12_readMove_12 (by decide) (fun cc1 => ?_) (fun cc1 => ?_)
  · replace hf := m_ifF hf cc1
    exact w_readMove_25 X hret _ _ _ _ _ _ _ _ _ hf hM (lv_sub hl [1, 2, 3, 0] rfl)
  · replace hf := m_ifT hf cc1
    refine lv_iconst (v := (1 : Int32)) hx hb dX12_readMove_15 (by decide) ?_
    refine lv_aload_n hx hb dX12_readMove_16 rfl (lv_at hl 1 rfl) ?_
    refine m_get (v := .int (o2.2.1 37)) X hw_readMove hM 37 (by decide) fl_readMove_37 rfl dX12_readMove_17 ?_
    obtain ⟨o3, ho, hf⟩ := m_clE hf
    refine m_callSi X hM (c_fault ho) gX12_readMove_X12_fault rfl ⟨rfl, rfl⟩ hd_fault ⟨Nat.le_of_ble_eq_true rfl, Nat.le_of_ble_eq_true rfl⟩ rfl hl.1 rfl (Nat.le_of_ble_eq_true rfl) dX12_readMove_20 (fun H locs hM => ?_)
    clear ho
    refine lv_ineg hx hb dX12_readMove_23 ?_
    obtain ⟨v4, ev, hf⟩ := m_bndE hf
    refine m_top ev ?_
    clear ev
    cases hf
    exact hret H locs _ ls hM rfl dX12_readMove_24
def f_readMove (x1 : Int32) (x2 : Int32) (I : Nat → Int32) (A : Nat → Nat → Int32) : Option (Int32 × MS) := f_readMove_0 x1 x2 I A
theorem c_readMove {l : Launch} {D : va_G} {cy ci : ClassId} {h : Nat → Nat} {x1 : Int32} {x2 : Int32} {I : Nat → Int32} {A : Nat → Nat → Int32} {o : Int32 × MS} (hf : f_readMove x1 x2 I A = some o) : mMi l yX12_readMove wsX12_readMove ({ frames := 8, cells := 0, slots := 0, locals := 210 } : Room) [.ref (h 0), .int x1, .int x2] D cy ci h I A o :=
  m_entryI (cc := cX12_readMove) (maxL := 5) (by decide) rfl rfl (Nat.le_of_ble_eq_true rfl) (fun p e s m args below meth c A0 Q H locs ls X hret hM hl => w_readMove_0 X hret hf hM (lv_sub hl [0, 1, 2] rfl))
theorem hw_readLine : ∀ w ∈ wsX120, w ∈ wsX12_readLine := by decide +kernel
theorem fl_readLine_37 : Cond.fieldLink RX12 267 "MoveTextsModel" "at" "I" ∈ wsX12_readLine := by decide +kernel
theorem hd_readLine : yX12_readLine.cls = RX12 ∧ yX12_readLine.cls ≠ "java/lang/invoke/MethodHandle" ∧ yX12_readLine.cls ≠ "java/lang/invoke/VarHandle" ∧ (parseMethodDescriptor yX12_readLine.desc).map (fun d => d.parameters.length) = some 3 := by decide +kernel
def f_readLine_224 (rec : Int32 → Int32 → Int32 → (Nat → Int32) → (Nat → Nat → Int32) → Option (Int32 × MS)) (self3 : Int32 → Int32 → Int32 → Int32 → (Nat → Int32) → (Nat → Nat → Int32) → Option (Int32 × MS)) (x1 : Int32) (x2 : Int32) (x3 : Int32) (x4 : Int32) (x5 : Int32) (I : Nat → Int32) (A : Nat → Nat → Int32) : Option (Int32 × MS) :=
  m_if (x5 ≤ 0) (
  self3 x1 x2 x3 x4 I A
  ) (
  some (x5, (I, A))
  )

set_option maxRecDepth 100000 in
set_option maxHeartbeats 4000000 in
theorem w_readLine_224 {p : Program} {l : Launch} {e : Env} {s : State} {m : MethodId} {args : Array Value} {below : List Frame} {meth : Method} {c : Code} {Q : State → Prop} {D : va_G} {cy ci : ClassId} {h : Nat → Nat} {A0 : Nat → Prop} {o : Int32 × MS} {R Rr : Room} (hR0 : 9 ≤ R.frames ∧ 234 ≤ R.locals) (hR1 : Rr.cells = 0 ∧ Rr.slots = 0) (hR2 : Rr.frames + 1 ≤ R.frames ∧ 8 + (8 + 11) + Rr.locals ≤ R.locals) {rec : Int32 → Int32 → Int32 → (Nat → Int32) → (Nat → Nat → Int32) → Option (Int32 × MS)} (hrec : ∀ (x1 : Int32) (x2 : Int32) (x3 : Int32) (I : Nat → Int32) (A : Nat → Nat → Int32) (o9 : Int32 × MS), rec x1 x2 x3 I A = some o9 → mMi l yX12_readLine wsX12_readLine Rr [.ref (h 0), .int x1, .int x2, .int x3] D cy ci h I A o9) (X : CallFix p m c cX12_readLine 8 s args wsX12_readLine RX12) (hret : mRi p l e R s m args below meth c Q cX12_readLine D cy ci h A0 .int o) {self3 : Int32 → Int32 → Int32 → Int32 → (Nat → Int32) → (Nat → Nat → Int32) → Option (Int32 × MS)} (hself3 : ∀ (x1 : Int32) (x2 : Int32) (x3 : Int32) (x4 : Int32) (I : Nat → Int32) (A : Nat → Nat → Int32) (H : Heap) (locs : List Loc) (ls : Array Slot), self3 x1 x2 x3 x4 I A = some o → mH D cy ci h A0 s H locs I A → lv_has ls 8 [(0, .ref (h 0)), (1, .int x1), (2, .int x2), (3, .int x3), (4, .int x4)] → W p l e R s m args below meth c H locs 0 0 Q (F0 m 3 ls [])) {x1 : Int32} {x2 : Int32} {x3 : Int32} {x4 : Int32} {x5 : Int32} {I : Nat → Int32} {A : Nat → Nat → Int32} {H : Heap} {locs : List Loc} {ls : Array Slot} (hf : f_readLine_224 rec self3 x1 x2 x3 x4 x5 I A = some o) (hM : mH D cy ci h A0 s H locs I A) (hl : lv_has ls 8 [(0, .ref (h 0)), (1, .int x1), (2, .int x2), (3, .int x3), (4, .int x4), (5, .int x5)]) : W p l e R s m args below meth c H locs 0 0 Q (F0 m 224 ls []) := by
  obtain ⟨hx, hb, hml, hown, hts⟩ := id X
  unfold f_readLine_224 at hf
  refine lv_iload hx hb dX12_readLine_224 (lv_at hl 5 rfl) ?_
  refine lv_if_le (tgt := 232) hx hb dX12_readLine_226 (by decide) (fun cc1 => ?_) (fun cc1 => ?_)
  · replace hf := m_ifT hf cc1
    refine lv_goto (tgt := 3) hx hb dX12_readLine_232 (by decide) ?_
    exact hself3 _ _ _ _ _ _ _ _ _ hf hM (lv_sub hl [0, 1, 2, 3, 4] rfl)
  · replace hf := m_ifF hf cc1
    refine lv_iload hx hb dX12_readLine_229 (lv_at hl 5 rfl) ?_
    cases hf
    exact hret H locs _ ls hM rfl dX12_readLine_231
def f_readLine_219 (rec : Int32 → Int32 → Int32 → (Nat → Int32) → (Nat → Nat → Int32) → Option (Int32 × MS)) (self3 : Int32 → Int32 → Int32 → Int32 → (Nat → Int32) → (Nat → Nat → Int32) → Option (Int32 × MS)) (self113 : Int32 → Int32 → Int32 → Int32 → Int32 → Int32 → (Nat → Int32) → (Nat → Nat → Int32) → Option (Int32 × MS)) (x1 : Int32) (x2 : Int32) (x3 : Int32) (x4 : Int32) (x7 : Int32) (t0 : Int32) (I : Nat → Int32) (A : Nat → Nat → Int32) : Option (Int32 × MS) :=
  self113 x1 x2 x3 x4 t0 x7 I A

set_option maxRecDepth 100000 in
set_option maxHeartbeats 4000000 in
theorem w_readLine_219 {p : Program} {l : Launch} {e : Env} {s : State} {m : MethodId} {args : Array Value} {below : List Frame} {meth : Method} {c : Code} {Q : State → Prop} {D : va_G} {cy ci : ClassId} {h : Nat → Nat} {A0 : Nat → Prop} {o : Int32 × MS} {R Rr : Room} (hR0 : 9 ≤ R.frames ∧ 234 ≤ R.locals) (hR1 : Rr.cells = 0 ∧ Rr.slots = 0) (hR2 : Rr.frames + 1 ≤ R.frames ∧ 8 + (8 + 11) + Rr.locals ≤ R.locals) {rec : Int32 → Int32 → Int32 → (Nat → Int32) → (Nat → Nat → Int32) → Option (Int32 × MS)} (hrec : ∀ (x1 : Int32) (x2 : Int32) (x3 : Int32) (I : Nat → Int32) (A : Nat → Nat → Int32) (o9 : Int32 × MS), rec x1 x2 x3 I A = some o9 → mMi l yX12_readLine wsX12_readLine Rr [.ref (h 0), .int x1, .int x2, .int x3] D cy ci h I A o9) (X : CallFix p m c cX12_readLine 8 s args wsX12_readLine RX12) (hret : mRi p l e R s m args below meth c Q cX12_readLine D cy ci h A0 .int o) {self3 : Int32 → Int32 → Int32 → Int32 → (Nat → Int32) → (Nat → Nat → Int32) → Option (Int32 × MS)} (hself3 : ∀ (x1 : Int32) (x2 : Int32) (x3 : Int32) (x4 : Int32) (I : Nat → Int32) (A : Nat → Nat → Int32) (H : Heap) (locs : List Loc) (ls : Array Slot), self3 x1 x2 x3 x4 I A = some o → mH D cy ci h A0 s H locs I A → lv_has ls 8 [(0, .ref (h 0)), (1, .int x1), (2, .int x2), (3, .int x3), (4, .int x4)] → W p l e R s m args below meth c H locs 0 0 Q (F0 m 3 ls [])) {self113 : Int32 → Int32 → Int32 → Int32 → Int32 → Int32 → (Nat → Int32) → (Nat → Nat → Int32) → Option (Int32 × MS)} (hself113 : ∀ (x1 : Int32) (x2 : Int32) (x3 : Int32) (x4 : Int32) (x5 : Int32) (x7 : Int32) (I : Nat → Int32) (A : Nat → Nat → Int32) (H : Heap) (locs : List Loc) (ls : Array Slot), self113 x1 x2 x3 x4 x5 x7 I A = some o → mH D cy ci h A0 s H locs I A → lv_has ls 8 [(0, .ref (h 0)), (1, .int x1), (2, .int x2), (3, .int x3), (4, .int x4), (5, .int x5), (7, .int x7)] → W p l e R s m args below meth c H locs 0 0 Q (F0 m 113 ls [])) {x1 : Int32} {x2 : Int32} {x3 : Int32} {x4 : Int32} {x7 : Int32} {t0 : Int32} {I : Nat → Int32} {A : Nat → Nat → Int32} {H : Heap} {locs : List Loc} {ls : Array Slot} (hf : f_readLine_219 rec self3 self113 x1 x2 x3 x4 x7 t0 I A = some o) (hM : mH D cy ci h A0 s H locs I A) (hl : lv_has ls 8 [(0, .ref (h 0)), (1, .int x1), (2, .int x2), (3, .int x3), (4, .int x4), (7, .int x7)]) : W p l e R s m args below meth c H locs 0 0 Q (F0 m 219 ls [.int t0]) := by
  obtain ⟨hx, hb, hml, hown, hts⟩ := id X
  unfold f_readLine_219 at hf
  refine lv_istore (lv' := [(5, .int t0), (0, .ref (h 0)), (1, .int x1), (2, .int x2), (3, .int x3), (4, .int x4), (7, .int x7)]) hx hb dX12_readLine_219 hl (by decide) rfl (fun ls hl => ?_)
  refine lv_goto (tgt := 113) hx hb dX12_readLine_221 (by decide) ?_
  exact hself113 _ _ _ _ _ _ _ _ _ _ _ hf hM (lv_sub hl [1, 2, 3, 4, 5, 0, 6] rfl)
def f_readLine_199 (rec : Int32 → Int32 → Int32 → (Nat → Int32) → (Nat → Nat → Int32) → Option (Int32 × MS)) (self3 : Int32 → Int32 → Int32 → Int32 → (Nat → Int32) → (Nat → Nat → Int32) → Option (Int32 × MS)) (self113 : Int32 → Int32 → Int32 → Int32 → Int32 → Int32 → (Nat → Int32) → (Nat → Nat → Int32) → Option (Int32 × MS)) (x1 : Int32) (x2 : Int32) (x3 : Int32) (x4 : Int32) (x5 : Int32) (x7 : Int32) (t0 : Int32) (I : Nat → Int32) (A : Nat → Nat → Int32) : Option (Int32 × MS) :=
  m_bnd (upd I 37 t0) (fun I1 =>
  m_if (x5 ≤ 0) (
  m_cl (f_readRemarks x1 x4 I1 A) (fun r2 Ic2 Ac2 =>
  f_readLine_219 rec self3 self113 x1 x2 x3 x4 x7 r2 Ic2 Ac2)
  ) (
  f_readLine_219 rec self3 self113 x1 x2 x3 x4 x7 x5 I1 A
  ))

set_option maxRecDepth 100000 in
set_option maxHeartbeats 4000000 in
theorem w_readLine_199 {p : Program} {l : Launch} {e : Env} {s : State} {m : MethodId} {args : Array Value} {below : List Frame} {meth : Method} {c : Code} {Q : State → Prop} {D : va_G} {cy ci : ClassId} {h : Nat → Nat} {A0 : Nat → Prop} {o : Int32 × MS} {R Rr : Room} (hR0 : 9 ≤ R.frames ∧ 234 ≤ R.locals) (hR1 : Rr.cells = 0 ∧ Rr.slots = 0) (hR2 : Rr.frames + 1 ≤ R.frames ∧ 8 + (8 + 11) + Rr.locals ≤ R.locals) {rec : Int32 → Int32 → Int32 → (Nat → Int32) → (Nat → Nat → Int32) → Option (Int32 × MS)} (hrec : ∀ (x1 : Int32) (x2 : Int32) (x3 : Int32) (I : Nat → Int32) (A : Nat → Nat → Int32) (o9 : Int32 × MS), rec x1 x2 x3 I A = some o9 → mMi l yX12_readLine wsX12_readLine Rr [.ref (h 0), .int x1, .int x2, .int x3] D cy ci h I A o9) (X : CallFix p m c cX12_readLine 8 s args wsX12_readLine RX12) (hret : mRi p l e R s m args below meth c Q cX12_readLine D cy ci h A0 .int o) {self3 : Int32 → Int32 → Int32 → Int32 → (Nat → Int32) → (Nat → Nat → Int32) → Option (Int32 × MS)} (hself3 : ∀ (x1 : Int32) (x2 : Int32) (x3 : Int32) (x4 : Int32) (I : Nat → Int32) (A : Nat → Nat → Int32) (H : Heap) (locs : List Loc) (ls : Array Slot), self3 x1 x2 x3 x4 I A = some o → mH D cy ci h A0 s H locs I A → lv_has ls 8 [(0, .ref (h 0)), (1, .int x1), (2, .int x2), (3, .int x3), (4, .int x4)] → W p l e R s m args below meth c H locs 0 0 Q (F0 m 3 ls [])) {self113 : Int32 → Int32 → Int32 → Int32 → Int32 → Int32 → (Nat → Int32) → (Nat → Nat → Int32) → Option (Int32 × MS)} (hself113 : ∀ (x1 : Int32) (x2 : Int32) (x3 : Int32) (x4 : Int32) (x5 : Int32) (x7 : Int32) (I : Nat → Int32) (A : Nat → Nat → Int32) (H : Heap) (locs : List Loc) (ls : Array Slot), self113 x1 x2 x3 x4 x5 x7 I A = some o → mH D cy ci h A0 s H locs I A → lv_has ls 8 [(0, .ref (h 0)), (1, .int x1), (2, .int x2), (3, .int x3), (4, .int x4), (5, .int x5), (7, .int x7)] → W p l e R s m args below meth c H locs 0 0 Q (F0 m 113 ls [])) {x1 : Int32} {x2 : Int32} {x3 : Int32} {x4 : Int32} {x5 : Int32} {x7 : Int32} {t0 : Int32} {I : Nat → Int32} {A : Nat → Nat → Int32} {H : Heap} {locs : List Loc} {ls : Array Slot} (hf : f_readLine_199 rec self3 self113 x1 x2 x3 x4 x5 x7 t0 I A = some o) (hM : mH D cy ci h A0 s H locs I A) (hl : lv_has ls 8 [(0, .ref (h 0)), (1, .int x1), (2, .int x2), (3, .int x3), (4, .int x4), (5, .int x5), (7, .int x7)]) : W p l e R s m args below meth c H locs 0 0 Q (F0 m 199 ls [.int t0, .ref (h 0)]) := by
  obtain ⟨hx, hb, hml, hown, hts⟩ := id X
  unfold f_readLine_199 at hf
  refine m_put X hw_readLine hM 37 (by decide) fl_readLine_37 mi_37 rfl (tyX12_ok 37 (by decide)) dX12_readLine_199 (fun H locs hM => ?_)
  obtain ⟨I1, ev, hf⟩ := m_bndE hf
  replace hM := m_hI hM ev
  clear ev
  refine lv_iload hx hb dX12_readLine_202 (lv_at hl 5 rfl) ?_
  refine lv_if_le (tgt := 212) hx hb dX12_readLine_204 (by decide) (fun cc1 => ?_) (fun cc1 => ?_)
  · replace hf := m_ifT hf cc1
    refine lv_aload_n hx hb dX12_readLine_212 rfl (lv_at hl 0 rfl) ?_
    refine lv_iload_n hx hb dX12_readLine_213 rfl (lv_at hl 1 rfl) ?_
    refine lv_iload hx hb dX12_readLine_214 (lv_at hl 4 rfl) ?_
    obtain ⟨o2, ho, hf⟩ := m_clE hf
    refine m_callVi X hM (c_readRemarks ho) gX12_readLine_X12_readRemarks rfl ⟨rfl, rfl⟩ hd_readRemarks ⟨Nat.le_trans (Nat.le_of_ble_eq_true rfl) hR0.1, Nat.le_trans (Nat.le_of_ble_eq_true rfl) hR0.2⟩ rfl hl.1 rfl (Nat.le_of_ble_eq_true rfl) dX12_readLine_216 (fun H locs hM => ?_)
    clear ho
    exact w_readLine_219 hR0 hR1 hR2 hrec X hret hself3 hself113 hf hM (lv_sub hl [0, 1, 2, 3, 4, 6] rfl)
  · replace hf := m_ifF hf cc1
    refine lv_iload hx hb dX12_readLine_207 (lv_at hl 5 rfl) ?_
    refine lv_goto (tgt := 219) hx hb dX12_readLine_209 (by decide) ?_
    exact w_readLine_219 hR0 hR1 hR2 hrec X hret hself3 hself113 hf hM (lv_sub hl [0, 1, 2, 3, 4, 6] rfl)
def f_readLine_178 (rec : Int32 → Int32 → Int32 → (Nat → Int32) → (Nat → Nat → Int32) → Option (Int32 × MS)) (self3 : Int32 → Int32 → Int32 → Int32 → (Nat → Int32) → (Nat → Nat → Int32) → Option (Int32 × MS)) (self113 : Int32 → Int32 → Int32 → Int32 → Int32 → Int32 → (Nat → Int32) → (Nat → Nat → Int32) → Option (Int32 × MS)) (x1 : Int32) (x2 : Int32) (x3 : Int32) (x4 : Int32) (x7 : Int32) (t0 : Int32) (I : Nat → Int32) (A : Nat → Nat → Int32) : Option (Int32 × MS) :=
  m_if (t0 ≤ 0) (
  m_bnd ((I 37) + (1 : Int32)) (fun v1 =>
  f_readLine_199 rec self3 self113 x1 x2 x3 x4 t0 x7 v1 I A)
  ) (
  f_readLine_199 rec self3 self113 x1 x2 x3 x4 t0 x7 (I 37) I A
  )

set_option maxRecDepth 100000 in
set_option maxHeartbeats 4000000 in
theorem w_readLine_178 {p : Program} {l : Launch} {e : Env} {s : State} {m : MethodId} {args : Array Value} {below : List Frame} {meth : Method} {c : Code} {Q : State → Prop} {D : va_G} {cy ci : ClassId} {h : Nat → Nat} {A0 : Nat → Prop} {o : Int32 × MS} {R Rr : Room} (hR0 : 9 ≤ R.frames ∧ 234 ≤ R.locals) (hR1 : Rr.cells = 0 ∧ Rr.slots = 0) (hR2 : Rr.frames + 1 ≤ R.frames ∧ 8 + (8 + 11) + Rr.locals ≤ R.locals) {rec : Int32 → Int32 → Int32 → (Nat → Int32) → (Nat → Nat → Int32) → Option (Int32 × MS)} (hrec : ∀ (x1 : Int32) (x2 : Int32) (x3 : Int32) (I : Nat → Int32) (A : Nat → Nat → Int32) (o9 : Int32 × MS), rec x1 x2 x3 I A = some o9 → mMi l yX12_readLine wsX12_readLine Rr [.ref (h 0), .int x1, .int x2, .int x3] D cy ci h I A o9) (X : CallFix p m c cX12_readLine 8 s args wsX12_readLine RX12) (hret : mRi p l e R s m args below meth c Q cX12_readLine D cy ci h A0 .int o) {self3 : Int32 → Int32 → Int32 → Int32 → (Nat → Int32) → (Nat → Nat → Int32) → Option (Int32 × MS)} (hself3 : ∀ (x1 : Int32) (x2 : Int32) (x3 : Int32) (x4 : Int32) (I : Nat → Int32) (A : Nat → Nat → Int32) (H : Heap) (locs : List Loc) (ls : Array Slot), self3 x1 x2 x3 x4 I A = some o → mH D cy ci h A0 s H locs I A → lv_has ls 8 [(0, .ref (h 0)), (1, .int x1), (2, .int x2), (3, .int x3), (4, .int x4)] → W p l e R s m args below meth c H locs 0 0 Q (F0 m 3 ls [])) {self113 : Int32 → Int32 → Int32 → Int32 → Int32 → Int32 → (Nat → Int32) → (Nat → Nat → Int32) → Option (Int32 × MS)} (hself113 : ∀ (x1 : Int32) (x2 : Int32) (x3 : Int32) (x4 : Int32) (x5 : Int32) (x7 : Int32) (I : Nat → Int32) (A : Nat → Nat → Int32) (H : Heap) (locs : List Loc) (ls : Array Slot), self113 x1 x2 x3 x4 x5 x7 I A = some o → mH D cy ci h A0 s H locs I A → lv_has ls 8 [(0, .ref (h 0)), (1, .int x1), (2, .int x2), (3, .int x3), (4, .int x4), (5, .int x5), (7, .int x7)] → W p l e R s m args below meth c H locs 0 0 Q (F0 m 113 ls [])) {x1 : Int32} {x2 : Int32} {x3 : Int32} {x4 : Int32} {x7 : Int32} {t0 : Int32} {I : Nat → Int32} {A : Nat → Nat → Int32} {H : Heap} {locs : List Loc} {ls : Array Slot} (hf : f_readLine_178 rec self3 self113 x1 x2 x3 x4 x7 t0 I A = some o) (hM : mH D cy ci h A0 s H locs I A) (hl : lv_has ls 8 [(0, .ref (h 0)), (1, .int x1), (2, .int x2), (3, .int x3), (4, .int x4), (7, .int x7)]) : W p l e R s m args below meth c H locs 0 0 Q (F0 m 178 ls [.int t0]) := by
  obtain ⟨hx, hb, hml, hown, hts⟩ := id X
  unfold f_readLine_178 at hf
  refine lv_istore (lv' := [(5, .int t0), (0, .ref (h 0)), (1, .int x1), (2, .int x2), (3, .int x3), (4, .int x4), (7, .int x7)]) hx hb dX12_readLine_178 hl (by decide) rfl (fun ls hl => ?_)
  refine lv_aload_n hx hb dX12_readLine_180 rfl (lv_at hl 1 rfl) ?_
  refine lv_iload hx hb dX12_readLine_181 (lv_at hl 0 rfl) ?_
  refine lv_if_le (tgt := 193) hx hb dX12_readLine_183 (by decide) (fun cc1 => ?_) (fun cc1 => ?_)
  · replace hf := m_ifT hf cc1
    refine lv_aload_n hx hb dX12_readLine_193 rfl (lv_at hl 1 rfl) ?_
    refine m_get (v := .int (I 37)) X hw_readLine hM 37 (by decide) fl_readLine_37 rfl dX12_readLine_194 ?_
    refine lv_iconst (v := (1 : Int32)) hx hb dX12_readLine_197 (by decide) ?_
    refine lv_iadd hx hb dX12_readLine_198 ?_
    obtain ⟨v1, ev, hf⟩ := m_bndE hf
    refine m_top ev ?_
    clear ev
    exact w_readLine_199 hR0 hR1 hR2 hrec X hret hself3 hself113 hf hM (lv_sub hl [1, 2, 3, 4, 5, 0, 6] rfl)
  · replace hf := m_ifF hf cc1
    refine lv_aload_n hx hb dX12_readLine_186 rfl (lv_at hl 1 rfl) ?_
    refine m_get (v := .int (I 37)) X hw_readLine hM 37 (by decide) fl_readLine_37 rfl dX12_readLine_187 ?_
    refine lv_goto (tgt := 199) hx hb dX12_readLine_190 (by decide) ?_
    exact w_readLine_199 hR0 hR1 hR2 hrec X hret hself3 hself113 hf hM (lv_sub hl [1, 2, 3, 4, 5, 0, 6] rfl)
def f_readLine_146 (rec : Int32 → Int32 → Int32 → (Nat → Int32) → (Nat → Nat → Int32) → Option (Int32 × MS)) (self3 : Int32 → Int32 → Int32 → Int32 → (Nat → Int32) → (Nat → Nat → Int32) → Option (Int32 × MS)) (self113 : Int32 → Int32 → Int32 → Int32 → Int32 → Int32 → (Nat → Int32) → (Nat → Nat → Int32) → Option (Int32 × MS)) (x1 : Int32) (x2 : Int32) (x3 : Int32) (x4 : Int32) (x7 : Int32) (t0 : Int32) (I : Nat → Int32) (A : Nat → Nat → Int32) : Option (Int32 × MS) :=
  m_bnd ((I 37) + (1 : Int32)) (fun v1 =>
  m_bnd (upd I 37 v1) (fun I2 =>
  m_if (t0 ≤ 0) (
  m_bnd (x3 + (1 : Int32)) (fun v3 =>
  m_cl (rec x1 x7 v3 I2 A) (fun r4 Ic4 Ac4 =>
  f_readLine_178 rec self3 self113 x1 x2 x3 x4 x7 r4 Ic4 Ac4))
  ) (
  f_readLine_178 rec self3 self113 x1 x2 x3 x4 x7 t0 I2 A
  )))

set_option maxRecDepth 100000 in
set_option maxHeartbeats 4000000 in
theorem w_readLine_146 {p : Program} {l : Launch} {e : Env} {s : State} {m : MethodId} {args : Array Value} {below : List Frame} {meth : Method} {c : Code} {Q : State → Prop} {D : va_G} {cy ci : ClassId} {h : Nat → Nat} {A0 : Nat → Prop} {o : Int32 × MS} {R Rr : Room} (hR0 : 9 ≤ R.frames ∧ 234 ≤ R.locals) (hR1 : Rr.cells = 0 ∧ Rr.slots = 0) (hR2 : Rr.frames + 1 ≤ R.frames ∧ 8 + (8 + 11) + Rr.locals ≤ R.locals) {rec : Int32 → Int32 → Int32 → (Nat → Int32) → (Nat → Nat → Int32) → Option (Int32 × MS)} (hrec : ∀ (x1 : Int32) (x2 : Int32) (x3 : Int32) (I : Nat → Int32) (A : Nat → Nat → Int32) (o9 : Int32 × MS), rec x1 x2 x3 I A = some o9 → mMi l yX12_readLine wsX12_readLine Rr [.ref (h 0), .int x1, .int x2, .int x3] D cy ci h I A o9) (X : CallFix p m c cX12_readLine 8 s args wsX12_readLine RX12) (hret : mRi p l e R s m args below meth c Q cX12_readLine D cy ci h A0 .int o) {self3 : Int32 → Int32 → Int32 → Int32 → (Nat → Int32) → (Nat → Nat → Int32) → Option (Int32 × MS)} (hself3 : ∀ (x1 : Int32) (x2 : Int32) (x3 : Int32) (x4 : Int32) (I : Nat → Int32) (A : Nat → Nat → Int32) (H : Heap) (locs : List Loc) (ls : Array Slot), self3 x1 x2 x3 x4 I A = some o → mH D cy ci h A0 s H locs I A → lv_has ls 8 [(0, .ref (h 0)), (1, .int x1), (2, .int x2), (3, .int x3), (4, .int x4)] → W p l e R s m args below meth c H locs 0 0 Q (F0 m 3 ls [])) {self113 : Int32 → Int32 → Int32 → Int32 → Int32 → Int32 → (Nat → Int32) → (Nat → Nat → Int32) → Option (Int32 × MS)} (hself113 : ∀ (x1 : Int32) (x2 : Int32) (x3 : Int32) (x4 : Int32) (x5 : Int32) (x7 : Int32) (I : Nat → Int32) (A : Nat → Nat → Int32) (H : Heap) (locs : List Loc) (ls : Array Slot), self113 x1 x2 x3 x4 x5 x7 I A = some o → mH D cy ci h A0 s H locs I A → lv_has ls 8 [(0, .ref (h 0)), (1, .int x1), (2, .int x2), (3, .int x3), (4, .int x4), (5, .int x5), (7, .int x7)] → W p l e R s m args below meth c H locs 0 0 Q (F0 m 113 ls [])) {x1 : Int32} {x2 : Int32} {x3 : Int32} {x4 : Int32} {x7 : Int32} {t0 : Int32} {I : Nat → Int32} {A : Nat → Nat → Int32} {H : Heap} {locs : List Loc} {ls : Array Slot} (hf : f_readLine_146 rec self3 self113 x1 x2 x3 x4 x7 t0 I A = some o) (hM : mH D cy ci h A0 s H locs I A) (hl : lv_has ls 8 [(0, .ref (h 0)), (1, .int x1), (2, .int x2), (3, .int x3), (4, .int x4), (7, .int x7)]) : W p l e R s m args below meth c H locs 0 0 Q (F0 m 146 ls [.int t0]) := by
  obtain ⟨hx, hb, hml, hown, hts⟩ := id X
  unfold f_readLine_146 at hf
  refine lv_istore (lv' := [(5, .int t0), (0, .ref (h 0)), (1, .int x1), (2, .int x2), (3, .int x3), (4, .int x4), (7, .int x7)]) hx hb dX12_readLine_146 hl (by decide) rfl (fun ls hl => ?_)
  refine lv_aload_n hx hb dX12_readLine_148 rfl (lv_at hl 1 rfl) ?_
  refine lv_dup hx hb dX12_readLine_149 rfl ?_
  refine m_get (v := .int (I 37)) X hw_readLine hM 37 (by decide) fl_readLine_37 rfl dX12_readLine_150 ?_
  refine lv_iconst (v := (1 : Int32)) hx hb dX12_readLine_153 (by decide) ?_
  refine lv_iadd hx hb dX12_readLine_154 ?_
  obtain ⟨v1, ev, hf⟩ := m_bndE hf
  refine m_top ev ?_
  clear ev
  refine m_put X hw_readLine hM 37 (by decide) fl_readLine_37 mi_37 rfl (tyX12_ok 37 (by decide)) dX12_readLine_155 (fun H locs hM => ?_)
  obtain ⟨I2, ev, hf⟩ := m_bndE hf
  replace hM := m_hI hM ev
  clear ev
  refine lv_iload hx hb dX12_readLine_158 (lv_at hl 0 rfl) ?_
  refine lv_if_le (tgt := 168) hx hb dX12_readLine_160 (by decide) (fun cc1 => ?_) (fun cc1 => ?_)
  · replace hf := m_ifT hf cc1
    refine lv_aload_n hx hb dX12_readLine_168 rfl (lv_at hl 1 rfl) ?_
    refine lv_iload_n hx hb dX12_readLine_169 rfl (lv_at hl 2 rfl) ?_
    refine lv_iload hx hb dX12_readLine_170 (lv_at hl 6 rfl) ?_
    refine lv_iload_n hx hb dX12_readLine_172 rfl (lv_at hl 4 rfl) ?_
    refine lv_iconst (v := (1 : Int32)) hx hb dX12_readLine_173 (by decide) ?_
    refine lv_iadd hx hb dX12_readLine_174 ?_
    obtain ⟨v3, ev, hf⟩ := m_bndE hf
    refine m_top ev ?_
    clear ev
    obtain ⟨o4, ho, hf⟩ := m_clE hf
    refine m_callVi X hM (hrec _ _ _ _ _ _ ho) gX12_readLine_X12_readLine rfl hR1 hd_readLine hR2 rfl hl.1 rfl (Nat.le_of_ble_eq_true rfl) dX12_readLine_175 (fun H locs hM => ?_)
    clear ho
    exact w_readLine_178 hR0 hR1 hR2 hrec X hret hself3 hself113 hf hM (lv_sub hl [1, 2, 3, 4, 5, 6] rfl)
  · replace hf := m_ifF hf cc1
    refine lv_iload hx hb dX12_readLine_163 (lv_at hl 0 rfl) ?_
    refine lv_goto (tgt := 178) hx hb dX12_readLine_165 (by decide) ?_
    exact w_readLine_178 hR0 hR1 hR2 hrec X hret hself3 hself113 hf hM (lv_sub hl [1, 2, 3, 4, 5, 6] rfl)
def f_readLine_113s (rec : Int32 → Int32 → Int32 → (Nat → Int32) → (Nat → Nat → Int32) → Option (Int32 × MS)) (self3 : Int32 → Int32 → Int32 → Int32 → (Nat → Int32) → (Nat → Nat → Int32) → Option (Int32 × MS)) (self113 : Int32 → Int32 → Int32 → Int32 → Int32 → Int32 → (Nat → Int32) → (Nat → Nat → Int32) → Option (Int32 × MS)) (x1 : Int32) (x2 : Int32) (x3 : Int32) (x4 : Int32) (x5 : Int32) (x7 : Int32) (I : Nat → Int32) (A : Nat → Nat → Int32) : Option (Int32 × MS) :=
  m_if (x5 = 0) (
  m_cl (f_look  I A) (fun r1 Ic1 Ac1 =>
  m_if (r1 = (40 : Int32)) (
  m_if (x3 = (6 : Int32)) (
  m_cl (f_fault (8 : Int32) (Ic1 37) Ic1 Ac1) (fun r2 Ic2 Ac2 =>
  f_readLine_146 rec self3 self113 x1 x2 x3 x4 x7 r2 Ic2 Ac2)
  ) (
  f_readLine_146 rec self3 self113 x1 x2 x3 x4 x7 (0 : Int32) Ic1 Ac1
  )
  ) (
  f_readLine_224 rec self3 x1 x2 x3 x4 x5 Ic1 Ac1
  ))
  ) (
  f_readLine_224 rec self3 x1 x2 x3 x4 x5 I A
  )

set_option maxRecDepth 100000 in
set_option maxHeartbeats 4000000 in
theorem ws_readLine_113 {p : Program} {l : Launch} {e : Env} {s : State} {m : MethodId} {args : Array Value} {below : List Frame} {meth : Method} {c : Code} {Q : State → Prop} {D : va_G} {cy ci : ClassId} {h : Nat → Nat} {A0 : Nat → Prop} {o : Int32 × MS} {R Rr : Room} (hR0 : 9 ≤ R.frames ∧ 234 ≤ R.locals) (hR1 : Rr.cells = 0 ∧ Rr.slots = 0) (hR2 : Rr.frames + 1 ≤ R.frames ∧ 8 + (8 + 11) + Rr.locals ≤ R.locals) {rec : Int32 → Int32 → Int32 → (Nat → Int32) → (Nat → Nat → Int32) → Option (Int32 × MS)} (hrec : ∀ (x1 : Int32) (x2 : Int32) (x3 : Int32) (I : Nat → Int32) (A : Nat → Nat → Int32) (o9 : Int32 × MS), rec x1 x2 x3 I A = some o9 → mMi l yX12_readLine wsX12_readLine Rr [.ref (h 0), .int x1, .int x2, .int x3] D cy ci h I A o9) (X : CallFix p m c cX12_readLine 8 s args wsX12_readLine RX12) (hret : mRi p l e R s m args below meth c Q cX12_readLine D cy ci h A0 .int o) {self3 : Int32 → Int32 → Int32 → Int32 → (Nat → Int32) → (Nat → Nat → Int32) → Option (Int32 × MS)} (hself3 : ∀ (x1 : Int32) (x2 : Int32) (x3 : Int32) (x4 : Int32) (I : Nat → Int32) (A : Nat → Nat → Int32) (H : Heap) (locs : List Loc) (ls : Array Slot), self3 x1 x2 x3 x4 I A = some o → mH D cy ci h A0 s H locs I A → lv_has ls 8 [(0, .ref (h 0)), (1, .int x1), (2, .int x2), (3, .int x3), (4, .int x4)] → W p l e R s m args below meth c H locs 0 0 Q (F0 m 3 ls [])) {self113 : Int32 → Int32 → Int32 → Int32 → Int32 → Int32 → (Nat → Int32) → (Nat → Nat → Int32) → Option (Int32 × MS)} (hself113 : ∀ (x1 : Int32) (x2 : Int32) (x3 : Int32) (x4 : Int32) (x5 : Int32) (x7 : Int32) (I : Nat → Int32) (A : Nat → Nat → Int32) (H : Heap) (locs : List Loc) (ls : Array Slot), self113 x1 x2 x3 x4 x5 x7 I A = some o → mH D cy ci h A0 s H locs I A → lv_has ls 8 [(0, .ref (h 0)), (1, .int x1), (2, .int x2), (3, .int x3), (4, .int x4), (5, .int x5), (7, .int x7)] → W p l e R s m args below meth c H locs 0 0 Q (F0 m 113 ls [])) {x1 : Int32} {x2 : Int32} {x3 : Int32} {x4 : Int32} {x5 : Int32} {x7 : Int32} {I : Nat → Int32} {A : Nat → Nat → Int32} {H : Heap} {locs : List Loc} {ls : Array Slot} (hf : f_readLine_113s rec self3 self113 x1 x2 x3 x4 x5 x7 I A = some o) (hM : mH D cy ci h A0 s H locs I A) (hl : lv_has ls 8 [(0, .ref (h 0)), (1, .int x1), (2, .int x2), (3, .int x3), (4, .int x4), (5, .int x5), (7, .int x7)]) : W p l e R s m args below meth c H locs 0 0 Q (F0 m 113 ls []) := by
  obtain ⟨hx, hb, hml, hown, hts⟩ := id X
  unfold f_readLine_113s at hf
  refine lv_iload hx hb dX12_readLine_113 (lv_at hl 5 rfl) ?_
  refine lv_if_ne (tgt := 224) hx hb dX12_readLine_115 (by decide) (fun cc1 => ?_) (fun cc1 => ?_)
  · replace hf := m_ifF hf cc1
    exact w_readLine_224 hR0 hR1 hR2 hrec X hret hself3 hf hM (lv_sub hl [0, 1, 2, 3, 4, 5] rfl)
  · replace hf := m_ifT hf cc1
    refine lv_aload_n hx hb dX12_readLine_118 rfl (lv_at hl 0 rfl) ?_
    obtain ⟨o1, ho, hf⟩ := m_clE hf
    refine m_callVi X hM (c_look ho) gX12_readLine_X12_look rfl ⟨rfl, rfl⟩ hd_look ⟨Nat.le_trans (Nat.le_of_ble_eq_true rfl) hR0.1, Nat.le_trans (Nat.le_of_ble_eq_true rfl) hR0.2⟩ rfl hl.1 rfl (Nat.le_of_ble_eq_true rfl) dX12_readLine_119 (fun H locs hM => ?_)
    clear ho
    refine lv_bipush (v := (40 : Int32)) hx hb dX12_readLine_122 (by decide) ?_
    refine lv_icmp_ne (tgt := 224) hx hb dX12_readLine_124 (by decide) (fun cc1 => ?_) (fun cc1 => ?_)
    · replace hf := m_ifF hf cc1
      exact w_readLine_224 hR0 hR1 hR2 hrec X hret hself3 hf hM (lv_sub hl [0, 1, 2, 3, 4, 5] rfl)
    · replace hf := m_ifT hf cc1
      refine lv_iload_n hx hb dX12_readLine_127 rfl (lv_at hl 3 rfl) ?_
      refine lv_bipush (v := (6 : Int32)) hx hb dX12_readLine_128 (by decide) ?_
      refine lv_icmp_ne (tgt := 145) hx hb dX12_readLine_130 (by decide) (fun cc1 => ?_) (fun cc1 => ?_)
      · replace hf := m_ifF hf cc1
        refine lv_iconst (v := (0 : Int32)) hx hb dX12_readLine_145 (by decide) ?_
        exact w_readLine_146 hR0 hR1 hR2 hrec X hret hself3 hself113 hf hM (lv_sub hl [0, 1, 2, 3, 4, 6] rfl)
      · replace hf := m_ifT hf cc1
        refine lv_bipush (v := (8 : Int32)) hx hb dX12_readLine_133 (by decide) ?_
        refine lv_aload_n hx hb dX12_readLine_135 rfl (lv_at hl 0 rfl) ?_
        refine m_get (v := .int (o1.2.1 37)) X hw_readLine hM 37 (by decide) fl_readLine_37 rfl dX12_readLine_136 ?_
        obtain ⟨o2, ho, hf⟩ := m_clE hf
        refine m_callSi X hM (c_fault ho) gX12_readLine_X12_fault rfl ⟨rfl, rfl⟩ hd_fault ⟨Nat.le_trans (Nat.le_of_ble_eq_true rfl) hR0.1, Nat.le_trans (Nat.le_of_ble_eq_true rfl) hR0.2⟩ rfl hl.1 rfl (Nat.le_of_ble_eq_true rfl) dX12_readLine_139 (fun H locs hM => ?_)
        clear ho
        refine lv_goto (tgt := 146) hx hb dX12_readLine_142 (by decide) ?_
        exact w_readLine_146 hR0 hR1 hR2 hrec X hret hself3 hself113 hf hM (lv_sub hl [0, 1, 2, 3, 4, 6] rfl)
def f_readLine_113 (rec : Int32 → Int32 → Int32 → (Nat → Int32) → (Nat → Nat → Int32) → Option (Int32 × MS)) (self3 : Int32 → Int32 → Int32 → Int32 → (Nat → Int32) → (Nat → Nat → Int32) → Option (Int32 × MS)) : Nat → Int32 → Int32 → Int32 → Int32 → Int32 → Int32 → (Nat → Int32) → (Nat → Nat → Int32) → Option (Int32 × MS)
  | 0 => fun _ _ _ _ _ _ _ _ => none
  | n + 1 => f_readLine_113s rec self3 (f_readLine_113 rec self3 n)
theorem w_readLine_113 {p : Program} {l : Launch} {e : Env} {s : State} {m : MethodId} {args : Array Value} {below : List Frame} {meth : Method} {c : Code} {Q : State → Prop} {D : va_G} {cy ci : ClassId} {h : Nat → Nat} {A0 : Nat → Prop} {o : Int32 × MS} {R Rr : Room} (hR0 : 9 ≤ R.frames ∧ 234 ≤ R.locals) (hR1 : Rr.cells = 0 ∧ Rr.slots = 0) (hR2 : Rr.frames + 1 ≤ R.frames ∧ 8 + (8 + 11) + Rr.locals ≤ R.locals) {rec : Int32 → Int32 → Int32 → (Nat → Int32) → (Nat → Nat → Int32) → Option (Int32 × MS)} (hrec : ∀ (x1 : Int32) (x2 : Int32) (x3 : Int32) (I : Nat → Int32) (A : Nat → Nat → Int32) (o9 : Int32 × MS), rec x1 x2 x3 I A = some o9 → mMi l yX12_readLine wsX12_readLine Rr [.ref (h 0), .int x1, .int x2, .int x3] D cy ci h I A o9) (X : CallFix p m c cX12_readLine 8 s args wsX12_readLine RX12) (hret : mRi p l e R s m args below meth c Q cX12_readLine D cy ci h A0 .int o) {self3 : Int32 → Int32 → Int32 → Int32 → (Nat → Int32) → (Nat → Nat → Int32) → Option (Int32 × MS)} (hself3 : ∀ (x1 : Int32) (x2 : Int32) (x3 : Int32) (x4 : Int32) (I : Nat → Int32) (A : Nat → Nat → Int32) (H : Heap) (locs : List Loc) (ls : Array Slot), self3 x1 x2 x3 x4 I A = some o → mH D cy ci h A0 s H locs I A → lv_has ls 8 [(0, .ref (h 0)), (1, .int x1), (2, .int x2), (3, .int x3), (4, .int x4)] → W p l e R s m args below meth c H locs 0 0 Q (F0 m 3 ls [])) (n : Nat) : ∀ (x1 : Int32) (x2 : Int32) (x3 : Int32) (x4 : Int32) (x5 : Int32) (x7 : Int32) (I : Nat → Int32) (A : Nat → Nat → Int32) (H : Heap) (locs : List Loc) (ls : Array Slot), f_readLine_113 rec self3 n x1 x2 x3 x4 x5 x7 I A = some o → mH D cy ci h A0 s H locs I A → lv_has ls 8 [(0, .ref (h 0)), (1, .int x1), (2, .int x2), (3, .int x3), (4, .int x4), (5, .int x5), (7, .int x7)] → W p l e R s m args below meth c H locs 0 0 Q (F0 m 113 ls []) := by
  induction n with
  | zero => intro x1 x2 x3 x4 x5 x7 I A H locs ls hf; cases hf
  | succ n ih => intro x1 x2 x3 x4 x5 x7 I A H locs ls hf hM hl; exact ws_readLine_113 hR0 hR1 hR2 hrec X hret hself3 (self113 := f_readLine_113 rec self3 n) ih hf hM hl
def f_readLine_111 (rec : Int32 → Int32 → Int32 → (Nat → Int32) → (Nat → Nat → Int32) → Option (Int32 × MS)) (self3 : Int32 → Int32 → Int32 → Int32 → (Nat → Int32) → (Nat → Nat → Int32) → Option (Int32 × MS)) (x1 : Int32) (x2 : Int32) (x3 : Int32) (x4 : Int32) (x7 : Int32) (t0 : Int32) (I : Nat → Int32) (A : Nat → Nat → Int32) : Option (Int32 × MS) :=
  f_readLine_113 rec self3 mFuel x1 x2 x3 x4 t0 x7 I A

set_option maxRecDepth 100000 in
set_option maxHeartbeats 4000000 in
theorem w_readLine_111 {p : Program} {l : Launch} {e : Env} {s : State} {m : MethodId} {args : Array Value} {below : List Frame} {meth : Method} {c : Code} {Q : State → Prop} {D : va_G} {cy ci : ClassId} {h : Nat → Nat} {A0 : Nat → Prop} {o : Int32 × MS} {R Rr : Room} (hR0 : 9 ≤ R.frames ∧ 234 ≤ R.locals) (hR1 : Rr.cells = 0 ∧ Rr.slots = 0) (hR2 : Rr.frames + 1 ≤ R.frames ∧ 8 + (8 + 11) + Rr.locals ≤ R.locals) {rec : Int32 → Int32 → Int32 → (Nat → Int32) → (Nat → Nat → Int32) → Option (Int32 × MS)} (hrec : ∀ (x1 : Int32) (x2 : Int32) (x3 : Int32) (I : Nat → Int32) (A : Nat → Nat → Int32) (o9 : Int32 × MS), rec x1 x2 x3 I A = some o9 → mMi l yX12_readLine wsX12_readLine Rr [.ref (h 0), .int x1, .int x2, .int x3] D cy ci h I A o9) (X : CallFix p m c cX12_readLine 8 s args wsX12_readLine RX12) (hret : mRi p l e R s m args below meth c Q cX12_readLine D cy ci h A0 .int o) {self3 : Int32 → Int32 → Int32 → Int32 → (Nat → Int32) → (Nat → Nat → Int32) → Option (Int32 × MS)} (hself3 : ∀ (x1 : Int32) (x2 : Int32) (x3 : Int32) (x4 : Int32) (I : Nat → Int32) (A : Nat → Nat → Int32) (H : Heap) (locs : List Loc) (ls : Array Slot), self3 x1 x2 x3 x4 I A = some o → mH D cy ci h A0 s H locs I A → lv_has ls 8 [(0, .ref (h 0)), (1, .int x1), (2, .int x2), (3, .int x3), (4, .int x4)] → W p l e R s m args below meth c H locs 0 0 Q (F0 m 3 ls [])) {x1 : Int32} {x2 : Int32} {x3 : Int32} {x4 : Int32} {x7 : Int32} {t0 : Int32} {I : Nat → Int32} {A : Nat → Nat → Int32} {H : Heap} {locs : List Loc} {ls : Array Slot} (hf : f_readLine_111 rec self3 x1 x2 x3 x4 x7 t0 I A = some o) (hM : mH D cy ci h A0 s H locs I A) (hl : lv_has ls 8 [(0, .ref (h 0)), (1, .int x1), (2, .int x2), (3, .int x3), (4, .int x4), (7, .int x7)]) : W p l e R s m args below meth c H locs 0 0 Q (F0 m 111 ls [.int t0]) := by
  obtain ⟨hx, hb, hml, hown, hts⟩ := id X
  unfold f_readLine_111 at hf
  refine lv_istore (lv' := [(5, .int t0), (0, .ref (h 0)), (1, .int x1), (2, .int x2), (3, .int x3), (4, .int x4), (7, .int x7)]) hx hb dX12_readLine_111 hl (by decide) rfl (fun ls hl => ?_)
  exact w_readLine_113 hR0 hR1 hR2 hrec X hret hself3 _ _ _ _ _ _ _ _ _ _ _ _ hf hM (lv_sub hl [1, 2, 3, 4, 5, 0, 6] rfl)
def f_readLine_38 (rec : Int32 → Int32 → Int32 → (Nat → Int32) → (Nat → Nat → Int32) → Option (Int32 × MS)) (self3 : Int32 → Int32 → Int32 → Int32 → (Nat → Int32) → (Nat → Nat → Int32) → Option (Int32 × MS)) (x1 : Int32) (x2 : Int32) (x3 : Int32) (x4 : Int32) (I : Nat → Int32) (A : Nat → Nat → Int32) : Option (Int32 × MS) :=
  m_cl (f_place x1 x4 I A) (fun r1 Ic1 Ac1 =>
  m_cl (f_readMoveNumber  Ic1 Ac1) (fun r2 Ic2 Ac2 =>
  m_if (r2 ≤ 0) (
  m_cl (f_readMove x1 x4 Ic2 Ac2) (fun r3 Ic3 Ac3 =>
  m_if (0 ≤ r3) (
  m_cl (f_readMarks x1 r3 Ic3 Ac3) (fun r4 Ic4 Ac4 =>
  m_if (r4 ≤ 0) (
  m_cl (f_readRemarks x1 r3 Ic4 Ac4) (fun r5 Ic5 Ac5 =>
  f_readLine_111 rec self3 x1 x2 x3 r3 x4 r5 Ic5 Ac5)
  ) (
  f_readLine_111 rec self3 x1 x2 x3 r3 x4 r4 Ic4 Ac4
  ))
  ) (
  m_bnd (-r3) (fun v6 =>
  some (v6, (Ic3, Ac3)))
  ))
  ) (
  some (r2, (Ic2, Ac2))
  )))

set_option maxRecDepth 100000 in
set_option maxHeartbeats 4000000 in
theorem w_readLine_38 {p : Program} {l : Launch} {e : Env} {s : State} {m : MethodId} {args : Array Value} {below : List Frame} {meth : Method} {c : Code} {Q : State → Prop} {D : va_G} {cy ci : ClassId} {h : Nat → Nat} {A0 : Nat → Prop} {o : Int32 × MS} {R Rr : Room} (hR0 : 9 ≤ R.frames ∧ 234 ≤ R.locals) (hR1 : Rr.cells = 0 ∧ Rr.slots = 0) (hR2 : Rr.frames + 1 ≤ R.frames ∧ 8 + (8 + 11) + Rr.locals ≤ R.locals) {rec : Int32 → Int32 → Int32 → (Nat → Int32) → (Nat → Nat → Int32) → Option (Int32 × MS)} (hrec : ∀ (x1 : Int32) (x2 : Int32) (x3 : Int32) (I : Nat → Int32) (A : Nat → Nat → Int32) (o9 : Int32 × MS), rec x1 x2 x3 I A = some o9 → mMi l yX12_readLine wsX12_readLine Rr [.ref (h 0), .int x1, .int x2, .int x3] D cy ci h I A o9) (X : CallFix p m c cX12_readLine 8 s args wsX12_readLine RX12) (hret : mRi p l e R s m args below meth c Q cX12_readLine D cy ci h A0 .int o) {self3 : Int32 → Int32 → Int32 → Int32 → (Nat → Int32) → (Nat → Nat → Int32) → Option (Int32 × MS)} (hself3 : ∀ (x1 : Int32) (x2 : Int32) (x3 : Int32) (x4 : Int32) (I : Nat → Int32) (A : Nat → Nat → Int32) (H : Heap) (locs : List Loc) (ls : Array Slot), self3 x1 x2 x3 x4 I A = some o → mH D cy ci h A0 s H locs I A → lv_has ls 8 [(0, .ref (h 0)), (1, .int x1), (2, .int x2), (3, .int x3), (4, .int x4)] → W p l e R s m args below meth c H locs 0 0 Q (F0 m 3 ls [])) {x1 : Int32} {x2 : Int32} {x3 : Int32} {x4 : Int32} {I : Nat → Int32} {A : Nat → Nat → Int32} {H : Heap} {locs : List Loc} {ls : Array Slot} (hf : f_readLine_38 rec self3 x1 x2 x3 x4 I A = some o) (hM : mH D cy ci h A0 s H locs I A) (hl : lv_has ls 8 [(0, .ref (h 0)), (1, .int x1), (2, .int x2), (3, .int x3), (4, .int x4)]) : W p l e R s m args below meth c H locs 0 0 Q (F0 m 38 ls []) := by
  obtain ⟨hx, hb, hml, hown, hts⟩ := id X
  unfold f_readLine_38 at hf
  refine lv_aload_n hx hb dX12_readLine_38 rfl (lv_at hl 0 rfl) ?_
  refine lv_iload_n hx hb dX12_readLine_39 rfl (lv_at hl 1 rfl) ?_
  refine lv_iload hx hb dX12_readLine_40 (lv_at hl 4 rfl) ?_
  obtain ⟨o1, ho, hf⟩ := m_clE hf
  refine m_callVv X hM (c_place ho) gX12_readLine_X12_place rfl ⟨rfl, rfl⟩ hd_place ⟨Nat.le_trans (Nat.le_of_ble_eq_true rfl) hR0.1, Nat.le_trans (Nat.le_of_ble_eq_true rfl) hR0.2⟩ rfl hl.1 rfl (Nat.le_of_ble_eq_true rfl) dX12_readLine_42 (fun H locs hM => ?_)
  clear ho
  refine lv_aload_n hx hb dX12_readLine_45 rfl (lv_at hl 0 rfl) ?_
  obtain ⟨o2, ho, hf⟩ := m_clE hf
  refine m_callVi X hM (c_readMoveNumber ho) gX12_readLine_X12_readMoveNumber rfl ⟨rfl, rfl⟩ hd_readMoveNumber ⟨Nat.le_trans (Nat.le_of_ble_eq_true rfl) hR0.1, Nat.le_trans (Nat.le_of_ble_eq_true rfl) hR0.2⟩ rfl hl.1 rfl (Nat.le_of_ble_eq_true rfl) dX12_readLine_46 (fun H locs hM => ?_)
  clear ho
  refine lv_istore (lv' := [(5, .int o2.1), (0, .ref (h 0)), (1, .int x1), (2, .int x2), (3, .int x3), (4, .int x4)]) hx hb dX12_readLine_49 hl (by decide) rfl (fun ls hl => ?_)
  refine lv_iload hx hb dX12_readLine_51 (lv_at hl 0 rfl) ?_
  refine lv_if_le (tgt := 59) hx hb dX12_readLine_53 (by decide) (fun cc1 => ?_) (fun cc1 => ?_)
  · replace hf := m_ifT hf cc1
    refine lv_aload_n hx hb dX12_readLine_59 rfl (lv_at hl 1 rfl) ?_
    refine lv_iload_n hx hb dX12_readLine_60 rfl (lv_at hl 2 rfl) ?_
    refine lv_iload hx hb dX12_readLine_61 (lv_at hl 5 rfl) ?_
    obtain ⟨o3, ho, hf⟩ := m_clE hf
    refine m_callVi X hM (c_readMove ho) gX12_readLine_X12_readMove rfl ⟨rfl, rfl⟩ hd_readMove ⟨Nat.le_trans (Nat.le_of_ble_eq_true rfl) hR0.1, Nat.le_trans (Nat.le_of_ble_eq_true rfl) hR0.2⟩ rfl hl.1 rfl (Nat.le_of_ble_eq_true rfl) dX12_readLine_63 (fun H locs hM => ?_)
    clear ho
    refine lv_istore (lv' := [(6, .int o3.1), (5, .int o2.1), (0, .ref (h 0)), (1, .int x1), (2, .int x2), (3, .int x3), (4, .int x4)]) hx hb dX12_readLine_66 hl (by decide) rfl (fun ls hl => ?_)
    refine lv_iload hx hb dX12_readLine_68 (lv_at hl 0 rfl) ?_
    refine lv_if_ge (tgt := 77) hx hb dX12_readLine_70 (by decide) (fun cc1 => ?_) (fun cc1 => ?_)
    · replace hf := m_ifT hf cc1
      refine lv_iload hx hb dX12_readLine_77 (lv_at hl 6 rfl) ?_
      refine lv_istore (lv' := [(7, .int x4), (6, .int o3.1), (5, .int o2.1), (0, .ref (h 0)), (1, .int x1), (2, .int x2), (3, .int x3), (4, .int x4)]) hx hb dX12_readLine_79 hl (by decide) rfl (fun ls hl => ?_)
      refine lv_iload hx hb dX12_readLine_81 (lv_at hl 1 rfl) ?_
      refine lv_istore (lv' := [(4, .int o3.1), (7, .int x4), (6, .int o3.1), (5, .int o2.1), (0, .ref (h 0)), (1, .int x1), (2, .int x2), (3, .int x3)]) hx hb dX12_readLine_83 hl (by decide) rfl (fun ls hl => ?_)
      refine lv_aload_n hx hb dX12_readLine_85 rfl (lv_at hl 4 rfl) ?_
      refine lv_iload_n hx hb dX12_readLine_86 rfl (lv_at hl 5 rfl) ?_
      refine lv_iload hx hb dX12_readLine_87 (lv_at hl 0 rfl) ?_
      obtain ⟨o4, ho, hf⟩ := m_clE hf
      refine m_callVi X hM (c_readMarks ho) gX12_readLine_X12_readMarks rfl ⟨rfl, rfl⟩ hd_readMarks ⟨Nat.le_trans (Nat.le_of_ble_eq_true rfl) hR0.1, Nat.le_trans (Nat.le_of_ble_eq_true rfl) hR0.2⟩ rfl hl.1 rfl (Nat.le_of_ble_eq_true rfl) dX12_readLine_89 (fun H locs hM => ?_)
      clear ho
      refine lv_istore (lv' := [(5, .int o4.1), (4, .int o3.1), (7, .int x4), (6, .int o3.1), (0, .ref (h 0)), (1, .int x1), (2, .int x2), (3, .int x3)]) hx hb dX12_readLine_92 hl (by decide) rfl (fun ls hl => ?_)
      refine lv_iload hx hb dX12_readLine_94 (lv_at hl 0 rfl) ?_
      refine lv_if_le (tgt := 104) hx hb dX12_readLine_96 (by decide) (fun cc1 => ?_) (fun cc1 => ?_)
      · replace hf := m_ifT hf cc1
        refine lv_aload_n hx hb dX12_readLine_104 rfl (lv_at hl 4 rfl) ?_
        refine lv_iload_n hx hb dX12_readLine_105 rfl (lv_at hl 5 rfl) ?_
        refine lv_iload hx hb dX12_readLine_106 (lv_at hl 1 rfl) ?_
        obtain ⟨o5, ho, hf⟩ := m_clE hf
        refine m_callVi X hM (c_readRemarks ho) gX12_readLine_X12_readRemarks rfl ⟨rfl, rfl⟩ hd_readRemarks ⟨Nat.le_trans (Nat.le_of_ble_eq_true rfl) hR0.1, Nat.le_trans (Nat.le_of_ble_eq_true rfl) hR0.2⟩ rfl hl.1 rfl (Nat.le_of_ble_eq_true rfl) dX12_readLine_108 (fun H locs hM => ?_)
        clear ho
        exact w_readLine_111 hR0 hR1 hR2 hrec X hret hself3 hf hM (lv_sub hl [4, 5, 6, 7, 1, 2] rfl)
      · replace hf := m_ifF hf cc1
        refine lv_iload hx hb dX12_readLine_99 (lv_at hl 0 rfl) ?_
        refine lv_goto (tgt := 111) hx hb dX12_readLine_101 (by decide) ?_
        exact w_readLine_111 hR0 hR1 hR2 hrec X hret hself3 hf hM (lv_sub hl [4, 5, 6, 7, 1, 2] rfl)
    · replace hf := m_ifF hf cc1
      refine lv_iload hx hb dX12_readLine_73 (lv_at hl 0 rfl) ?_
      refine lv_ineg hx hb dX12_readLine_75 ?_
      obtain ⟨v6, ev, hf⟩ := m_bndE hf
      refine m_top ev ?_
      clear ev
      cases hf
      exact hret H locs _ ls hM rfl dX12_readLine_76
  · replace hf := m_ifF hf cc1
    refine lv_iload hx hb dX12_readLine_56 (lv_at hl 0 rfl) ?_
    cases hf
    exact hret H locs _ ls hM rfl dX12_readLine_58
def f_readLine_36 (rec : Int32 → Int32 → Int32 → (Nat → Int32) → (Nat → Nat → Int32) → Option (Int32 × MS)) (I : Nat → Int32) (A : Nat → Nat → Int32) : Option (Int32 × MS) :=
  some ((0 : Int32), (I, A))

set_option maxRecDepth 100000 in
set_option maxHeartbeats 4000000 in
theorem w_readLine_36 {p : Program} {l : Launch} {e : Env} {s : State} {m : MethodId} {args : Array Value} {below : List Frame} {meth : Method} {c : Code} {Q : State → Prop} {D : va_G} {cy ci : ClassId} {h : Nat → Nat} {A0 : Nat → Prop} {o : Int32 × MS} {R Rr : Room} (hR0 : 9 ≤ R.frames ∧ 234 ≤ R.locals) (hR1 : Rr.cells = 0 ∧ Rr.slots = 0) (hR2 : Rr.frames + 1 ≤ R.frames ∧ 8 + (8 + 11) + Rr.locals ≤ R.locals) {rec : Int32 → Int32 → Int32 → (Nat → Int32) → (Nat → Nat → Int32) → Option (Int32 × MS)} (hrec : ∀ (x1 : Int32) (x2 : Int32) (x3 : Int32) (I : Nat → Int32) (A : Nat → Nat → Int32) (o9 : Int32 × MS), rec x1 x2 x3 I A = some o9 → mMi l yX12_readLine wsX12_readLine Rr [.ref (h 0), .int x1, .int x2, .int x3] D cy ci h I A o9) (X : CallFix p m c cX12_readLine 8 s args wsX12_readLine RX12) (hret : mRi p l e R s m args below meth c Q cX12_readLine D cy ci h A0 .int o) {I : Nat → Int32} {A : Nat → Nat → Int32} {H : Heap} {locs : List Loc} {ls : Array Slot} (hf : f_readLine_36 rec  I A = some o) (hM : mH D cy ci h A0 s H locs I A) (hl : lv_has ls 8 []) : W p l e R s m args below meth c H locs 0 0 Q (F0 m 36 ls []) := by
  obtain ⟨hx, hb, hml, hown, hts⟩ := id X
  unfold f_readLine_36 at hf
  refine lv_iconst (v := (0 : Int32)) hx hb dX12_readLine_36 (by decide) ?_
  cases hf
  exact hret H locs _ ls hM rfl dX12_readLine_37
def f_readLine_3s (rec : Int32 → Int32 → Int32 → (Nat → Int32) → (Nat → Nat → Int32) → Option (Int32 × MS)) (self3 : Int32 → Int32 → Int32 → Int32 → (Nat → Int32) → (Nat → Nat → Int32) → Option (Int32 × MS)) (x1 : Int32) (x2 : Int32) (x3 : Int32) (x4 : Int32) (I : Nat → Int32) (A : Nat → Nat → Int32) : Option (Int32 × MS) :=
  m_cl (f_blanks  I A) (fun r1 Ic1 Ac1 =>
  m_if (x3 = 0) (
  m_cl (f_resultHere  Ic1 Ac1) (fun r3 Ic3 Ac3 =>
  m_if (r3 < 0) (
  f_readLine_38 rec self3 x1 x2 x3 x4 Ic3 Ac3
  ) (
  f_readLine_36 rec  Ic3 Ac3
  ))
  ) (
  m_cl (f_look  Ic1 Ac1) (fun r2 Ic2 Ac2 =>
  m_if (r2 = (41 : Int32)) (
  m_if (x4 = x2) (
  f_readLine_38 rec self3 x1 x2 x3 x4 Ic2 Ac2
  ) (
  f_readLine_36 rec  Ic2 Ac2
  )
  ) (
  f_readLine_38 rec self3 x1 x2 x3 x4 Ic2 Ac2
  ))
  ))

set_option maxRecDepth 100000 in
set_option maxHeartbeats 4000000 in
theorem ws_readLine_3 {p : Program} {l : Launch} {e : Env} {s : State} {m : MethodId} {args : Array Value} {below : List Frame} {meth : Method} {c : Code} {Q : State → Prop} {D : va_G} {cy ci : ClassId} {h : Nat → Nat} {A0 : Nat → Prop} {o : Int32 × MS} {R Rr : Room} (hR0 : 9 ≤ R.frames ∧ 234 ≤ R.locals) (hR1 : Rr.cells = 0 ∧ Rr.slots = 0) (hR2 : Rr.frames + 1 ≤ R.frames ∧ 8 + (8 + 11) + Rr.locals ≤ R.locals) {rec : Int32 → Int32 → Int32 → (Nat → Int32) → (Nat → Nat → Int32) → Option (Int32 × MS)} (hrec : ∀ (x1 : Int32) (x2 : Int32) (x3 : Int32) (I : Nat → Int32) (A : Nat → Nat → Int32) (o9 : Int32 × MS), rec x1 x2 x3 I A = some o9 → mMi l yX12_readLine wsX12_readLine Rr [.ref (h 0), .int x1, .int x2, .int x3] D cy ci h I A o9) (X : CallFix p m c cX12_readLine 8 s args wsX12_readLine RX12) (hret : mRi p l e R s m args below meth c Q cX12_readLine D cy ci h A0 .int o) {self3 : Int32 → Int32 → Int32 → Int32 → (Nat → Int32) → (Nat → Nat → Int32) → Option (Int32 × MS)} (hself3 : ∀ (x1 : Int32) (x2 : Int32) (x3 : Int32) (x4 : Int32) (I : Nat → Int32) (A : Nat → Nat → Int32) (H : Heap) (locs : List Loc) (ls : Array Slot), self3 x1 x2 x3 x4 I A = some o → mH D cy ci h A0 s H locs I A → lv_has ls 8 [(0, .ref (h 0)), (1, .int x1), (2, .int x2), (3, .int x3), (4, .int x4)] → W p l e R s m args below meth c H locs 0 0 Q (F0 m 3 ls [])) {x1 : Int32} {x2 : Int32} {x3 : Int32} {x4 : Int32} {I : Nat → Int32} {A : Nat → Nat → Int32} {H : Heap} {locs : List Loc} {ls : Array Slot} (hf : f_readLine_3s rec self3 x1 x2 x3 x4 I A = some o) (hM : mH D cy ci h A0 s H locs I A) (hl : lv_has ls 8 [(0, .ref (h 0)), (1, .int x1), (2, .int x2), (3, .int x3), (4, .int x4)]) : W p l e R s m args below meth c H locs 0 0 Q (F0 m 3 ls []) := by
  obtain ⟨hx, hb, hml, hown, hts⟩ := id X
  unfold f_readLine_3s at hf
  refine lv_aload_n hx hb dX12_readLine_3 rfl (lv_at hl 0 rfl) ?_
  obtain ⟨o1, ho, hf⟩ := m_clE hf
  refine m_callVv X hM (c_blanks ho) gX12_readLine_X12_blanks rfl ⟨rfl, rfl⟩ hd_blanks ⟨Nat.le_trans (Nat.le_of_ble_eq_true rfl) hR0.1, Nat.le_trans (Nat.le_of_ble_eq_true rfl) hR0.2⟩ rfl hl.1 rfl (Nat.le_of_ble_eq_true rfl) dX12_readLine_4 (fun H locs hM => ?_)
  clear ho
  refine lv_iload_n hx hb dX12_readLine_7 rfl (lv_at hl 3 rfl) ?_
  refine lv_if_ne (tgt := 21) hx hb dX12_readLine_8 (by decide) (fun cc1 => ?_) (fun cc1 => ?_)
  · replace hf := m_ifF hf cc1
    refine lv_aload_n hx hb dX12_readLine_21 rfl (lv_at hl 0 rfl) ?_
    obtain ⟨o2, ho, hf⟩ := m_clE hf
    refine m_callVi X hM (c_look ho) gX12_readLine_X12_look rfl ⟨rfl, rfl⟩ hd_look ⟨Nat.le_trans (Nat.le_of_ble_eq_true rfl) hR0.1, Nat.le_trans (Nat.le_of_ble_eq_true rfl) hR0.2⟩ rfl hl.1 rfl (Nat.le_of_ble_eq_true rfl) dX12_readLine_22 (fun H locs hM => ?_)
    clear ho
    refine lv_bipush (v := (41 : Int32)) hx hb dX12_readLine_25 (by decide) ?_
    refine lv_icmp_ne (tgt := 38) hx hb dX12_readLine_27 (by decide) (fun cc1 => ?_) (fun cc1 => ?_)
    · replace hf := m_ifF hf cc1
      exact w_readLine_38 hR0 hR1 hR2 hrec X hret hself3 hf hM (lv_sub hl [0, 1, 2, 3, 4] rfl)
    · replace hf := m_ifT hf cc1
      refine lv_iload hx hb dX12_readLine_30 (lv_at hl 4 rfl) ?_
      refine lv_iload_n hx hb dX12_readLine_32 rfl (lv_at hl 2 rfl) ?_
      refine lv_icmp_eq (tgt := 38) hx hb dX12_readLine_33 (by decide) (fun cc1 => ?_) (fun cc1 => ?_)
      · replace hf := m_ifT hf cc1
        exact w_readLine_38 hR0 hR1 hR2 hrec X hret hself3 hf hM (lv_sub hl [0, 1, 2, 3, 4] rfl)
      · replace hf := m_ifF hf cc1
        exact w_readLine_36 hR0 hR1 hR2 hrec X hret hf hM (lv_sub hl [] rfl)
  · replace hf := m_ifT hf cc1
    refine lv_aload_n hx hb dX12_readLine_11 rfl (lv_at hl 0 rfl) ?_
    obtain ⟨o3, ho, hf⟩ := m_clE hf
    refine m_callVi X hM (c_resultHere ho) gX12_readLine_X12_resultHere rfl ⟨rfl, rfl⟩ hd_resultHere ⟨Nat.le_trans (Nat.le_of_ble_eq_true rfl) hR0.1, Nat.le_trans (Nat.le_of_ble_eq_true rfl) hR0.2⟩ rfl hl.1 rfl (Nat.le_of_ble_eq_true rfl) dX12_readLine_12 (fun H locs hM => ?_)
    clear ho
    refine lv_if_lt (tgt := 38) hx hb dX12_readLine_15 (by decide) (fun cc1 => ?_) (fun cc1 => ?_)
    · replace hf := m_ifT hf cc1
      exact w_readLine_38 hR0 hR1 hR2 hrec X hret hself3 hf hM (lv_sub hl [0, 1, 2, 3, 4] rfl)
    · replace hf := m_ifF hf cc1
      refine lv_goto (tgt := 36) hx hb dX12_readLine_18 (by decide) ?_
      exact w_readLine_36 hR0 hR1 hR2 hrec X hret hf hM (lv_sub hl [] rfl)
def f_readLine_3 (rec : Int32 → Int32 → Int32 → (Nat → Int32) → (Nat → Nat → Int32) → Option (Int32 × MS)) : Nat → Int32 → Int32 → Int32 → Int32 → (Nat → Int32) → (Nat → Nat → Int32) → Option (Int32 × MS)
  | 0 => fun _ _ _ _ _ _ => none
  | n + 1 => f_readLine_3s rec (f_readLine_3 rec n)
theorem w_readLine_3 {p : Program} {l : Launch} {e : Env} {s : State} {m : MethodId} {args : Array Value} {below : List Frame} {meth : Method} {c : Code} {Q : State → Prop} {D : va_G} {cy ci : ClassId} {h : Nat → Nat} {A0 : Nat → Prop} {o : Int32 × MS} {R Rr : Room} (hR0 : 9 ≤ R.frames ∧ 234 ≤ R.locals) (hR1 : Rr.cells = 0 ∧ Rr.slots = 0) (hR2 : Rr.frames + 1 ≤ R.frames ∧ 8 + (8 + 11) + Rr.locals ≤ R.locals) {rec : Int32 → Int32 → Int32 → (Nat → Int32) → (Nat → Nat → Int32) → Option (Int32 × MS)} (hrec : ∀ (x1 : Int32) (x2 : Int32) (x3 : Int32) (I : Nat → Int32) (A : Nat → Nat → Int32) (o9 : Int32 × MS), rec x1 x2 x3 I A = some o9 → mMi l yX12_readLine wsX12_readLine Rr [.ref (h 0), .int x1, .int x2, .int x3] D cy ci h I A o9) (X : CallFix p m c cX12_readLine 8 s args wsX12_readLine RX12) (hret : mRi p l e R s m args below meth c Q cX12_readLine D cy ci h A0 .int o) (n : Nat) : ∀ (x1 : Int32) (x2 : Int32) (x3 : Int32) (x4 : Int32) (I : Nat → Int32) (A : Nat → Nat → Int32) (H : Heap) (locs : List Loc) (ls : Array Slot), f_readLine_3 rec n x1 x2 x3 x4 I A = some o → mH D cy ci h A0 s H locs I A → lv_has ls 8 [(0, .ref (h 0)), (1, .int x1), (2, .int x2), (3, .int x3), (4, .int x4)] → W p l e R s m args below meth c H locs 0 0 Q (F0 m 3 ls []) := by
  induction n with
  | zero => intro x1 x2 x3 x4 I A H locs ls hf; cases hf
  | succ n ih => intro x1 x2 x3 x4 I A H locs ls hf hM hl; exact ws_readLine_3 hR0 hR1 hR2 hrec X hret (self3 := f_readLine_3 rec n) ih hf hM hl
def f_readLine_0 (rec : Int32 → Int32 → Int32 → (Nat → Int32) → (Nat → Nat → Int32) → Option (Int32 × MS)) (x1 : Int32) (x2 : Int32) (x3 : Int32) (I : Nat → Int32) (A : Nat → Nat → Int32) : Option (Int32 × MS) :=
  f_readLine_3 rec mFuel x1 x2 x3 x2 I A

set_option maxRecDepth 100000 in
set_option maxHeartbeats 4000000 in
theorem w_readLine_0 {p : Program} {l : Launch} {e : Env} {s : State} {m : MethodId} {args : Array Value} {below : List Frame} {meth : Method} {c : Code} {Q : State → Prop} {D : va_G} {cy ci : ClassId} {h : Nat → Nat} {A0 : Nat → Prop} {o : Int32 × MS} {R Rr : Room} (hR0 : 9 ≤ R.frames ∧ 234 ≤ R.locals) (hR1 : Rr.cells = 0 ∧ Rr.slots = 0) (hR2 : Rr.frames + 1 ≤ R.frames ∧ 8 + (8 + 11) + Rr.locals ≤ R.locals) {rec : Int32 → Int32 → Int32 → (Nat → Int32) → (Nat → Nat → Int32) → Option (Int32 × MS)} (hrec : ∀ (x1 : Int32) (x2 : Int32) (x3 : Int32) (I : Nat → Int32) (A : Nat → Nat → Int32) (o9 : Int32 × MS), rec x1 x2 x3 I A = some o9 → mMi l yX12_readLine wsX12_readLine Rr [.ref (h 0), .int x1, .int x2, .int x3] D cy ci h I A o9) (X : CallFix p m c cX12_readLine 8 s args wsX12_readLine RX12) (hret : mRi p l e R s m args below meth c Q cX12_readLine D cy ci h A0 .int o) {x1 : Int32} {x2 : Int32} {x3 : Int32} {I : Nat → Int32} {A : Nat → Nat → Int32} {H : Heap} {locs : List Loc} {ls : Array Slot} (hf : f_readLine_0 rec x1 x2 x3 I A = some o) (hM : mH D cy ci h A0 s H locs I A) (hl : lv_has ls 8 [(0, .ref (h 0)), (1, .int x1), (2, .int x2), (3, .int x3)]) : W p l e R s m args below meth c H locs 0 0 Q (F0 m 0 ls []) := by
  obtain ⟨hx, hb, hml, hown, hts⟩ := id X
  unfold f_readLine_0 at hf
  refine lv_iload_n hx hb dX12_readLine_0 rfl (lv_at hl 2 rfl) ?_
  refine lv_istore (lv' := [(4, .int x2), (0, .ref (h 0)), (1, .int x1), (2, .int x2), (3, .int x3)]) hx hb dX12_readLine_1 hl (by decide) rfl (fun ls hl => ?_)
  exact w_readLine_3 hR0 hR1 hR2 hrec X hret _ _ _ _ _ _ _ _ _ _ hf hM (lv_sub hl [1, 2, 3, 4, 0] rfl)
def fr_readLine : Nat → Int32 → Int32 → Int32 → (Nat → Int32) → (Nat → Nat → Int32) → Option (Int32 × MS)
  | 0 => fun _ _ _ _ _ => none
  | n + 1 => fun x1 x2 x3 I A => f_readLine_0 (fr_readLine n) x1 x2 x3 I A
abbrev rr_readLine (n : Nat) : Room := { frames := 9 + n, cells := 0, slots := 0, locals := 234 + n * 27 }
theorem cr_readLine {l : Launch} {D : va_G} {cy ci : ClassId} {h : Nat → Nat} (n : Nat) : ∀ (x1 : Int32) (x2 : Int32) (x3 : Int32) (I : Nat → Int32) (A : Nat → Nat → Int32) (o : Int32 × MS), fr_readLine n x1 x2 x3 I A = some o → mMi l yX12_readLine wsX12_readLine (rr_readLine n) [.ref (h 0), .int x1, .int x2, .int x3] D cy ci h I A o := by
  induction n with
  | zero => intro x1 x2 x3 I A o hf; cases hf
  | succ n ih =>
    intro x1 x2 x3 I A o hf
    exact m_entryI (cc := cX12_readLine) (maxL := 8) (by decide) rfl rfl (Nat.le_of_ble_eq_true rfl) (fun p e s m args below meth c A0 Q H locs ls X hret hM hl => w_readLine_0 ⟨by show 9 ≤ 9 + (n + 1); omega, by show 234 ≤ 234 + (n + 1) * 27; omega⟩ ⟨rfl, rfl⟩ ⟨by show 9 + n + 1 ≤ 9 + (n + 1); omega, by show 8 + (8 + 11) + (234 + n * 27) ≤ 234 + (n + 1) * 27; omega⟩ ih X hret hf hM (lv_sub hl [0, 1, 2, 3] rfl))
def f_readLine (x1 : Int32) (x2 : Int32) (x3 : Int32) (I : Nat → Int32) (A : Nat → Nat → Int32) : Option (Int32 × MS) := fr_readLine 8 x1 x2 x3 I A
theorem c_readLine {l : Launch} {D : va_G} {cy ci : ClassId} {h : Nat → Nat} {x1 : Int32} {x2 : Int32} {x3 : Int32} {I : Nat → Int32} {A : Nat → Nat → Int32} {o : Int32 × MS} (hf : f_readLine x1 x2 x3 I A = some o) : mMi l yX12_readLine wsX12_readLine ({ frames := 17, cells := 0, slots := 0, locals := 450 } : Room) [.ref (h 0), .int x1, .int x2, .int x3] D cy ci h I A o := cr_readLine 8 x1 x2 x3 I A o hf
theorem hd_resultSize : yX12_resultSize.cls ≠ "java/lang/invoke/MethodHandle" ∧ yX12_resultSize.cls ≠ "java/lang/invoke/VarHandle" ∧ (parseMethodDescriptor yX12_resultSize.desc).map (fun d => d.parameters.length) = some 1 := by decide +kernel
def f_resultSize_19 (t0 : Int32) (I : Nat → Int32) (A : Nat → Nat → Int32) : Option (Int32 × MS) :=
  some (t0, (I, A))

set_option maxRecDepth 100000 in
set_option maxHeartbeats 4000000 in
theorem w_resultSize_19 {p : Program} {l : Launch} {e : Env} {s : State} {m : MethodId} {args : Array Value} {below : List Frame} {meth : Method} {c : Code} {Q : State → Prop} {D : va_G} {cy ci : ClassId} {h : Nat → Nat} {A0 : Nat → Prop} {o : Int32 × MS} (X : CallFix p m c cX12_resultSize 1 s args wsX12_resultSize RX12) (hret : mRi p l e ({ frames := 0, cells := 0, slots := 0, locals := 0 } : Room) s m args below meth c Q cX12_resultSize D cy ci h A0 .int o) {t0 : Int32} {I : Nat → Int32} {A : Nat → Nat → Int32} {H : Heap} {locs : List Loc} {ls : Array Slot} (hf : f_resultSize_19 t0 I A = some o) (hM : mH D cy ci h A0 s H locs I A) (hl : lv_has ls 1 []) : W p l e ({ frames := 0, cells := 0, slots := 0, locals := 0 } : Room) s m args below meth c H locs 0 0 Q (F0 m 19 ls [.int t0]) := by
  obtain ⟨hx, hb, hml, hown, hts⟩ := id X
  unfold f_resultSize_19 at hf
  cases hf
  exact hret H locs _ ls hM rfl dX12_resultSize_19
def f_resultSize_0 (x0 : Int32) (I : Nat → Int32) (A : Nat → Nat → Int32) : Option (Int32 × MS) :=
  m_if (x0 = 0) (
  f_resultSize_19 (1 : Int32) I A
  ) (
  m_if (x0 = (3 : Int32)) (
  f_resultSize_19 (7 : Int32) I A
  ) (
  f_resultSize_19 (3 : Int32) I A
  )
  )

set_option maxRecDepth 100000 in
set_option maxHeartbeats 4000000 in
theorem w_resultSize_0 {p : Program} {l : Launch} {e : Env} {s : State} {m : MethodId} {args : Array Value} {below : List Frame} {meth : Method} {c : Code} {Q : State → Prop} {D : va_G} {cy ci : ClassId} {h : Nat → Nat} {A0 : Nat → Prop} {o : Int32 × MS} (X : CallFix p m c cX12_resultSize 1 s args wsX12_resultSize RX12) (hret : mRi p l e ({ frames := 0, cells := 0, slots := 0, locals := 0 } : Room) s m args below meth c Q cX12_resultSize D cy ci h A0 .int o) {x0 : Int32} {I : Nat → Int32} {A : Nat → Nat → Int32} {H : Heap} {locs : List Loc} {ls : Array Slot} (hf : f_resultSize_0 x0 I A = some o) (hM : mH D cy ci h A0 s H locs I A) (hl : lv_has ls 1 [(0, .int x0)]) : W p l e ({ frames := 0, cells := 0, slots := 0, locals := 0 } : Room) s m args below meth c H locs 0 0 Q (F0 m 0 ls []) := by
  obtain ⟨hx, hb, hml, hown, hts⟩ := id X
  unfold f_resultSize_0 at hf
  refine lv_iload_n hx hb dX12_resultSize_0 rfl (lv_at hl 0 rfl) ?_
  refine lv_if_ne (tgt := 8) hx hb dX12_resultSize_1 (by decide) (fun cc1 => ?_) (fun cc1 => ?_)
  · replace hf := m_ifF hf cc1
    refine lv_iload_n hx hb dX12_resultSize_8 rfl (lv_at hl 0 rfl) ?_
    refine lv_iconst (v := (3 : Int32)) hx hb dX12_resultSize_9 (by decide) ?_
    refine lv_icmp_ne (tgt := 18) hx hb dX12_resultSize_10 (by decide) (fun cc1 => ?_) (fun cc1 => ?_)
    · replace hf := m_ifF hf cc1
      refine lv_iconst (v := (3 : Int32)) hx hb dX12_resultSize_18 (by decide) ?_
      exact w_resultSize_19 X hret hf hM (lv_sub hl [] rfl)
    · replace hf := m_ifT hf cc1
      refine lv_bipush (v := (7 : Int32)) hx hb dX12_resultSize_13 (by decide) ?_
      refine lv_goto (tgt := 19) hx hb dX12_resultSize_15 (by decide) ?_
      exact w_resultSize_19 X hret hf hM (lv_sub hl [] rfl)
  · replace hf := m_ifT hf cc1
    refine lv_iconst (v := (1 : Int32)) hx hb dX12_resultSize_4 (by decide) ?_
    refine lv_goto (tgt := 19) hx hb dX12_resultSize_5 (by decide) ?_
    exact w_resultSize_19 X hret hf hM (lv_sub hl [] rfl)
def f_resultSize (x0 : Int32) (I : Nat → Int32) (A : Nat → Nat → Int32) : Option (Int32 × MS) := f_resultSize_0 x0 I A
theorem c_resultSize {l : Launch} {D : va_G} {cy ci : ClassId} {h : Nat → Nat} {x0 : Int32} {I : Nat → Int32} {A : Nat → Nat → Int32} {o : Int32 × MS} (hf : f_resultSize x0 I A = some o) : mMi l yX12_resultSize wsX12_resultSize ({ frames := 0, cells := 0, slots := 0, locals := 0 } : Room) [.int x0] D cy ci h I A o :=
  m_entryI (cc := cX12_resultSize) (maxL := 1) (by decide) rfl rfl (Nat.le_of_ble_eq_true rfl) (fun p e s m args below meth c A0 Q H locs ls X hret hM hl => w_resultSize_0 X hret hf hM (lv_sub hl [0] rfl))
theorem hd_resultSign : yX12_resultSign.cls ≠ "java/lang/invoke/MethodHandle" ∧ yX12_resultSign.cls ≠ "java/lang/invoke/VarHandle" ∧ (parseMethodDescriptor yX12_resultSign.desc).map (fun d => d.parameters.length) = some 2 := by decide +kernel
def f_resultSign_52 (t0 : Int32) (I : Nat → Int32) (A : Nat → Nat → Int32) : Option (Int32 × MS) :=
  m_chk (vp_nar .char t0 = t0) (some (t0, (I, A)))

set_option maxRecDepth 100000 in
set_option maxHeartbeats 4000000 in
theorem w_resultSign_52 {p : Program} {l : Launch} {e : Env} {s : State} {m : MethodId} {args : Array Value} {below : List Frame} {meth : Method} {c : Code} {Q : State → Prop} {D : va_G} {cy ci : ClassId} {h : Nat → Nat} {A0 : Nat → Prop} {o : Int32 × MS} (X : CallFix p m c cX12_resultSign 2 s args wsX12_resultSign RX12) (hret : mRi p l e ({ frames := 0, cells := 0, slots := 0, locals := 0 } : Room) s m args below meth c Q cX12_resultSign D cy ci h A0 .char o) {t0 : Int32} {I : Nat → Int32} {A : Nat → Nat → Int32} {H : Heap} {locs : List Loc} {ls : Array Slot} (hf : f_resultSign_52 t0 I A = some o) (hM : mH D cy ci h A0 s H locs I A) (hl : lv_has ls 2 []) : W p l e ({ frames := 0, cells := 0, slots := 0, locals := 0 } : Room) s m args below meth c H locs 0 0 Q (F0 m 52 ls [.int t0]) := by
  obtain ⟨hx, hb, hml, hown, hts⟩ := id X
  unfold f_resultSign_52 at hf
  obtain ⟨cd, hf⟩ := m_chkE hf
  cases hf
  exact hret H locs _ ls hM (m_nc cd) dX12_resultSign_52
def f_resultSign_74 (t0 : Int32) (I : Nat → Int32) (A : Nat → Nat → Int32) : Option (Int32 × MS) :=
  m_chk (vp_nar .char t0 = t0) (some (t0, (I, A)))

set_option maxRecDepth 100000 in
set_option maxHeartbeats 4000000 in
theorem w_resultSign_74 {p : Program} {l : Launch} {e : Env} {s : State} {m : MethodId} {args : Array Value} {below : List Frame} {meth : Method} {c : Code} {Q : State → Prop} {D : va_G} {cy ci : ClassId} {h : Nat → Nat} {A0 : Nat → Prop} {o : Int32 × MS} (X : CallFix p m c cX12_resultSign 2 s args wsX12_resultSign RX12) (hret : mRi p l e ({ frames := 0, cells := 0, slots := 0, locals := 0 } : Room) s m args below meth c Q cX12_resultSign D cy ci h A0 .char o) {t0 : Int32} {I : Nat → Int32} {A : Nat → Nat → Int32} {H : Heap} {locs : List Loc} {ls : Array Slot} (hf : f_resultSign_74 t0 I A = some o) (hM : mH D cy ci h A0 s H locs I A) (hl : lv_has ls 2 []) : W p l e ({ frames := 0, cells := 0, slots := 0, locals := 0 } : Room) s m args below meth c H locs 0 0 Q (F0 m 74 ls [.int t0]) := by
  obtain ⟨hx, hb, hml, hown, hts⟩ := id X
  unfold f_resultSign_74 at hf
  obtain ⟨cd, hf⟩ := m_chkE hf
  cases hf
  exact hret H locs _ ls hM (m_nc cd) dX12_resultSign_74
def f_resultSign_116 (t0 : Int32) (I : Nat → Int32) (A : Nat → Nat → Int32) : Option (Int32 × MS) :=
  m_chk (vp_nar .char t0 = t0) (some (t0, (I, A)))

set_option maxRecDepth 100000 in
set_option maxHeartbeats 4000000 in
theorem w_resultSign_116 {p : Program} {l : Launch} {e : Env} {s : State} {m : MethodId} {args : Array Value} {below : List Frame} {meth : Method} {c : Code} {Q : State → Prop} {D : va_G} {cy ci : ClassId} {h : Nat → Nat} {A0 : Nat → Prop} {o : Int32 × MS} (X : CallFix p m c cX12_resultSign 2 s args wsX12_resultSign RX12) (hret : mRi p l e ({ frames := 0, cells := 0, slots := 0, locals := 0 } : Room) s m args below meth c Q cX12_resultSign D cy ci h A0 .char o) {t0 : Int32} {I : Nat → Int32} {A : Nat → Nat → Int32} {H : Heap} {locs : List Loc} {ls : Array Slot} (hf : f_resultSign_116 t0 I A = some o) (hM : mH D cy ci h A0 s H locs I A) (hl : lv_has ls 2 []) : W p l e ({ frames := 0, cells := 0, slots := 0, locals := 0 } : Room) s m args below meth c H locs 0 0 Q (F0 m 116 ls [.int t0]) := by
  obtain ⟨hx, hb, hml, hown, hts⟩ := id X
  unfold f_resultSign_116 at hf
  obtain ⟨cd, hf⟩ := m_chkE hf
  cases hf
  exact hret H locs _ ls hM (m_nc cd) dX12_resultSign_116
def f_resultSign_85 (I : Nat → Int32) (A : Nat → Nat → Int32) : Option (Int32 × MS) :=
  f_resultSign_116 (47 : Int32) I A

set_option maxRecDepth 100000 in
set_option maxHeartbeats 4000000 in
theorem w_resultSign_85 {p : Program} {l : Launch} {e : Env} {s : State} {m : MethodId} {args : Array Value} {below : List Frame} {meth : Method} {c : Code} {Q : State → Prop} {D : va_G} {cy ci : ClassId} {h : Nat → Nat} {A0 : Nat → Prop} {o : Int32 × MS} (X : CallFix p m c cX12_resultSign 2 s args wsX12_resultSign RX12) (hret : mRi p l e ({ frames := 0, cells := 0, slots := 0, locals := 0 } : Room) s m args below meth c Q cX12_resultSign D cy ci h A0 .char o) {I : Nat → Int32} {A : Nat → Nat → Int32} {H : Heap} {locs : List Loc} {ls : Array Slot} (hf : f_resultSign_85  I A = some o) (hM : mH D cy ci h A0 s H locs I A) (hl : lv_has ls 2 []) : W p l e ({ frames := 0, cells := 0, slots := 0, locals := 0 } : Room) s m args below meth c H locs 0 0 Q (F0 m 85 ls []) := by
  obtain ⟨hx, hb, hml, hown, hts⟩ := id X
  unfold f_resultSign_85 at hf
  refine lv_bipush (v := (47 : Int32)) hx hb dX12_resultSign_85 (by decide) ?_
  refine lv_goto (tgt := 116) hx hb dX12_resultSign_87 (by decide) ?_
  exact w_resultSign_116 X hret hf hM (lv_sub hl [] rfl)
def f_resultSign_109 (I : Nat → Int32) (A : Nat → Nat → Int32) : Option (Int32 × MS) :=
  f_resultSign_116 (49 : Int32) I A

set_option maxRecDepth 100000 in
set_option maxHeartbeats 4000000 in
theorem w_resultSign_109 {p : Program} {l : Launch} {e : Env} {s : State} {m : MethodId} {args : Array Value} {below : List Frame} {meth : Method} {c : Code} {Q : State → Prop} {D : va_G} {cy ci : ClassId} {h : Nat → Nat} {A0 : Nat → Prop} {o : Int32 × MS} (X : CallFix p m c cX12_resultSign 2 s args wsX12_resultSign RX12) (hret : mRi p l e ({ frames := 0, cells := 0, slots := 0, locals := 0 } : Room) s m args below meth c Q cX12_resultSign D cy ci h A0 .char o) {I : Nat → Int32} {A : Nat → Nat → Int32} {H : Heap} {locs : List Loc} {ls : Array Slot} (hf : f_resultSign_109  I A = some o) (hM : mH D cy ci h A0 s H locs I A) (hl : lv_has ls 2 []) : W p l e ({ frames := 0, cells := 0, slots := 0, locals := 0 } : Room) s m args below meth c H locs 0 0 Q (F0 m 109 ls []) := by
  obtain ⟨hx, hb, hml, hown, hts⟩ := id X
  unfold f_resultSign_109 at hf
  refine lv_bipush (v := (49 : Int32)) hx hb dX12_resultSign_109 (by decide) ?_
  refine lv_goto (tgt := 116) hx hb dX12_resultSign_111 (by decide) ?_
  exact w_resultSign_116 X hret hf hM (lv_sub hl [] rfl)
def f_resultSign_0 (x0 : Int32) (x1 : Int32) (I : Nat → Int32) (A : Nat → Nat → Int32) : Option (Int32 × MS) :=
  m_if (x0 = (0 : Int32)) (
  m_chk (vp_nar .char (42 : Int32) = (42 : Int32)) (some ((42 : Int32), (I, A)))
  ) (
  m_if (x0 = (1 : Int32)) (
  m_if (x1 = 0) (
  f_resultSign_52 (49 : Int32) I A
  ) (
  m_if (x1 = (1 : Int32)) (
  f_resultSign_52 (45 : Int32) I A
  ) (
  f_resultSign_52 (48 : Int32) I A
  )
  )
  ) (
  m_if (x0 = (2 : Int32)) (
  m_if (x1 = 0) (
  f_resultSign_74 (48 : Int32) I A
  ) (
  m_if (x1 = (1 : Int32)) (
  f_resultSign_74 (45 : Int32) I A
  ) (
  f_resultSign_74 (49 : Int32) I A
  )
  )
  ) (
  m_if (x1 = (1 : Int32)) (
  f_resultSign_85  I A
  ) (
  m_if (x1 = (5 : Int32)) (
  f_resultSign_85  I A
  ) (
  m_if (x1 = (3 : Int32)) (
  f_resultSign_116 (45 : Int32) I A
  ) (
  m_if (x1 = 0) (
  f_resultSign_109  I A
  ) (
  m_if (x1 = (4 : Int32)) (
  f_resultSign_109  I A
  ) (
  f_resultSign_116 (50 : Int32) I A
  )
  )
  )
  )
  )
  )))

set_option maxRecDepth 100000 in
set_option maxHeartbeats 4000000 in
theorem w_resultSign_0 {p : Program} {l : Launch} {e : Env} {s : State} {m : MethodId} {args : Array Value} {below : List Frame} {meth : Method} {c : Code} {Q : State → Prop} {D : va_G} {cy ci : ClassId} {h : Nat → Nat} {A0 : Nat → Prop} {o : Int32 × MS} (X : CallFix p m c cX12_resultSign 2 s args wsX12_resultSign RX12) (hret : mRi p l e ({ frames := 0, cells := 0, slots := 0, locals := 0 } : Room) s m args below meth c Q cX12_resultSign D cy ci h A0 .char o) {x0 : Int32} {x1 : Int32} {I : Nat → Int32} {A : Nat → Nat → Int32} {H : Heap} {locs : List Loc} {ls : Array Slot} (hf : f_resultSign_0 x0 x1 I A = some o) (hM : mH D cy ci h A0 s H locs I A) (hl : lv_has ls 2 [(0, .int x0), (1, .int x1)]) : W p l e ({ frames := 0, cells := 0, slots := 0, locals := 0 } : Room) s m args below meth c H locs 0 0 Q (F0 m 0 ls []) := by
  obtain ⟨hx, hb, hml, hown, hts⟩ := id X
  unfold f_resultSign_0 at hf
  refine lv_iload_n hx hb dX12_resultSign_0 rfl (lv_at hl 0 rfl) ?_
  by_cases ck0 : x0 = (0 : Int32)
  · replace hf := m_ifT hf ck0
    refine lv_tableIn (off := 27) (tgt := 28) hx hb dX12_resultSign_1 (by rw [ck0]; decide) (by rw [ck0]; decide) (by rw [ck0]; decide) (by decide) ?_
    refine lv_bipush (v := (42 : Int32)) hx hb dX12_resultSign_28 (by decide) ?_
    obtain ⟨cd, hf⟩ := m_chkE hf
    cases hf
    exact hret H locs _ ls hM (m_nc cd) dX12_resultSign_30
  · replace hf := m_ifF hf ck0
    by_cases ck1 : x0 = (1 : Int32)
    · replace hf := m_ifT hf ck1
      refine lv_tableIn (off := 30) (tgt := 31) hx hb dX12_resultSign_1 (by rw [ck1]; decide) (by rw [ck1]; decide) (by rw [ck1]; decide) (by decide) ?_
      refine lv_iload_n hx hb dX12_resultSign_31 rfl (lv_at hl 1 rfl) ?_
      refine lv_if_ne (tgt := 40) hx hb dX12_resultSign_32 (by decide) (fun cc1 => ?_) (fun cc1 => ?_)
      · replace hf := m_ifF hf cc1
        refine lv_iload_n hx hb dX12_resultSign_40 rfl (lv_at hl 1 rfl) ?_
        refine lv_iconst (v := (1 : Int32)) hx hb dX12_resultSign_41 (by decide) ?_
        refine lv_icmp_ne (tgt := 50) hx hb dX12_resultSign_42 (by decide) (fun cc1 => ?_) (fun cc1 => ?_)
        · replace hf := m_ifF hf cc1
          refine lv_bipush (v := (48 : Int32)) hx hb dX12_resultSign_50 (by decide) ?_
          exact w_resultSign_52 X hret hf hM (lv_sub hl [] rfl)
        · replace hf := m_ifT hf cc1
          refine lv_bipush (v := (45 : Int32)) hx hb dX12_resultSign_45 (by decide) ?_
          refine lv_goto (tgt := 52) hx hb dX12_resultSign_47 (by decide) ?_
          exact w_resultSign_52 X hret hf hM (lv_sub hl [] rfl)
      · replace hf := m_ifT hf cc1
        refine lv_bipush (v := (49 : Int32)) hx hb dX12_resultSign_35 (by decide) ?_
        refine lv_goto (tgt := 52) hx hb dX12_resultSign_37 (by decide) ?_
        exact w_resultSign_52 X hret hf hM (lv_sub hl [] rfl)
    · replace hf := m_ifF hf ck1
      by_cases ck2 : x0 = (2 : Int32)
      · replace hf := m_ifT hf ck2
        refine lv_tableIn (off := 52) (tgt := 53) hx hb dX12_resultSign_1 (by rw [ck2]; decide) (by rw [ck2]; decide) (by rw [ck2]; decide) (by decide) ?_
        refine lv_iload_n hx hb dX12_resultSign_53 rfl (lv_at hl 1 rfl) ?_
        refine lv_if_ne (tgt := 62) hx hb dX12_resultSign_54 (by decide) (fun cc1 => ?_) (fun cc1 => ?_)
        · replace hf := m_ifF hf cc1
          refine lv_iload_n hx hb dX12_resultSign_62 rfl (lv_at hl 1 rfl) ?_
          refine lv_iconst (v := (1 : Int32)) hx hb dX12_resultSign_63 (by decide) ?_
          refine lv_icmp_ne (tgt := 72) hx hb dX12_resultSign_64 (by decide) (fun cc1 => ?_) (fun cc1 => ?_)
          · replace hf := m_ifF hf cc1
            refine lv_bipush (v := (49 : Int32)) hx hb dX12_resultSign_72 (by decide) ?_
            exact w_resultSign_74 X hret hf hM (lv_sub hl [] rfl)
          · replace hf := m_ifT hf cc1
            refine lv_bipush (v := (45 : Int32)) hx hb dX12_resultSign_67 (by decide) ?_
            refine lv_goto (tgt := 74) hx hb dX12_resultSign_69 (by decide) ?_
            exact w_resultSign_74 X hret hf hM (lv_sub hl [] rfl)
        · replace hf := m_ifT hf cc1
          refine lv_bipush (v := (48 : Int32)) hx hb dX12_resultSign_57 (by decide) ?_
          refine lv_goto (tgt := 74) hx hb dX12_resultSign_59 (by decide) ?_
          exact w_resultSign_74 X hret hf hM (lv_sub hl [] rfl)
      · replace hf := m_ifF hf ck2
        refine m_tabD (tgt := 75) [(0 : Int32), (1 : Int32), (2 : Int32)] hx hb dX12_resultSign_1 (by decide) (by decide) (List.forall_mem_cons.mpr ⟨ck0, List.forall_mem_cons.mpr ⟨ck1, List.forall_mem_cons.mpr ⟨ck2, fun _ h9 => absurd h9 List.not_mem_nil⟩⟩⟩) (by decide) ?_
        refine lv_iload_n hx hb dX12_resultSign_75 rfl (lv_at hl 1 rfl) ?_
        refine lv_iconst (v := (1 : Int32)) hx hb dX12_resultSign_76 (by decide) ?_
        refine lv_icmp_eq (tgt := 85) hx hb dX12_resultSign_77 (by decide) (fun cc1 => ?_) (fun cc1 => ?_)
        · replace hf := m_ifT hf cc1
          exact w_resultSign_85 X hret hf hM (lv_sub hl [] rfl)
        · replace hf := m_ifF hf cc1
          refine lv_iload_n hx hb dX12_resultSign_80 rfl (lv_at hl 1 rfl) ?_
          refine lv_iconst (v := (5 : Int32)) hx hb dX12_resultSign_81 (by decide) ?_
          refine lv_icmp_ne (tgt := 90) hx hb dX12_resultSign_82 (by decide) (fun cc1 => ?_) (fun cc1 => ?_)
          · replace hf := m_ifF hf cc1
            refine lv_iload_n hx hb dX12_resultSign_90 rfl (lv_at hl 1 rfl) ?_
            refine lv_iconst (v := (3 : Int32)) hx hb dX12_resultSign_91 (by decide) ?_
            refine lv_icmp_ne (tgt := 100) hx hb dX12_resultSign_92 (by decide) (fun cc1 => ?_) (fun cc1 => ?_)
            · replace hf := m_ifF hf cc1
              refine lv_iload_n hx hb dX12_resultSign_100 rfl (lv_at hl 1 rfl) ?_
              refine lv_if_eq (tgt := 109) hx hb dX12_resultSign_101 (by decide) (fun cc1 => ?_) (fun cc1 => ?_)
              · replace hf := m_ifT hf cc1
                exact w_resultSign_109 X hret hf hM (lv_sub hl [] rfl)
              · replace hf := m_ifF hf cc1
                refine lv_iload_n hx hb dX12_resultSign_104 rfl (lv_at hl 1 rfl) ?_
                refine lv_iconst (v := (4 : Int32)) hx hb dX12_resultSign_105 (by decide) ?_
                refine lv_icmp_ne (tgt := 114) hx hb dX12_resultSign_106 (by decide) (fun cc1 => ?_) (fun cc1 => ?_)
                · replace hf := m_ifF hf cc1
                  refine lv_bipush (v := (50 : Int32)) hx hb dX12_resultSign_114 (by decide) ?_
                  exact w_resultSign_116 X hret hf hM (lv_sub hl [] rfl)
                · replace hf := m_ifT hf cc1
                  exact w_resultSign_109 X hret hf hM (lv_sub hl [] rfl)
            · replace hf := m_ifT hf cc1
              refine lv_bipush (v := (45 : Int32)) hx hb dX12_resultSign_95 (by decide) ?_
              refine lv_goto (tgt := 116) hx hb dX12_resultSign_97 (by decide) ?_
              exact w_resultSign_116 X hret hf hM (lv_sub hl [] rfl)
          · replace hf := m_ifT hf cc1
            exact w_resultSign_85 X hret hf hM (lv_sub hl [] rfl)
def f_resultSign (x0 : Int32) (x1 : Int32) (I : Nat → Int32) (A : Nat → Nat → Int32) : Option (Int32 × MS) := f_resultSign_0 x0 x1 I A
theorem c_resultSign {l : Launch} {D : va_G} {cy ci : ClassId} {h : Nat → Nat} {x0 : Int32} {x1 : Int32} {I : Nat → Int32} {A : Nat → Nat → Int32} {o : Int32 × MS} (hf : f_resultSign x0 x1 I A = some o) : mMi l yX12_resultSign wsX12_resultSign ({ frames := 0, cells := 0, slots := 0, locals := 0 } : Room) [.int x0, .int x1] D cy ci h I A o :=
  m_entryI (cc := cX12_resultSign) (maxL := 2) (by decide) rfl rfl (Nat.le_of_ble_eq_true rfl) (fun p e s m args below meth c A0 Q H locs ls X hret hM hl => w_resultSign_0 X hret hf hM (lv_sub hl [0, 1] rfl))
theorem hw_isResultValue : ∀ w ∈ wsX120, w ∈ wsX12_isResultValue := by decide +kernel
theorem fl_isResultValue_21 : Cond.fieldLink RX12 61 "MoveTextsModel" "valueSize" "[I" ∈ wsX12_isResultValue := by decide +kernel
theorem fl_isResultValue_22 : Cond.fieldLink RX12 64 "MoveTextsModel" "values" "[C" ∈ wsX12_isResultValue := by decide +kernel
theorem hd_isResultValue : yX12_isResultValue.cls = RX12 ∧ yX12_isResultValue.cls ≠ "java/lang/invoke/MethodHandle" ∧ yX12_isResultValue.cls ≠ "java/lang/invoke/VarHandle" ∧ (parseMethodDescriptor yX12_isResultValue.desc).map (fun d => d.parameters.length) = some 3 := by decide +kernel
def f_isResultValue_82 (x4 : Int32) (I : Nat → Int32) (A : Nat → Nat → Int32) : Option (Int32 × MS) :=
  m_chk (vp_nar .boolean x4 = x4) (some (x4, (I, A)))

set_option maxRecDepth 100000 in
set_option maxHeartbeats 4000000 in
theorem w_isResultValue_82 {p : Program} {l : Launch} {e : Env} {s : State} {m : MethodId} {args : Array Value} {below : List Frame} {meth : Method} {c : Code} {Q : State → Prop} {D : va_G} {cy ci : ClassId} {h : Nat → Nat} {A0 : Nat → Prop} {o : Int32 × MS} (X : CallFix p m c cX12_isResultValue 6 s args wsX12_isResultValue RX12) (hret : mRi p l e ({ frames := 1, cells := 0, slots := 0, locals := 21 } : Room) s m args below meth c Q cX12_isResultValue D cy ci h A0 .boolean o) {x4 : Int32} {I : Nat → Int32} {A : Nat → Nat → Int32} {H : Heap} {locs : List Loc} {ls : Array Slot} (hf : f_isResultValue_82 x4 I A = some o) (hM : mH D cy ci h A0 s H locs I A) (hl : lv_has ls 6 [(4, .int x4)]) : W p l e ({ frames := 1, cells := 0, slots := 0, locals := 21 } : Room) s m args below meth c H locs 0 0 Q (F0 m 82 ls []) := by
  obtain ⟨hx, hb, hml, hown, hts⟩ := id X
  unfold f_isResultValue_82 at hf
  refine lv_iload hx hb dX12_isResultValue_82 (lv_at hl 0 rfl) ?_
  obtain ⟨cd, hf⟩ := m_chkE hf
  cases hf
  exact hret H locs _ ls hM (m_nb cd) dX12_isResultValue_84
def f_isResultValue_74 (self28 : Int32 → Int32 → Int32 → Int32 → Int32 → (Nat → Int32) → (Nat → Nat → Int32) → Option (Int32 × MS)) (x1 : Int32) (x2 : Int32) (x3 : Int32) (x5 : Int32) (t0 : Int32) (I : Nat → Int32) (A : Nat → Nat → Int32) : Option (Int32 × MS) :=
  m_bnd (x5 + (1 : Int32)) (fun v1 =>
  self28 x1 x2 x3 t0 v1 I A)

set_option maxRecDepth 100000 in
set_option maxHeartbeats 4000000 in
theorem w_isResultValue_74 {p : Program} {l : Launch} {e : Env} {s : State} {m : MethodId} {args : Array Value} {below : List Frame} {meth : Method} {c : Code} {Q : State → Prop} {D : va_G} {cy ci : ClassId} {h : Nat → Nat} {A0 : Nat → Prop} {o : Int32 × MS} (X : CallFix p m c cX12_isResultValue 6 s args wsX12_isResultValue RX12) (hret : mRi p l e ({ frames := 1, cells := 0, slots := 0, locals := 21 } : Room) s m args below meth c Q cX12_isResultValue D cy ci h A0 .boolean o) {self28 : Int32 → Int32 → Int32 → Int32 → Int32 → (Nat → Int32) → (Nat → Nat → Int32) → Option (Int32 × MS)} (hself28 : ∀ (x1 : Int32) (x2 : Int32) (x3 : Int32) (x4 : Int32) (x5 : Int32) (I : Nat → Int32) (A : Nat → Nat → Int32) (H : Heap) (locs : List Loc) (ls : Array Slot), self28 x1 x2 x3 x4 x5 I A = some o → mH D cy ci h A0 s H locs I A → lv_has ls 6 [(0, .ref (h 0)), (1, .int x1), (2, .int x2), (3, .int x3), (4, .int x4), (5, .int x5)] → W p l e ({ frames := 1, cells := 0, slots := 0, locals := 21 } : Room) s m args below meth c H locs 0 0 Q (F0 m 28 ls [])) {x1 : Int32} {x2 : Int32} {x3 : Int32} {x5 : Int32} {t0 : Int32} {I : Nat → Int32} {A : Nat → Nat → Int32} {H : Heap} {locs : List Loc} {ls : Array Slot} (hf : f_isResultValue_74 self28 x1 x2 x3 x5 t0 I A = some o) (hM : mH D cy ci h A0 s H locs I A) (hl : lv_has ls 6 [(0, .ref (h 0)), (1, .int x1), (2, .int x2), (3, .int x3), (5, .int x5)]) : W p l e ({ frames := 1, cells := 0, slots := 0, locals := 21 } : Room) s m args below meth c H locs 0 0 Q (F0 m 74 ls [.int t0]) := by
  obtain ⟨hx, hb, hml, hown, hts⟩ := id X
  unfold f_isResultValue_74 at hf
  refine lv_istore (lv' := [(4, .int t0), (0, .ref (h 0)), (1, .int x1), (2, .int x2), (3, .int x3), (5, .int x5)]) hx hb dX12_isResultValue_74 hl (by decide) rfl (fun ls hl => ?_)
  obtain ⟨v1, ev, hf⟩ := m_bndE hf
  refine lv_iinc (v := v1) (lv' := [(5, .int v1), (4, .int t0), (0, .ref (h 0)), (1, .int x1), (2, .int x2), (3, .int x3)]) hx hb dX12_isResultValue_76 hl (k := 5) rfl (by rw [ev]; rfl) (by decide) rfl (fun ls hl => ?_)
  clear ev
  refine lv_goto (tgt := 28) hx hb dX12_isResultValue_79 (by decide) ?_
  exact hself28 _ _ _ _ _ _ _ _ _ _ hf hM (lv_sub hl [2, 3, 4, 5, 1, 0] rfl)
def f_isResultValue_28s (self28 : Int32 → Int32 → Int32 → Int32 → Int32 → (Nat → Int32) → (Nat → Nat → Int32) → Option (Int32 × MS)) (x1 : Int32) (x2 : Int32) (x3 : Int32) (x4 : Int32) (x5 : Int32) (I : Nat → Int32) (A : Nat → Nat → Int32) : Option (Int32 × MS) :=
  m_cl (f_resultSize x3 I A) (fun r1 Ic1 Ac1 =>
  m_if (r1 ≤ x5) (
  f_isResultValue_82 x4 Ic1 Ac1
  ) (
  m_if (x4 = 0) (
  f_isResultValue_82 x4 Ic1 Ac1
  ) (
  m_bnd ((768 : Int32) * x1) (fun v2 =>
  m_bnd ((96 : Int32) * x2) (fun v3 =>
  m_bnd (v2 + v3) (fun v4 =>
  m_bnd (v4 + x5) (fun v5 =>
  m_chk (¬ (v5 < 0 ∨ 1536 ≤ (v5).toNatClampNeg)) (
  m_bnd (Ac1 22 (v5).toNatClampNeg) (fun v6 =>
  m_cl (f_resultSign x3 x5 Ic1 Ac1) (fun r7 Ic7 Ac7 =>
  m_if (v6 = r7) (
  f_isResultValue_74 self28 x1 x2 x3 x5 (1 : Int32) Ic7 Ac7
  ) (
  f_isResultValue_74 self28 x1 x2 x3 x5 (0 : Int32) Ic7 Ac7
  ))))))))
  )
  ))

set_option maxRecDepth 100000 in
set_option maxHeartbeats 4000000 in
theorem ws_isResultValue_28 {p : Program} {l : Launch} {e : Env} {s : State} {m : MethodId} {args : Array Value} {below : List Frame} {meth : Method} {c : Code} {Q : State → Prop} {D : va_G} {cy ci : ClassId} {h : Nat → Nat} {A0 : Nat → Prop} {o : Int32 × MS} (X : CallFix p m c cX12_isResultValue 6 s args wsX12_isResultValue RX12) (hret : mRi p l e ({ frames := 1, cells := 0, slots := 0, locals := 21 } : Room) s m args below meth c Q cX12_isResultValue D cy ci h A0 .boolean o) {self28 : Int32 → Int32 → Int32 → Int32 → Int32 → (Nat → Int32) → (Nat → Nat → Int32) → Option (Int32 × MS)} (hself28 : ∀ (x1 : Int32) (x2 : Int32) (x3 : Int32) (x4 : Int32) (x5 : Int32) (I : Nat → Int32) (A : Nat → Nat → Int32) (H : Heap) (locs : List Loc) (ls : Array Slot), self28 x1 x2 x3 x4 x5 I A = some o → mH D cy ci h A0 s H locs I A → lv_has ls 6 [(0, .ref (h 0)), (1, .int x1), (2, .int x2), (3, .int x3), (4, .int x4), (5, .int x5)] → W p l e ({ frames := 1, cells := 0, slots := 0, locals := 21 } : Room) s m args below meth c H locs 0 0 Q (F0 m 28 ls [])) {x1 : Int32} {x2 : Int32} {x3 : Int32} {x4 : Int32} {x5 : Int32} {I : Nat → Int32} {A : Nat → Nat → Int32} {H : Heap} {locs : List Loc} {ls : Array Slot} (hf : f_isResultValue_28s self28 x1 x2 x3 x4 x5 I A = some o) (hM : mH D cy ci h A0 s H locs I A) (hl : lv_has ls 6 [(0, .ref (h 0)), (1, .int x1), (2, .int x2), (3, .int x3), (4, .int x4), (5, .int x5)]) : W p l e ({ frames := 1, cells := 0, slots := 0, locals := 21 } : Room) s m args below meth c H locs 0 0 Q (F0 m 28 ls []) := by
  obtain ⟨hx, hb, hml, hown, hts⟩ := id X
  unfold f_isResultValue_28s at hf
  refine lv_iload hx hb dX12_isResultValue_28 (lv_at hl 5 rfl) ?_
  refine lv_iload_n hx hb dX12_isResultValue_30 rfl (lv_at hl 3 rfl) ?_
  obtain ⟨o1, ho, hf⟩ := m_clE hf
  refine m_callSi X hM (c_resultSize ho) gX12_isResultValue_X12_resultSize rfl ⟨rfl, rfl⟩ hd_resultSize ⟨Nat.le_of_ble_eq_true rfl, Nat.le_of_ble_eq_true rfl⟩ rfl hl.1 rfl (Nat.le_of_ble_eq_true rfl) dX12_isResultValue_31 (fun H locs hM => ?_)
  clear ho
  refine lv_icmp_ge (tgt := 82) hx hb dX12_isResultValue_34 (by decide) (fun cc1 => ?_) (fun cc1 => ?_)
  · replace hf := m_ifT hf cc1
    exact w_isResultValue_82 X hret hf hM (lv_sub hl [4] rfl)
  · replace hf := m_ifF hf cc1
    refine lv_iload hx hb dX12_isResultValue_37 (lv_at hl 4 rfl) ?_
    refine lv_if_eq (tgt := 82) hx hb dX12_isResultValue_39 (by decide) (fun cc1 => ?_) (fun cc1 => ?_)
    · replace hf := m_ifT hf cc1
      exact w_isResultValue_82 X hret hf hM (lv_sub hl [4] rfl)
    · replace hf := m_ifF hf cc1
      refine lv_aload_n hx hb dX12_isResultValue_42 rfl (lv_at hl 0 rfl) ?_
      refine m_get (v := .ref (h 22)) X hw_isResultValue hM 22 (by decide) fl_isResultValue_22 rfl dX12_isResultValue_43 ?_
      refine lv_sipush (v := (768 : Int32)) hx hb dX12_isResultValue_46 (by decide) ?_
      refine lv_iload_n hx hb dX12_isResultValue_49 rfl (lv_at hl 1 rfl) ?_
      refine lv_imul hx hb dX12_isResultValue_50 ?_
      obtain ⟨v2, ev, hf⟩ := m_bndE hf
      refine m_top ev ?_
      clear ev
      refine lv_bipush (v := (96 : Int32)) hx hb dX12_isResultValue_51 (by decide) ?_
      refine lv_iload_n hx hb dX12_isResultValue_53 rfl (lv_at hl 2 rfl) ?_
      refine lv_imul hx hb dX12_isResultValue_54 ?_
      obtain ⟨v3, ev, hf⟩ := m_bndE hf
      refine m_top ev ?_
      clear ev
      refine lv_iadd hx hb dX12_isResultValue_55 ?_
      obtain ⟨v4, ev, hf⟩ := m_bndE hf
      refine m_top ev ?_
      clear ev
      refine lv_iload hx hb dX12_isResultValue_56 (lv_at hl 5 rfl) ?_
      refine lv_iadd hx hb dX12_isResultValue_58 ?_
      obtain ⟨v5, ev, hf⟩ := m_bndE hf
      refine m_top ev ?_
      clear ev
      obtain ⟨cd, hf⟩ := m_chkE hf
      refine m_cald X hM 22 18 1536 rfl cd dX12_isResultValue_59 ?_
      clear cd
      obtain ⟨v6, ev, hf⟩ := m_bndE hf
      refine m_top ev ?_
      clear ev
      refine lv_iload_n hx hb dX12_isResultValue_60 rfl (lv_at hl 3 rfl) ?_
      refine lv_iload hx hb dX12_isResultValue_61 (lv_at hl 5 rfl) ?_
      obtain ⟨o7, ho, hf⟩ := m_clE hf
      refine m_callSi X hM (c_resultSign ho) gX12_isResultValue_X12_resultSign rfl ⟨rfl, rfl⟩ hd_resultSign ⟨Nat.le_of_ble_eq_true rfl, Nat.le_of_ble_eq_true rfl⟩ rfl hl.1 rfl (Nat.le_of_ble_eq_true rfl) dX12_isResultValue_63 (fun H locs hM => ?_)
      clear ho
      refine lv_icmp_ne (tgt := 73) hx hb dX12_isResultValue_66 (by decide) (fun cc1 => ?_) (fun cc1 => ?_)
      · replace hf := m_ifF hf cc1
        refine lv_iconst (v := (0 : Int32)) hx hb dX12_isResultValue_73 (by decide) ?_
        exact w_isResultValue_74 X hret hself28 hf hM (lv_sub hl [0, 1, 2, 3, 5] rfl)
      · replace hf := m_ifT hf cc1
        refine lv_iconst (v := (1 : Int32)) hx hb dX12_isResultValue_69 (by decide) ?_
        refine lv_goto (tgt := 74) hx hb dX12_isResultValue_70 (by decide) ?_
        exact w_isResultValue_74 X hret hself28 hf hM (lv_sub hl [0, 1, 2, 3, 5] rfl)
def f_isResultValue_28 : Nat → Int32 → Int32 → Int32 → Int32 → Int32 → (Nat → Int32) → (Nat → Nat → Int32) → Option (Int32 × MS)
  | 0 => fun _ _ _ _ _ _ _ => none
  | n + 1 => f_isResultValue_28s (f_isResultValue_28 n)
theorem w_isResultValue_28 {p : Program} {l : Launch} {e : Env} {s : State} {m : MethodId} {args : Array Value} {below : List Frame} {meth : Method} {c : Code} {Q : State → Prop} {D : va_G} {cy ci : ClassId} {h : Nat → Nat} {A0 : Nat → Prop} {o : Int32 × MS} (X : CallFix p m c cX12_isResultValue 6 s args wsX12_isResultValue RX12) (hret : mRi p l e ({ frames := 1, cells := 0, slots := 0, locals := 21 } : Room) s m args below meth c Q cX12_isResultValue D cy ci h A0 .boolean o) (n : Nat) : ∀ (x1 : Int32) (x2 : Int32) (x3 : Int32) (x4 : Int32) (x5 : Int32) (I : Nat → Int32) (A : Nat → Nat → Int32) (H : Heap) (locs : List Loc) (ls : Array Slot), f_isResultValue_28 n x1 x2 x3 x4 x5 I A = some o → mH D cy ci h A0 s H locs I A → lv_has ls 6 [(0, .ref (h 0)), (1, .int x1), (2, .int x2), (3, .int x3), (4, .int x4), (5, .int x5)] → W p l e ({ frames := 1, cells := 0, slots := 0, locals := 21 } : Room) s m args below meth c H locs 0 0 Q (F0 m 28 ls []) := by
  induction n with
  | zero => intro x1 x2 x3 x4 x5 I A H locs ls hf; cases hf
  | succ n ih => intro x1 x2 x3 x4 x5 I A H locs ls hf hM hl; exact ws_isResultValue_28 X hret (self28 := f_isResultValue_28 n) ih hf hM hl
def f_isResultValue_23 (x1 : Int32) (x2 : Int32) (x3 : Int32) (t0 : Int32) (I : Nat → Int32) (A : Nat → Nat → Int32) : Option (Int32 × MS) :=
  f_isResultValue_28 mFuel x1 x2 x3 t0 (0 : Int32) I A

set_option maxRecDepth 100000 in
set_option maxHeartbeats 4000000 in
theorem w_isResultValue_23 {p : Program} {l : Launch} {e : Env} {s : State} {m : MethodId} {args : Array Value} {below : List Frame} {meth : Method} {c : Code} {Q : State → Prop} {D : va_G} {cy ci : ClassId} {h : Nat → Nat} {A0 : Nat → Prop} {o : Int32 × MS} (X : CallFix p m c cX12_isResultValue 6 s args wsX12_isResultValue RX12) (hret : mRi p l e ({ frames := 1, cells := 0, slots := 0, locals := 21 } : Room) s m args below meth c Q cX12_isResultValue D cy ci h A0 .boolean o) {x1 : Int32} {x2 : Int32} {x3 : Int32} {t0 : Int32} {I : Nat → Int32} {A : Nat → Nat → Int32} {H : Heap} {locs : List Loc} {ls : Array Slot} (hf : f_isResultValue_23 x1 x2 x3 t0 I A = some o) (hM : mH D cy ci h A0 s H locs I A) (hl : lv_has ls 6 [(0, .ref (h 0)), (1, .int x1), (2, .int x2), (3, .int x3)]) : W p l e ({ frames := 1, cells := 0, slots := 0, locals := 21 } : Room) s m args below meth c H locs 0 0 Q (F0 m 23 ls [.int t0]) := by
  obtain ⟨hx, hb, hml, hown, hts⟩ := id X
  unfold f_isResultValue_23 at hf
  refine lv_istore (lv' := [(4, .int t0), (0, .ref (h 0)), (1, .int x1), (2, .int x2), (3, .int x3)]) hx hb dX12_isResultValue_23 hl (by decide) rfl (fun ls hl => ?_)
  refine lv_iconst (v := (0 : Int32)) hx hb dX12_isResultValue_25 (by decide) ?_
  refine lv_istore (lv' := [(5, .int (0 : Int32)), (4, .int t0), (0, .ref (h 0)), (1, .int x1), (2, .int x2), (3, .int x3)]) hx hb dX12_isResultValue_26 hl (by decide) rfl (fun ls hl => ?_)
  exact w_isResultValue_28 X hret _ _ _ _ _ _ _ _ _ _ _ hf hM (lv_sub hl [2, 3, 4, 5, 1, 0] rfl)
def f_isResultValue_0 (x1 : Int32) (x2 : Int32) (x3 : Int32) (I : Nat → Int32) (A : Nat → Nat → Int32) : Option (Int32 × MS) :=
  m_bnd ((8 : Int32) * x1) (fun v1 =>
  m_bnd (v1 + x2) (fun v2 =>
  m_chk (¬ (v2 < 0 ∨ 16 ≤ (v2).toNatClampNeg)) (
  m_bnd (A 21 (v2).toNatClampNeg) (fun v3 =>
  m_cl (f_resultSize x3 I A) (fun r4 Ic4 Ac4 =>
  m_if (v3 = r4) (
  f_isResultValue_23 x1 x2 x3 (1 : Int32) Ic4 Ac4
  ) (
  f_isResultValue_23 x1 x2 x3 (0 : Int32) Ic4 Ac4
  ))))))

set_option maxRecDepth 100000 in
set_option maxHeartbeats 4000000 in
theorem w_isResultValue_0 {p : Program} {l : Launch} {e : Env} {s : State} {m : MethodId} {args : Array Value} {below : List Frame} {meth : Method} {c : Code} {Q : State → Prop} {D : va_G} {cy ci : ClassId} {h : Nat → Nat} {A0 : Nat → Prop} {o : Int32 × MS} (X : CallFix p m c cX12_isResultValue 6 s args wsX12_isResultValue RX12) (hret : mRi p l e ({ frames := 1, cells := 0, slots := 0, locals := 21 } : Room) s m args below meth c Q cX12_isResultValue D cy ci h A0 .boolean o) {x1 : Int32} {x2 : Int32} {x3 : Int32} {I : Nat → Int32} {A : Nat → Nat → Int32} {H : Heap} {locs : List Loc} {ls : Array Slot} (hf : f_isResultValue_0 x1 x2 x3 I A = some o) (hM : mH D cy ci h A0 s H locs I A) (hl : lv_has ls 6 [(0, .ref (h 0)), (1, .int x1), (2, .int x2), (3, .int x3)]) : W p l e ({ frames := 1, cells := 0, slots := 0, locals := 21 } : Room) s m args below meth c H locs 0 0 Q (F0 m 0 ls []) := by
  obtain ⟨hx, hb, hml, hown, hts⟩ := id X
  unfold f_isResultValue_0 at hf
  refine lv_aload_n hx hb dX12_isResultValue_0 rfl (lv_at hl 0 rfl) ?_
  refine m_get (v := .ref (h 21)) X hw_isResultValue hM 21 (by decide) fl_isResultValue_21 rfl dX12_isResultValue_1 ?_
  refine lv_bipush (v := (8 : Int32)) hx hb dX12_isResultValue_4 (by decide) ?_
  refine lv_iload_n hx hb dX12_isResultValue_6 rfl (lv_at hl 1 rfl) ?_
  refine lv_imul hx hb dX12_isResultValue_7 ?_
  obtain ⟨v1, ev, hf⟩ := m_bndE hf
  refine m_top ev ?_
  clear ev
  refine lv_iload_n hx hb dX12_isResultValue_8 rfl (lv_at hl 2 rfl) ?_
  refine lv_iadd hx hb dX12_isResultValue_9 ?_
  obtain ⟨v2, ev, hf⟩ := m_bndE hf
  refine m_top ev ?_
  clear ev
  obtain ⟨cd, hf⟩ := m_chkE hf
  refine m_iald X hM 21 17 16 rfl cd dX12_isResultValue_10 ?_
  clear cd
  obtain ⟨v3, ev, hf⟩ := m_bndE hf
  refine m_top ev ?_
  clear ev
  refine lv_iload_n hx hb dX12_isResultValue_11 rfl (lv_at hl 3 rfl) ?_
  obtain ⟨o4, ho, hf⟩ := m_clE hf
  refine m_callSi X hM (c_resultSize ho) gX12_isResultValue_X12_resultSize rfl ⟨rfl, rfl⟩ hd_resultSize ⟨Nat.le_of_ble_eq_true rfl, Nat.le_of_ble_eq_true rfl⟩ rfl hl.1 rfl (Nat.le_of_ble_eq_true rfl) dX12_isResultValue_12 (fun H locs hM => ?_)
  clear ho
  refine lv_icmp_ne (tgt := 22) hx hb dX12_isResultValue_15 (by decide) (fun cc1 => ?_) (fun cc1 => ?_)
  · replace hf := m_ifF hf cc1
    refine lv_iconst (v := (0 : Int32)) hx hb dX12_isResultValue_22 (by decide) ?_
    exact w_isResultValue_23 X hret hf hM (lv_sub hl [0, 1, 2, 3] rfl)
  · replace hf := m_ifT hf cc1
    refine lv_iconst (v := (1 : Int32)) hx hb dX12_isResultValue_18 (by decide) ?_
    refine lv_goto (tgt := 23) hx hb dX12_isResultValue_19 (by decide) ?_
    exact w_isResultValue_23 X hret hf hM (lv_sub hl [0, 1, 2, 3] rfl)
def f_isResultValue (x1 : Int32) (x2 : Int32) (x3 : Int32) (I : Nat → Int32) (A : Nat → Nat → Int32) : Option (Int32 × MS) := f_isResultValue_0 x1 x2 x3 I A
theorem c_isResultValue {l : Launch} {D : va_G} {cy ci : ClassId} {h : Nat → Nat} {x1 : Int32} {x2 : Int32} {x3 : Int32} {I : Nat → Int32} {A : Nat → Nat → Int32} {o : Int32 × MS} (hf : f_isResultValue x1 x2 x3 I A = some o) : mMi l yX12_isResultValue wsX12_isResultValue ({ frames := 1, cells := 0, slots := 0, locals := 21 } : Room) [.ref (h 0), .int x1, .int x2, .int x3] D cy ci h I A o :=
  m_entryI (cc := cX12_isResultValue) (maxL := 6) (by decide) rfl rfl (Nat.le_of_ble_eq_true rfl) (fun p e s m args below meth c A0 Q H locs ls X hret hM hl => w_isResultValue_0 X hret hf hM (lv_sub hl [0, 1, 2, 3] rfl))
theorem hw_readGame : ∀ w ∈ wsX120, w ∈ wsX12_readGame := by decide +kernel
theorem fl_readGame_1 : Cond.fieldLink RX12 270 "MoveTextsModel" "typed" "I" ∈ wsX12_readGame := by decide +kernel
theorem fl_readGame_18 : Cond.fieldLink RX12 52 "MoveTextsModel" "tagCount" "[I" ∈ wsX12_readGame := by decide +kernel
theorem fl_readGame_23 : Cond.fieldLink RX12 67 "MoveTextsModel" "results" "[I" ∈ wsX12_readGame := by decide +kernel
theorem fl_readGame_37 : Cond.fieldLink RX12 267 "MoveTextsModel" "at" "I" ∈ wsX12_readGame := by decide +kernel
theorem hd_readGame : yX12_readGame.cls = RX12 ∧ yX12_readGame.cls ≠ "java/lang/invoke/MethodHandle" ∧ yX12_readGame.cls ≠ "java/lang/invoke/VarHandle" ∧ (parseMethodDescriptor yX12_readGame.desc).map (fun d => d.parameters.length) = some 1 := by decide +kernel
def f_readGame_185 (t0 : Int32) (I : Nat → Int32) (A : Nat → Nat → Int32) : Option (Int32 × MS) :=
  some (t0, (I, A))

set_option maxRecDepth 100000 in
set_option maxHeartbeats 4000000 in
theorem w_readGame_185 {p : Program} {l : Launch} {e : Env} {s : State} {m : MethodId} {args : Array Value} {below : List Frame} {meth : Method} {c : Code} {Q : State → Prop} {D : va_G} {cy ci : ClassId} {h : Nat → Nat} {A0 : Nat → Prop} {o : Int32 × MS} (X : CallFix p m c cX12_readGame 5 s args wsX12_readGame RX12) (hret : mRi p l e ({ frames := 18, cells := 0, slots := 0, locals := 477 } : Room) s m args below meth c Q cX12_readGame D cy ci h A0 .int o) {t0 : Int32} {I : Nat → Int32} {A : Nat → Nat → Int32} {H : Heap} {locs : List Loc} {ls : Array Slot} (hf : f_readGame_185 t0 I A = some o) (hM : mH D cy ci h A0 s H locs I A) (hl : lv_has ls 5 []) : W p l e ({ frames := 18, cells := 0, slots := 0, locals := 477 } : Room) s m args below meth c H locs 0 0 Q (F0 m 185 ls [.int t0]) := by
  obtain ⟨hx, hb, hml, hown, hts⟩ := id X
  unfold f_readGame_185 at hf
  cases hf
  exact hret H locs _ ls hM rfl dX12_readGame_185
def f_readGame_154 (t0 : Int32) (t1 : Int32) (I : Nat → Int32) (A : Nat → Nat → Int32) : Option (Int32 × MS) :=
  m_bnd (t1 + t0) (fun v1 =>
  m_bnd (upd I 37 v1) (fun I2 =>
  m_cl (f_blanks  I2 A) (fun r3 Ic3 Ac3 =>
  m_if ((Ic3 1) ≤ (Ic3 37)) (
  f_readGame_185 (0 : Int32) Ic3 Ac3
  ) (
  m_cl (f_fault (1 : Int32) (Ic3 37) Ic3 Ac3) (fun r4 Ic4 Ac4 =>
  f_readGame_185 r4 Ic4 Ac4)
  ))))

set_option maxRecDepth 100000 in
set_option maxHeartbeats 4000000 in
theorem w_readGame_154 {p : Program} {l : Launch} {e : Env} {s : State} {m : MethodId} {args : Array Value} {below : List Frame} {meth : Method} {c : Code} {Q : State → Prop} {D : va_G} {cy ci : ClassId} {h : Nat → Nat} {A0 : Nat → Prop} {o : Int32 × MS} (X : CallFix p m c cX12_readGame 5 s args wsX12_readGame RX12) (hret : mRi p l e ({ frames := 18, cells := 0, slots := 0, locals := 477 } : Room) s m args below meth c Q cX12_readGame D cy ci h A0 .int o) {t0 : Int32} {t1 : Int32} {I : Nat → Int32} {A : Nat → Nat → Int32} {H : Heap} {locs : List Loc} {ls : Array Slot} (hf : f_readGame_154 t0 t1 I A = some o) (hM : mH D cy ci h A0 s H locs I A) (hl : lv_has ls 5 [(0, .ref (h 0))]) : W p l e ({ frames := 18, cells := 0, slots := 0, locals := 477 } : Room) s m args below meth c H locs 0 0 Q (F0 m 154 ls [.int t0, .int t1, .ref (h 0)]) := by
  obtain ⟨hx, hb, hml, hown, hts⟩ := id X
  unfold f_readGame_154 at hf
  refine lv_iadd hx hb dX12_readGame_154 ?_
  obtain ⟨v1, ev, hf⟩ := m_bndE hf
  refine m_top ev ?_
  clear ev
  refine m_put X hw_readGame hM 37 (by decide) fl_readGame_37 mi_37 rfl (tyX12_ok 37 (by decide)) dX12_readGame_155 (fun H locs hM => ?_)
  obtain ⟨I2, ev, hf⟩ := m_bndE hf
  replace hM := m_hI hM ev
  clear ev
  refine lv_aload_n hx hb dX12_readGame_158 rfl (lv_at hl 0 rfl) ?_
  obtain ⟨o3, ho, hf⟩ := m_clE hf
  refine m_callVv X hM (c_blanks ho) gX12_readGame_X12_blanks rfl ⟨rfl, rfl⟩ hd_blanks ⟨Nat.le_of_ble_eq_true rfl, Nat.le_of_ble_eq_true rfl⟩ rfl hl.1 rfl (Nat.le_of_ble_eq_true rfl) dX12_readGame_159 (fun H locs hM => ?_)
  clear ho
  refine lv_aload_n hx hb dX12_readGame_162 rfl (lv_at hl 0 rfl) ?_
  refine m_get (v := .int (o3.2.1 37)) X hw_readGame hM 37 (by decide) fl_readGame_37 rfl dX12_readGame_163 ?_
  refine lv_aload_n hx hb dX12_readGame_166 rfl (lv_at hl 0 rfl) ?_
  refine m_get (v := .int (o3.2.1 1)) X hw_readGame hM 1 (by decide) fl_readGame_1 rfl dX12_readGame_167 ?_
  refine lv_icmp_ge (tgt := 184) hx hb dX12_readGame_170 (by decide) (fun cc1 => ?_) (fun cc1 => ?_)
  · replace hf := m_ifT hf cc1
    refine lv_iconst (v := (0 : Int32)) hx hb dX12_readGame_184 (by decide) ?_
    exact w_readGame_185 X hret hf hM (lv_sub hl [] rfl)
  · replace hf := m_ifF hf cc1
    refine lv_iconst (v := (1 : Int32)) hx hb dX12_readGame_173 (by decide) ?_
    refine lv_aload_n hx hb dX12_readGame_174 rfl (lv_at hl 0 rfl) ?_
    refine m_get (v := .int (o3.2.1 37)) X hw_readGame hM 37 (by decide) fl_readGame_37 rfl dX12_readGame_175 ?_
    obtain ⟨o4, ho, hf⟩ := m_clE hf
    refine m_callSi X hM (c_fault ho) gX12_readGame_X12_fault rfl ⟨rfl, rfl⟩ hd_fault ⟨Nat.le_of_ble_eq_true rfl, Nat.le_of_ble_eq_true rfl⟩ rfl hl.1 rfl (Nat.le_of_ble_eq_true rfl) dX12_readGame_178 (fun H locs hM => ?_)
    clear ho
    refine lv_goto (tgt := 185) hx hb dX12_readGame_181 (by decide) ?_
    exact w_readGame_185 X hret hf hM (lv_sub hl [] rfl)
def f_readGame_117 (self74 : Int32 → Int32 → Int32 → (Nat → Int32) → (Nat → Nat → Int32) → Option (Int32 × MS)) (x1 : Int32) (x3 : Int32) (x4 : Int32) (I : Nat → Int32) (A : Nat → Nat → Int32) : Option (Int32 × MS) :=
  m_bnd (x4 + (1 : Int32)) (fun v1 =>
  self74 x1 x3 v1 I A)

set_option maxRecDepth 100000 in
set_option maxHeartbeats 4000000 in
theorem w_readGame_117 {p : Program} {l : Launch} {e : Env} {s : State} {m : MethodId} {args : Array Value} {below : List Frame} {meth : Method} {c : Code} {Q : State → Prop} {D : va_G} {cy ci : ClassId} {h : Nat → Nat} {A0 : Nat → Prop} {o : Int32 × MS} (X : CallFix p m c cX12_readGame 5 s args wsX12_readGame RX12) (hret : mRi p l e ({ frames := 18, cells := 0, slots := 0, locals := 477 } : Room) s m args below meth c Q cX12_readGame D cy ci h A0 .int o) {self74 : Int32 → Int32 → Int32 → (Nat → Int32) → (Nat → Nat → Int32) → Option (Int32 × MS)} (hself74 : ∀ (x1 : Int32) (x3 : Int32) (x4 : Int32) (I : Nat → Int32) (A : Nat → Nat → Int32) (H : Heap) (locs : List Loc) (ls : Array Slot), self74 x1 x3 x4 I A = some o → mH D cy ci h A0 s H locs I A → lv_has ls 5 [(0, .ref (h 0)), (1, .int x1), (3, .int x3), (4, .int x4)] → W p l e ({ frames := 18, cells := 0, slots := 0, locals := 477 } : Room) s m args below meth c H locs 0 0 Q (F0 m 74 ls [])) {x1 : Int32} {x3 : Int32} {x4 : Int32} {I : Nat → Int32} {A : Nat → Nat → Int32} {H : Heap} {locs : List Loc} {ls : Array Slot} (hf : f_readGame_117 self74 x1 x3 x4 I A = some o) (hM : mH D cy ci h A0 s H locs I A) (hl : lv_has ls 5 [(0, .ref (h 0)), (1, .int x1), (3, .int x3), (4, .int x4)]) : W p l e ({ frames := 18, cells := 0, slots := 0, locals := 477 } : Room) s m args below meth c H locs 0 0 Q (F0 m 117 ls []) := by
  obtain ⟨hx, hb, hml, hown, hts⟩ := id X
  unfold f_readGame_117 at hf
  obtain ⟨v1, ev, hf⟩ := m_bndE hf
  refine lv_iinc (v := v1) (lv' := [(4, .int v1), (0, .ref (h 0)), (1, .int x1), (3, .int x3)]) hx hb dX12_readGame_117 hl (k := 3) rfl (by rw [ev]; rfl) (by decide) rfl (fun ls hl => ?_)
  clear ev
  refine lv_goto (tgt := 74) hx hb dX12_readGame_120 (by decide) ?_
  exact hself74 _ _ _ _ _ _ _ _ hf hM (lv_sub hl [1, 2, 3, 0] rfl)
def f_readGame_74s (self74 : Int32 → Int32 → Int32 → (Nat → Int32) → (Nat → Nat → Int32) → Option (Int32 × MS)) (x1 : Int32) (x3 : Int32) (x4 : Int32) (I : Nat → Int32) (A : Nat → Nat → Int32) : Option (Int32 × MS) :=
  m_chk (¬ (x1 < 0 ∨ 2 ≤ (x1).toNatClampNeg)) (
  m_bnd (A 18 (x1).toNatClampNeg) (fun v1 =>
  m_if (v1 ≤ x4) (
  m_chk (¬ (x1 < 0 ∨ 2 ≤ (x1).toNatClampNeg)) (
  m_bnd (va_up A 23 (upd (A 23) (x1).toNatClampNeg x3)) (fun A2 =>
  m_if (x3 = 0) (
  f_readGame_154 (1 : Int32) (I 37) I A2
  ) (
  m_if (x3 = (3 : Int32)) (
  f_readGame_154 (7 : Int32) (I 37) I A2
  ) (
  f_readGame_154 (3 : Int32) (I 37) I A2
  )
  )))
  ) (
  m_cl (f_isTag x4 x1 (1 : Int32) I A) (fun r3 Ic3 Ac3 =>
  m_if (r3 = 0) (
  f_readGame_117 self74 x1 x3 x4 Ic3 Ac3
  ) (
  m_cl (f_isResultValue x1 x4 x3 Ic3 Ac3) (fun r4 Ic4 Ac4 =>
  m_if (r4 = 0) (
  m_cl (f_fault (9 : Int32) (Ic4 37) Ic4 Ac4) (fun r5 Ic5 Ac5 =>
  some (r5, (Ic5, Ac5)))
  ) (
  f_readGame_117 self74 x1 x3 x4 Ic4 Ac4
  ))
  ))
  )))

set_option maxRecDepth 100000 in
set_option maxHeartbeats 4000000 in
theorem ws_readGame_74 {p : Program} {l : Launch} {e : Env} {s : State} {m : MethodId} {args : Array Value} {below : List Frame} {meth : Method} {c : Code} {Q : State → Prop} {D : va_G} {cy ci : ClassId} {h : Nat → Nat} {A0 : Nat → Prop} {o : Int32 × MS} (X : CallFix p m c cX12_readGame 5 s args wsX12_readGame RX12) (hret : mRi p l e ({ frames := 18, cells := 0, slots := 0, locals := 477 } : Room) s m args below meth c Q cX12_readGame D cy ci h A0 .int o) {self74 : Int32 → Int32 → Int32 → (Nat → Int32) → (Nat → Nat → Int32) → Option (Int32 × MS)} (hself74 : ∀ (x1 : Int32) (x3 : Int32) (x4 : Int32) (I : Nat → Int32) (A : Nat → Nat → Int32) (H : Heap) (locs : List Loc) (ls : Array Slot), self74 x1 x3 x4 I A = some o → mH D cy ci h A0 s H locs I A → lv_has ls 5 [(0, .ref (h 0)), (1, .int x1), (3, .int x3), (4, .int x4)] → W p l e ({ frames := 18, cells := 0, slots := 0, locals := 477 } : Room) s m args below meth c H locs 0 0 Q (F0 m 74 ls [])) {x1 : Int32} {x3 : Int32} {x4 : Int32} {I : Nat → Int32} {A : Nat → Nat → Int32} {H : Heap} {locs : List Loc} {ls : Array Slot} (hf : f_readGame_74s self74 x1 x3 x4 I A = some o) (hM : mH D cy ci h A0 s H locs I A) (hl : lv_has ls 5 [(0, .ref (h 0)), (1, .int x1), (3, .int x3), (4, .int x4)]) : W p l e ({ frames := 18, cells := 0, slots := 0, locals := 477 } : Room) s m args below meth c H locs 0 0 Q (F0 m 74 ls []) := by
  obtain ⟨hx, hb, hml, hown, hts⟩ := id X
  unfold f_readGame_74s at hf
  refine lv_iload hx hb dX12_readGame_74 (lv_at hl 3 rfl) ?_
  refine lv_aload_n hx hb dX12_readGame_76 rfl (lv_at hl 0 rfl) ?_
  refine m_get (v := .ref (h 18)) X hw_readGame hM 18 (by decide) fl_readGame_18 rfl dX12_readGame_77 ?_
  refine lv_iload_n hx hb dX12_readGame_80 rfl (lv_at hl 1 rfl) ?_
  obtain ⟨cd, hf⟩ := m_chkE hf
  refine m_iald X hM 18 14 2 rfl cd dX12_readGame_81 ?_
  clear cd
  obtain ⟨v1, ev, hf⟩ := m_bndE hf
  refine m_top ev ?_
  clear ev
  refine lv_icmp_ge (tgt := 123) hx hb dX12_readGame_82 (by decide) (fun cc1 => ?_) (fun cc1 => ?_)
  · replace hf := m_ifT hf cc1
    refine lv_aload_n hx hb dX12_readGame_123 rfl (lv_at hl 0 rfl) ?_
    refine m_get (v := .ref (h 23)) X hw_readGame hM 23 (by decide) fl_readGame_23 rfl dX12_readGame_124 ?_
    refine lv_iload_n hx hb dX12_readGame_127 rfl (lv_at hl 1 rfl) ?_
    refine lv_iload_n hx hb dX12_readGame_128 rfl (lv_at hl 2 rfl) ?_
    obtain ⟨cd, hf⟩ := m_chkE hf
    refine m_iast X hM 23 19 2 rfl ma_23 cd dX12_readGame_129 (fun H locs hM => ?_)
    clear cd
    obtain ⟨A2, ev, hf⟩ := m_bndE hf
    replace hM := m_hA hM ev
    clear ev
    refine lv_aload_n hx hb dX12_readGame_130 rfl (lv_at hl 0 rfl) ?_
    refine lv_aload_n hx hb dX12_readGame_131 rfl (lv_at hl 0 rfl) ?_
    refine m_get (v := .int (I 37)) X hw_readGame hM 37 (by decide) fl_readGame_37 rfl dX12_readGame_132 ?_
    refine lv_iload_n hx hb dX12_readGame_135 rfl (lv_at hl 2 rfl) ?_
    refine lv_if_ne (tgt := 143) hx hb dX12_readGame_136 (by decide) (fun cc1 => ?_) (fun cc1 => ?_)
    · replace hf := m_ifF hf cc1
      refine lv_iload_n hx hb dX12_readGame_143 rfl (lv_at hl 2 rfl) ?_
      refine lv_iconst (v := (3 : Int32)) hx hb dX12_readGame_144 (by decide) ?_
      refine lv_icmp_ne (tgt := 153) hx hb dX12_readGame_145 (by decide) (fun cc1 => ?_) (fun cc1 => ?_)
      · replace hf := m_ifF hf cc1
        refine lv_iconst (v := (3 : Int32)) hx hb dX12_readGame_153 (by decide) ?_
        exact w_readGame_154 X hret hf hM (lv_sub hl [0] rfl)
      · replace hf := m_ifT hf cc1
        refine lv_bipush (v := (7 : Int32)) hx hb dX12_readGame_148 (by decide) ?_
        refine lv_goto (tgt := 154) hx hb dX12_readGame_150 (by decide) ?_
        exact w_readGame_154 X hret hf hM (lv_sub hl [0] rfl)
    · replace hf := m_ifT hf cc1
      refine lv_iconst (v := (1 : Int32)) hx hb dX12_readGame_139 (by decide) ?_
      refine lv_goto (tgt := 154) hx hb dX12_readGame_140 (by decide) ?_
      exact w_readGame_154 X hret hf hM (lv_sub hl [0] rfl)
  · replace hf := m_ifF hf cc1
    refine lv_aload_n hx hb dX12_readGame_85 rfl (lv_at hl 0 rfl) ?_
    refine lv_iload hx hb dX12_readGame_86 (lv_at hl 3 rfl) ?_
    refine lv_iload_n hx hb dX12_readGame_88 rfl (lv_at hl 1 rfl) ?_
    refine lv_iconst (v := (1 : Int32)) hx hb dX12_readGame_89 (by decide) ?_
    obtain ⟨o3, ho, hf⟩ := m_clE hf
    refine m_callVi X hM (c_isTag ho) gX12_readGame_X12_isTag rfl ⟨rfl, rfl⟩ hd_isTag ⟨Nat.le_of_ble_eq_true rfl, Nat.le_of_ble_eq_true rfl⟩ rfl hl.1 rfl (Nat.le_of_ble_eq_true rfl) dX12_readGame_90 (fun H locs hM => ?_)
    clear ho
    refine lv_if_eq (tgt := 117) hx hb dX12_readGame_93 (by decide) (fun cc1 => ?_) (fun cc1 => ?_)
    · replace hf := m_ifT hf cc1
      exact w_readGame_117 X hret hself74 hf hM (lv_sub hl [0, 1, 2, 3] rfl)
    · replace hf := m_ifF hf cc1
      refine lv_aload_n hx hb dX12_readGame_96 rfl (lv_at hl 0 rfl) ?_
      refine lv_iload_n hx hb dX12_readGame_97 rfl (lv_at hl 1 rfl) ?_
      refine lv_iload hx hb dX12_readGame_98 (lv_at hl 3 rfl) ?_
      refine lv_iload_n hx hb dX12_readGame_100 rfl (lv_at hl 2 rfl) ?_
      obtain ⟨o4, ho, hf⟩ := m_clE hf
      refine m_callVi X hM (c_isResultValue ho) gX12_readGame_X12_isResultValue rfl ⟨rfl, rfl⟩ hd_isResultValue ⟨Nat.le_of_ble_eq_true rfl, Nat.le_of_ble_eq_true rfl⟩ rfl hl.1 rfl (Nat.le_of_ble_eq_true rfl) dX12_readGame_101 (fun H locs hM => ?_)
      clear ho
      refine lv_if_ne (tgt := 117) hx hb dX12_readGame_104 (by decide) (fun cc1 => ?_) (fun cc1 => ?_)
      · replace hf := m_ifF hf cc1
        exact w_readGame_117 X hret hself74 hf hM (lv_sub hl [0, 1, 2, 3] rfl)
      · replace hf := m_ifT hf cc1
        refine lv_bipush (v := (9 : Int32)) hx hb dX12_readGame_107 (by decide) ?_
        refine lv_aload_n hx hb dX12_readGame_109 rfl (lv_at hl 0 rfl) ?_
        refine m_get (v := .int (o4.2.1 37)) X hw_readGame hM 37 (by decide) fl_readGame_37 rfl dX12_readGame_110 ?_
        obtain ⟨o5, ho, hf⟩ := m_clE hf
        refine m_callSi X hM (c_fault ho) gX12_readGame_X12_fault rfl ⟨rfl, rfl⟩ hd_fault ⟨Nat.le_of_ble_eq_true rfl, Nat.le_of_ble_eq_true rfl⟩ rfl hl.1 rfl (Nat.le_of_ble_eq_true rfl) dX12_readGame_113 (fun H locs hM => ?_)
        clear ho
        cases hf
        exact hret H locs _ ls hM rfl dX12_readGame_116
def f_readGame_74 : Nat → Int32 → Int32 → Int32 → (Nat → Int32) → (Nat → Nat → Int32) → Option (Int32 × MS)
  | 0 => fun _ _ _ _ _ => none
  | n + 1 => f_readGame_74s (f_readGame_74 n)
theorem w_readGame_74 {p : Program} {l : Launch} {e : Env} {s : State} {m : MethodId} {args : Array Value} {below : List Frame} {meth : Method} {c : Code} {Q : State → Prop} {D : va_G} {cy ci : ClassId} {h : Nat → Nat} {A0 : Nat → Prop} {o : Int32 × MS} (X : CallFix p m c cX12_readGame 5 s args wsX12_readGame RX12) (hret : mRi p l e ({ frames := 18, cells := 0, slots := 0, locals := 477 } : Room) s m args below meth c Q cX12_readGame D cy ci h A0 .int o) (n : Nat) : ∀ (x1 : Int32) (x3 : Int32) (x4 : Int32) (I : Nat → Int32) (A : Nat → Nat → Int32) (H : Heap) (locs : List Loc) (ls : Array Slot), f_readGame_74 n x1 x3 x4 I A = some o → mH D cy ci h A0 s H locs I A → lv_has ls 5 [(0, .ref (h 0)), (1, .int x1), (3, .int x3), (4, .int x4)] → W p l e ({ frames := 18, cells := 0, slots := 0, locals := 477 } : Room) s m args below meth c H locs 0 0 Q (F0 m 74 ls []) := by
  induction n with
  | zero => intro x1 x3 x4 I A H locs ls hf; cases hf
  | succ n ih => intro x1 x3 x4 I A H locs ls hf hM hl; exact ws_readGame_74 X hret (self74 := f_readGame_74 n) ih hf hM hl
def f_readGame_59 (x1 : Int32) (t0 : Int32) (I : Nat → Int32) (A : Nat → Nat → Int32) : Option (Int32 × MS) :=
  m_if (t0 ≤ 0) (
  m_cl (f_resultHere  I A) (fun r1 Ic1 Ac1 =>
  f_readGame_74 mFuel x1 r1 (0 : Int32) Ic1 Ac1)
  ) (
  some (t0, (I, A))
  )

set_option maxRecDepth 100000 in
set_option maxHeartbeats 4000000 in
theorem w_readGame_59 {p : Program} {l : Launch} {e : Env} {s : State} {m : MethodId} {args : Array Value} {below : List Frame} {meth : Method} {c : Code} {Q : State → Prop} {D : va_G} {cy ci : ClassId} {h : Nat → Nat} {A0 : Nat → Prop} {o : Int32 × MS} (X : CallFix p m c cX12_readGame 5 s args wsX12_readGame RX12) (hret : mRi p l e ({ frames := 18, cells := 0, slots := 0, locals := 477 } : Room) s m args below meth c Q cX12_readGame D cy ci h A0 .int o) {x1 : Int32} {t0 : Int32} {I : Nat → Int32} {A : Nat → Nat → Int32} {H : Heap} {locs : List Loc} {ls : Array Slot} (hf : f_readGame_59 x1 t0 I A = some o) (hM : mH D cy ci h A0 s H locs I A) (hl : lv_has ls 5 [(0, .ref (h 0)), (1, .int x1)]) : W p l e ({ frames := 18, cells := 0, slots := 0, locals := 477 } : Room) s m args below meth c H locs 0 0 Q (F0 m 59 ls [.int t0]) := by
  obtain ⟨hx, hb, hml, hown, hts⟩ := id X
  unfold f_readGame_59 at hf
  refine lv_istore_n (lv' := [(2, .int t0), (0, .ref (h 0)), (1, .int x1)]) hx hb dX12_readGame_59 rfl hl (by decide) rfl (fun ls hl => ?_)
  refine lv_iload_n hx hb dX12_readGame_60 rfl (lv_at hl 0 rfl) ?_
  refine lv_if_le (tgt := 66) hx hb dX12_readGame_61 (by decide) (fun cc1 => ?_) (fun cc1 => ?_)
  · replace hf := m_ifT hf cc1
    refine lv_aload_n hx hb dX12_readGame_66 rfl (lv_at hl 1 rfl) ?_
    obtain ⟨o1, ho, hf⟩ := m_clE hf
    refine m_callVi X hM (c_resultHere ho) gX12_readGame_X12_resultHere rfl ⟨rfl, rfl⟩ hd_resultHere ⟨Nat.le_of_ble_eq_true rfl, Nat.le_of_ble_eq_true rfl⟩ rfl hl.1 rfl (Nat.le_of_ble_eq_true rfl) dX12_readGame_67 (fun H locs hM => ?_)
    clear ho
    refine lv_istore_n (lv' := [(3, .int o1.1), (2, .int t0), (0, .ref (h 0)), (1, .int x1)]) hx hb dX12_readGame_70 rfl hl (by decide) rfl (fun ls hl => ?_)
    refine lv_iconst (v := (0 : Int32)) hx hb dX12_readGame_71 (by decide) ?_
    refine lv_istore (lv' := [(4, .int (0 : Int32)), (3, .int o1.1), (2, .int t0), (0, .ref (h 0)), (1, .int x1)]) hx hb dX12_readGame_72 hl (by decide) rfl (fun ls hl => ?_)
    exact w_readGame_74 X hret _ _ _ _ _ _ _ _ _ hf hM (lv_sub hl [3, 4, 1, 0] rfl)
  · replace hf := m_ifF hf cc1
    refine lv_iload_n hx hb dX12_readGame_64 rfl (lv_at hl 0 rfl) ?_
    cases hf
    exact hret H locs _ ls hM rfl dX12_readGame_65
def f_readGame_9s (self9 : Int32 → (Nat → Int32) → (Nat → Nat → Int32) → Option (Int32 × MS)) (x1 : Int32) (I : Nat → Int32) (A : Nat → Nat → Int32) : Option (Int32 × MS) :=
  m_cl (f_look  I A) (fun r1 Ic1 Ac1 =>
  m_if (r1 = (91 : Int32)) (
  m_cl (f_readTag x1 Ic1 Ac1) (fun r4 Ic4 Ac4 =>
  m_if (r4 ≤ 0) (
  m_cl (f_blanks  Ic4 Ac4) (fun r5 Ic5 Ac5 =>
  self9 x1 Ic5 Ac5)
  ) (
  some (r4, (Ic4, Ac4))
  ))
  ) (
  m_cl (f_readRemarks x1 (0 : Int32) Ic1 Ac1) (fun r2 Ic2 Ac2 =>
  m_if (r2 ≤ 0) (
  m_cl (f_readLine x1 (0 : Int32) (0 : Int32) Ic2 Ac2) (fun r3 Ic3 Ac3 =>
  f_readGame_59 x1 r3 Ic3 Ac3)
  ) (
  f_readGame_59 x1 r2 Ic2 Ac2
  ))
  ))

set_option maxRecDepth 100000 in
set_option maxHeartbeats 4000000 in
theorem ws_readGame_9 {p : Program} {l : Launch} {e : Env} {s : State} {m : MethodId} {args : Array Value} {below : List Frame} {meth : Method} {c : Code} {Q : State → Prop} {D : va_G} {cy ci : ClassId} {h : Nat → Nat} {A0 : Nat → Prop} {o : Int32 × MS} (X : CallFix p m c cX12_readGame 5 s args wsX12_readGame RX12) (hret : mRi p l e ({ frames := 18, cells := 0, slots := 0, locals := 477 } : Room) s m args below meth c Q cX12_readGame D cy ci h A0 .int o) {self9 : Int32 → (Nat → Int32) → (Nat → Nat → Int32) → Option (Int32 × MS)} (hself9 : ∀ (x1 : Int32) (I : Nat → Int32) (A : Nat → Nat → Int32) (H : Heap) (locs : List Loc) (ls : Array Slot), self9 x1 I A = some o → mH D cy ci h A0 s H locs I A → lv_has ls 5 [(0, .ref (h 0)), (1, .int x1)] → W p l e ({ frames := 18, cells := 0, slots := 0, locals := 477 } : Room) s m args below meth c H locs 0 0 Q (F0 m 9 ls [])) {x1 : Int32} {I : Nat → Int32} {A : Nat → Nat → Int32} {H : Heap} {locs : List Loc} {ls : Array Slot} (hf : f_readGame_9s self9 x1 I A = some o) (hM : mH D cy ci h A0 s H locs I A) (hl : lv_has ls 5 [(0, .ref (h 0)), (1, .int x1)]) : W p l e ({ frames := 18, cells := 0, slots := 0, locals := 477 } : Room) s m args below meth c H locs 0 0 Q (F0 m 9 ls []) := by
  obtain ⟨hx, hb, hml, hown, hts⟩ := id X
  unfold f_readGame_9s at hf
  refine lv_aload_n hx hb dX12_readGame_9 rfl (lv_at hl 0 rfl) ?_
  obtain ⟨o1, ho, hf⟩ := m_clE hf
  refine m_callVi X hM (c_look ho) gX12_readGame_X12_look rfl ⟨rfl, rfl⟩ hd_look ⟨Nat.le_of_ble_eq_true rfl, Nat.le_of_ble_eq_true rfl⟩ rfl hl.1 rfl (Nat.le_of_ble_eq_true rfl) dX12_readGame_10 (fun H locs hM => ?_)
  clear ho
  refine lv_bipush (v := (91 : Int32)) hx hb dX12_readGame_13 (by decide) ?_
  refine lv_icmp_ne (tgt := 37) hx hb dX12_readGame_15 (by decide) (fun cc1 => ?_) (fun cc1 => ?_)
  · replace hf := m_ifF hf cc1
    refine lv_aload_n hx hb dX12_readGame_37 rfl (lv_at hl 0 rfl) ?_
    refine lv_iload_n hx hb dX12_readGame_38 rfl (lv_at hl 1 rfl) ?_
    refine lv_iconst (v := (0 : Int32)) hx hb dX12_readGame_39 (by decide) ?_
    obtain ⟨o2, ho, hf⟩ := m_clE hf
    refine m_callVi X hM (c_readRemarks ho) gX12_readGame_X12_readRemarks rfl ⟨rfl, rfl⟩ hd_readRemarks ⟨Nat.le_of_ble_eq_true rfl, Nat.le_of_ble_eq_true rfl⟩ rfl hl.1 rfl (Nat.le_of_ble_eq_true rfl) dX12_readGame_40 (fun H locs hM => ?_)
    clear ho
    refine lv_istore_n (lv' := [(2, .int o2.1), (0, .ref (h 0)), (1, .int x1)]) hx hb dX12_readGame_43 rfl hl (by decide) rfl (fun ls hl => ?_)
    refine lv_iload_n hx hb dX12_readGame_44 rfl (lv_at hl 0 rfl) ?_
    refine lv_if_le (tgt := 52) hx hb dX12_readGame_45 (by decide) (fun cc1 => ?_) (fun cc1 => ?_)
    · replace hf := m_ifT hf cc1
      refine lv_aload_n hx hb dX12_readGame_52 rfl (lv_at hl 1 rfl) ?_
      refine lv_iload_n hx hb dX12_readGame_53 rfl (lv_at hl 2 rfl) ?_
      refine lv_iconst (v := (0 : Int32)) hx hb dX12_readGame_54 (by decide) ?_
      refine lv_iconst (v := (0 : Int32)) hx hb dX12_readGame_55 (by decide) ?_
      obtain ⟨o3, ho, hf⟩ := m_clE hf
      refine m_callVi X hM (c_readLine ho) gX12_readGame_X12_readLine rfl ⟨rfl, rfl⟩ hd_readLine ⟨Nat.le_of_ble_eq_true rfl, Nat.le_of_ble_eq_true rfl⟩ rfl hl.1 rfl (Nat.le_of_ble_eq_true rfl) dX12_readGame_56 (fun H locs hM => ?_)
      clear ho
      exact w_readGame_59 X hret hf hM (lv_sub hl [1, 2] rfl)
    · replace hf := m_ifF hf cc1
      refine lv_iload_n hx hb dX12_readGame_48 rfl (lv_at hl 0 rfl) ?_
      refine lv_goto (tgt := 59) hx hb dX12_readGame_49 (by decide) ?_
      exact w_readGame_59 X hret hf hM (lv_sub hl [1, 2] rfl)
  · replace hf := m_ifT hf cc1
    refine lv_aload_n hx hb dX12_readGame_18 rfl (lv_at hl 0 rfl) ?_
    refine lv_iload_n hx hb dX12_readGame_19 rfl (lv_at hl 1 rfl) ?_
    obtain ⟨o4, ho, hf⟩ := m_clE hf
    refine m_callVi X hM (c_readTag ho) gX12_readGame_X12_readTag rfl ⟨rfl, rfl⟩ hd_readTag ⟨Nat.le_of_ble_eq_true rfl, Nat.le_of_ble_eq_true rfl⟩ rfl hl.1 rfl (Nat.le_of_ble_eq_true rfl) dX12_readGame_20 (fun H locs hM => ?_)
    clear ho
    refine lv_istore_n (lv' := [(2, .int o4.1), (0, .ref (h 0)), (1, .int x1)]) hx hb dX12_readGame_23 rfl hl (by decide) rfl (fun ls hl => ?_)
    refine lv_iload_n hx hb dX12_readGame_24 rfl (lv_at hl 0 rfl) ?_
    refine lv_if_le (tgt := 30) hx hb dX12_readGame_25 (by decide) (fun cc1 => ?_) (fun cc1 => ?_)
    · replace hf := m_ifT hf cc1
      refine lv_aload_n hx hb dX12_readGame_30 rfl (lv_at hl 1 rfl) ?_
      obtain ⟨o5, ho, hf⟩ := m_clE hf
      refine m_callVv X hM (c_blanks ho) gX12_readGame_X12_blanks rfl ⟨rfl, rfl⟩ hd_blanks ⟨Nat.le_of_ble_eq_true rfl, Nat.le_of_ble_eq_true rfl⟩ rfl hl.1 rfl (Nat.le_of_ble_eq_true rfl) dX12_readGame_31 (fun H locs hM => ?_)
      clear ho
      refine lv_goto (tgt := 9) hx hb dX12_readGame_34 (by decide) ?_
      exact hself9 _ _ _ _ _ _ hf hM (lv_sub hl [1, 2] rfl)
    · replace hf := m_ifF hf cc1
      refine lv_iload_n hx hb dX12_readGame_28 rfl (lv_at hl 0 rfl) ?_
      cases hf
      exact hret H locs _ ls hM rfl dX12_readGame_29
def f_readGame_9 : Nat → Int32 → (Nat → Int32) → (Nat → Nat → Int32) → Option (Int32 × MS)
  | 0 => fun _ _ _ => none
  | n + 1 => f_readGame_9s (f_readGame_9 n)
theorem w_readGame_9 {p : Program} {l : Launch} {e : Env} {s : State} {m : MethodId} {args : Array Value} {below : List Frame} {meth : Method} {c : Code} {Q : State → Prop} {D : va_G} {cy ci : ClassId} {h : Nat → Nat} {A0 : Nat → Prop} {o : Int32 × MS} (X : CallFix p m c cX12_readGame 5 s args wsX12_readGame RX12) (hret : mRi p l e ({ frames := 18, cells := 0, slots := 0, locals := 477 } : Room) s m args below meth c Q cX12_readGame D cy ci h A0 .int o) (n : Nat) : ∀ (x1 : Int32) (I : Nat → Int32) (A : Nat → Nat → Int32) (H : Heap) (locs : List Loc) (ls : Array Slot), f_readGame_9 n x1 I A = some o → mH D cy ci h A0 s H locs I A → lv_has ls 5 [(0, .ref (h 0)), (1, .int x1)] → W p l e ({ frames := 18, cells := 0, slots := 0, locals := 477 } : Room) s m args below meth c H locs 0 0 Q (F0 m 9 ls []) := by
  induction n with
  | zero => intro x1 I A H locs ls hf; cases hf
  | succ n ih => intro x1 I A H locs ls hf hM hl; exact ws_readGame_9 X hret (self9 := f_readGame_9 n) ih hf hM hl
def f_readGame_0 (x1 : Int32) (I : Nat → Int32) (A : Nat → Nat → Int32) : Option (Int32 × MS) :=
  m_bnd (upd I 37 (0 : Int32)) (fun I1 =>
  m_cl (f_blanks  I1 A) (fun r2 Ic2 Ac2 =>
  f_readGame_9 mFuel x1 Ic2 Ac2))

set_option maxRecDepth 100000 in
set_option maxHeartbeats 4000000 in
theorem w_readGame_0 {p : Program} {l : Launch} {e : Env} {s : State} {m : MethodId} {args : Array Value} {below : List Frame} {meth : Method} {c : Code} {Q : State → Prop} {D : va_G} {cy ci : ClassId} {h : Nat → Nat} {A0 : Nat → Prop} {o : Int32 × MS} (X : CallFix p m c cX12_readGame 5 s args wsX12_readGame RX12) (hret : mRi p l e ({ frames := 18, cells := 0, slots := 0, locals := 477 } : Room) s m args below meth c Q cX12_readGame D cy ci h A0 .int o) {x1 : Int32} {I : Nat → Int32} {A : Nat → Nat → Int32} {H : Heap} {locs : List Loc} {ls : Array Slot} (hf : f_readGame_0 x1 I A = some o) (hM : mH D cy ci h A0 s H locs I A) (hl : lv_has ls 5 [(0, .ref (h 0)), (1, .int x1)]) : W p l e ({ frames := 18, cells := 0, slots := 0, locals := 477 } : Room) s m args below meth c H locs 0 0 Q (F0 m 0 ls []) := by
  obtain ⟨hx, hb, hml, hown, hts⟩ := id X
  unfold f_readGame_0 at hf
  refine lv_aload_n hx hb dX12_readGame_0 rfl (lv_at hl 0 rfl) ?_
  refine lv_iconst (v := (0 : Int32)) hx hb dX12_readGame_1 (by decide) ?_
  refine m_put X hw_readGame hM 37 (by decide) fl_readGame_37 mi_37 rfl (tyX12_ok 37 (by decide)) dX12_readGame_2 (fun H locs hM => ?_)
  obtain ⟨I1, ev, hf⟩ := m_bndE hf
  replace hM := m_hI hM ev
  clear ev
  refine lv_aload_n hx hb dX12_readGame_5 rfl (lv_at hl 0 rfl) ?_
  obtain ⟨o2, ho, hf⟩ := m_clE hf
  refine m_callVv X hM (c_blanks ho) gX12_readGame_X12_blanks rfl ⟨rfl, rfl⟩ hd_blanks ⟨Nat.le_of_ble_eq_true rfl, Nat.le_of_ble_eq_true rfl⟩ rfl hl.1 rfl (Nat.le_of_ble_eq_true rfl) dX12_readGame_6 (fun H locs hM => ?_)
  clear ho
  exact w_readGame_9 X hret _ _ _ _ _ _ _ hf hM (lv_sub hl [0, 1] rfl)
def f_readGame (x1 : Int32) (I : Nat → Int32) (A : Nat → Nat → Int32) : Option (Int32 × MS) := f_readGame_0 x1 I A
theorem c_readGame {l : Launch} {D : va_G} {cy ci : ClassId} {h : Nat → Nat} {x1 : Int32} {I : Nat → Int32} {A : Nat → Nat → Int32} {o : Int32 × MS} (hf : f_readGame x1 I A = some o) : mMi l yX12_readGame wsX12_readGame ({ frames := 18, cells := 0, slots := 0, locals := 477 } : Room) [.ref (h 0), .int x1] D cy ci h I A o :=
  m_entryI (cc := cX12_readGame) (maxL := 5) (by decide) rfl rfl (Nat.le_of_ble_eq_true rfl) (fun p e s m args below meth c A0 Q H locs ls X hret hM hl => w_readGame_0 X hret hf hM (lv_sub hl [0, 1] rfl))
theorem hw_read : ∀ w ∈ wsX120, w ∈ wsX12_read := by decide +kernel
theorem fl_read_0 : Cond.fieldLink RX12 99 "MoveTextsModel" "thrown" "I" ∈ wsX12_read := by decide +kernel
theorem fl_read_1 : Cond.fieldLink RX12 270 "MoveTextsModel" "typed" "I" ∈ wsX12_read := by decide +kernel
theorem fl_read_5 : Cond.fieldLink RX12 347 "MoveTextsModel" "game" "I" ∈ wsX12_read := by decide +kernel
theorem fl_read_6 : Cond.fieldLink RX12 353 "MoveTextsModel" "here" "I" ∈ wsX12_read := by decide +kernel
theorem hd_read : yX12_read.cls = RX12 ∧ yX12_read.cls ≠ "java/lang/invoke/MethodHandle" ∧ yX12_read.cls ≠ "java/lang/invoke/VarHandle" ∧ (parseMethodDescriptor yX12_read.desc).map (fun d => d.parameters.length) = some 0 := by decide +kernel
def f_read_47 (x2 : Int32) (I : Nat → Int32) (A : Nat → Nat → Int32) : Option (Int32 × MS) :=
  m_cl (f_place (I 5) (I 6) I A) (fun r1 Ic1 Ac1 =>
  some (x2, (Ic1, Ac1)))

set_option maxRecDepth 100000 in
set_option maxHeartbeats 4000000 in
theorem w_read_47 {p : Program} {l : Launch} {e : Env} {s : State} {m : MethodId} {args : Array Value} {below : List Frame} {meth : Method} {c : Code} {Q : State → Prop} {D : va_G} {cy ci : ClassId} {h : Nat → Nat} {A0 : Nat → Prop} {o : Int32 × MS} (X : CallFix p m c cX12_read 3 s args wsX12_read RX12) (hret : mRi p l e ({ frames := 19, cells := 0, slots := 0, locals := 501 } : Room) s m args below meth c Q cX12_read D cy ci h A0 .int o) {x2 : Int32} {I : Nat → Int32} {A : Nat → Nat → Int32} {H : Heap} {locs : List Loc} {ls : Array Slot} (hf : f_read_47 x2 I A = some o) (hM : mH D cy ci h A0 s H locs I A) (hl : lv_has ls 3 [(0, .ref (h 0)), (2, .int x2)]) : W p l e ({ frames := 19, cells := 0, slots := 0, locals := 501 } : Room) s m args below meth c H locs 0 0 Q (F0 m 47 ls []) := by
  obtain ⟨hx, hb, hml, hown, hts⟩ := id X
  unfold f_read_47 at hf
  refine lv_aload_n hx hb dX12_read_47 rfl (lv_at hl 0 rfl) ?_
  refine lv_aload_n hx hb dX12_read_48 rfl (lv_at hl 0 rfl) ?_
  refine m_get (v := .int (I 5)) X hw_read hM 5 (by decide) fl_read_5 rfl dX12_read_49 ?_
  refine lv_aload_n hx hb dX12_read_52 rfl (lv_at hl 0 rfl) ?_
  refine m_get (v := .int (I 6)) X hw_read hM 6 (by decide) fl_read_6 rfl dX12_read_53 ?_
  obtain ⟨o1, ho, hf⟩ := m_clE hf
  refine m_callVv X hM (c_place ho) gX12_read_X12_place rfl ⟨rfl, rfl⟩ hd_place ⟨Nat.le_of_ble_eq_true rfl, Nat.le_of_ble_eq_true rfl⟩ rfl hl.1 rfl (Nat.le_of_ble_eq_true rfl) dX12_read_56 (fun H locs hM => ?_)
  clear ho
  refine lv_iload_n hx hb dX12_read_59 rfl (lv_at hl 1 rfl) ?_
  cases hf
  exact hret H locs _ ls hM rfl dX12_read_60
def f_read_0 (I : Nat → Int32) (A : Nat → Nat → Int32) : Option (Int32 × MS) :=
  m_bnd (upd I 0 (0 : Int32)) (fun I1 =>
  m_bnd ((1 : Int32) - (I1 5)) (fun v2 =>
  m_cl (f_clearGame v2 I1 A) (fun r3 Ic3 Ac3 =>
  m_cl (f_usual v2 Ic3 Ac3) (fun r4 Ic4 Ac4 =>
  m_cl (f_readGame v2 Ic4 Ac4) (fun r5 Ic5 Ac5 =>
  m_if (r5 = 0) (
  m_bnd (upd Ic5 5 v2) (fun I6 =>
  m_bnd (upd I6 6 (0 : Int32)) (fun I7 =>
  m_bnd (upd I7 1 (0 : Int32)) (fun I8 =>
  f_read_47 r5 I8 Ac5)))
  ) (
  f_read_47 r5 Ic5 Ac5
  ))))))

set_option maxRecDepth 100000 in
set_option maxHeartbeats 4000000 in
theorem w_read_0 {p : Program} {l : Launch} {e : Env} {s : State} {m : MethodId} {args : Array Value} {below : List Frame} {meth : Method} {c : Code} {Q : State → Prop} {D : va_G} {cy ci : ClassId} {h : Nat → Nat} {A0 : Nat → Prop} {o : Int32 × MS} (X : CallFix p m c cX12_read 3 s args wsX12_read RX12) (hret : mRi p l e ({ frames := 19, cells := 0, slots := 0, locals := 501 } : Room) s m args below meth c Q cX12_read D cy ci h A0 .int o) {I : Nat → Int32} {A : Nat → Nat → Int32} {H : Heap} {locs : List Loc} {ls : Array Slot} (hf : f_read_0  I A = some o) (hM : mH D cy ci h A0 s H locs I A) (hl : lv_has ls 3 [(0, .ref (h 0))]) : W p l e ({ frames := 19, cells := 0, slots := 0, locals := 501 } : Room) s m args below meth c H locs 0 0 Q (F0 m 0 ls []) := by
  obtain ⟨hx, hb, hml, hown, hts⟩ := id X
  unfold f_read_0 at hf
  refine lv_aload_n hx hb dX12_read_0 rfl (lv_at hl 0 rfl) ?_
  refine lv_iconst (v := (0 : Int32)) hx hb dX12_read_1 (by decide) ?_
  refine m_put X hw_read hM 0 (by decide) fl_read_0 mi_0 rfl (tyX12_ok 0 (by decide)) dX12_read_2 (fun H locs hM => ?_)
  obtain ⟨I1, ev, hf⟩ := m_bndE hf
  replace hM := m_hI hM ev
  clear ev
  refine lv_iconst (v := (1 : Int32)) hx hb dX12_read_5 (by decide) ?_
  refine lv_aload_n hx hb dX12_read_6 rfl (lv_at hl 0 rfl) ?_
  refine m_get (v := .int (I1 5)) X hw_read hM 5 (by decide) fl_read_5 rfl dX12_read_7 ?_
  refine lv_isub hx hb dX12_read_10 ?_
  obtain ⟨v2, ev, hf⟩ := m_bndE hf
  refine m_top ev ?_
  clear ev
  refine lv_istore_n (lv' := [(1, .int v2), (0, .ref (h 0))]) hx hb dX12_read_11 rfl hl (by decide) rfl (fun ls hl => ?_)
  refine lv_aload_n hx hb dX12_read_12 rfl (lv_at hl 1 rfl) ?_
  refine lv_iload_n hx hb dX12_read_13 rfl (lv_at hl 0 rfl) ?_
  obtain ⟨o3, ho, hf⟩ := m_clE hf
  refine m_callVv X hM (c_clearGame ho) gX12_read_X12_clearGame rfl ⟨rfl, rfl⟩ hd_clearGame ⟨Nat.le_of_ble_eq_true rfl, Nat.le_of_ble_eq_true rfl⟩ rfl hl.1 rfl (Nat.le_of_ble_eq_true rfl) dX12_read_14 (fun H locs hM => ?_)
  clear ho
  refine lv_aload_n hx hb dX12_read_17 rfl (lv_at hl 1 rfl) ?_
  refine lv_iload_n hx hb dX12_read_18 rfl (lv_at hl 0 rfl) ?_
  obtain ⟨o4, ho, hf⟩ := m_clE hf
  refine m_callVv X hM (c_usual ho) gX12_read_X12_usual rfl ⟨rfl, rfl⟩ hd_usual ⟨Nat.le_of_ble_eq_true rfl, Nat.le_of_ble_eq_true rfl⟩ rfl hl.1 rfl (Nat.le_of_ble_eq_true rfl) dX12_read_19 (fun H locs hM => ?_)
  clear ho
  refine lv_aload_n hx hb dX12_read_22 rfl (lv_at hl 1 rfl) ?_
  refine lv_iload_n hx hb dX12_read_23 rfl (lv_at hl 0 rfl) ?_
  obtain ⟨o5, ho, hf⟩ := m_clE hf
  refine m_callVi X hM (c_readGame ho) gX12_read_X12_readGame rfl ⟨rfl, rfl⟩ hd_readGame ⟨Nat.le_of_ble_eq_true rfl, Nat.le_of_ble_eq_true rfl⟩ rfl hl.1 rfl (Nat.le_of_ble_eq_true rfl) dX12_read_24 (fun H locs hM => ?_)
  clear ho
  refine lv_istore_n (lv' := [(2, .int o5.1), (1, .int v2), (0, .ref (h 0))]) hx hb dX12_read_27 rfl hl (by decide) rfl (fun ls hl => ?_)
  refine lv_iload_n hx hb dX12_read_28 rfl (lv_at hl 0 rfl) ?_
  refine lv_if_ne (tgt := 47) hx hb dX12_read_29 (by decide) (fun cc1 => ?_) (fun cc1 => ?_)
  · replace hf := m_ifF hf cc1
    exact w_read_47 X hret hf hM (lv_sub hl [2, 0] rfl)
  · replace hf := m_ifT hf cc1
    refine lv_aload_n hx hb dX12_read_32 rfl (lv_at hl 2 rfl) ?_
    refine lv_iload_n hx hb dX12_read_33 rfl (lv_at hl 1 rfl) ?_
    refine m_put X hw_read hM 5 (by decide) fl_read_5 mi_5 rfl (tyX12_ok 5 (by decide)) dX12_read_34 (fun H locs hM => ?_)
    obtain ⟨I6, ev, hf⟩ := m_bndE hf
    replace hM := m_hI hM ev
    clear ev
    refine lv_aload_n hx hb dX12_read_37 rfl (lv_at hl 2 rfl) ?_
    refine lv_iconst (v := (0 : Int32)) hx hb dX12_read_38 (by decide) ?_
    refine m_put X hw_read hM 6 (by decide) fl_read_6 mi_6 rfl (tyX12_ok 6 (by decide)) dX12_read_39 (fun H locs hM => ?_)
    obtain ⟨I7, ev, hf⟩ := m_bndE hf
    replace hM := m_hI hM ev
    clear ev
    refine lv_aload_n hx hb dX12_read_42 rfl (lv_at hl 2 rfl) ?_
    refine lv_iconst (v := (0 : Int32)) hx hb dX12_read_43 (by decide) ?_
    refine m_put X hw_read hM 1 (by decide) fl_read_1 mi_1 rfl (tyX12_ok 1 (by decide)) dX12_read_44 (fun H locs hM => ?_)
    obtain ⟨I8, ev, hf⟩ := m_bndE hf
    replace hM := m_hI hM ev
    clear ev
    exact w_read_47 X hret hf hM (lv_sub hl [2, 0] rfl)
def f_read (I : Nat → Int32) (A : Nat → Nat → Int32) : Option (Int32 × MS) := f_read_0  I A
theorem c_read {l : Launch} {D : va_G} {cy ci : ClassId} {h : Nat → Nat} {I : Nat → Int32} {A : Nat → Nat → Int32} {o : Int32 × MS} (hf : f_read  I A = some o) : mMi l yX12_read wsX12_read ({ frames := 19, cells := 0, slots := 0, locals := 501 } : Room) [.ref (h 0)] D cy ci h I A o :=
  m_entryI (cc := cX12_read) (maxL := 3) (by decide) rfl rfl (Nat.le_of_ble_eq_true rfl) (fun p e s m args below meth c A0 Q H locs ls X hret hM hl => w_read_0 X hret hf hM (lv_sub hl [0] rfl))
theorem hw_find : ∀ w ∈ wsX120, w ∈ wsX12_find := by decide +kernel
theorem fl_find_0 : Cond.fieldLink RX12 99 "MoveTextsModel" "thrown" "I" ∈ wsX12_find := by decide +kernel
theorem fl_find_1 : Cond.fieldLink RX12 270 "MoveTextsModel" "typed" "I" ∈ wsX12_find := by decide +kernel
theorem hd_find : yX12_find.cls = RX12 ∧ yX12_find.cls ≠ "java/lang/invoke/MethodHandle" ∧ yX12_find.cls ≠ "java/lang/invoke/VarHandle" ∧ (parseMethodDescriptor yX12_find.desc).map (fun d => d.parameters.length) = some 0 := by decide +kernel
def f_find_0 (I : Nat → Int32) (A : Nat → Nat → Int32) : Option (Int32 × MS) :=
  m_bnd (upd I 0 (0 : Int32)) (fun I1 =>
  m_cl (f_understood (0 : Int32) (I1 1) I1 A) (fun r2 Ic2 Ac2 =>
  some (r2, (Ic2, Ac2))))

set_option maxRecDepth 100000 in
set_option maxHeartbeats 4000000 in
theorem w_find_0 {p : Program} {l : Launch} {e : Env} {s : State} {m : MethodId} {args : Array Value} {below : List Frame} {meth : Method} {c : Code} {Q : State → Prop} {D : va_G} {cy ci : ClassId} {h : Nat → Nat} {A0 : Nat → Prop} {o : Int32 × MS} (X : CallFix p m c cX12_find 1 s args wsX12_find RX12) (hret : mRi p l e ({ frames := 8, cells := 0, slots := 0, locals := 210 } : Room) s m args below meth c Q cX12_find D cy ci h A0 .int o) {I : Nat → Int32} {A : Nat → Nat → Int32} {H : Heap} {locs : List Loc} {ls : Array Slot} (hf : f_find_0  I A = some o) (hM : mH D cy ci h A0 s H locs I A) (hl : lv_has ls 1 [(0, .ref (h 0))]) : W p l e ({ frames := 8, cells := 0, slots := 0, locals := 210 } : Room) s m args below meth c H locs 0 0 Q (F0 m 0 ls []) := by
  obtain ⟨hx, hb, hml, hown, hts⟩ := id X
  unfold f_find_0 at hf
  refine lv_aload_n hx hb dX12_find_0 rfl (lv_at hl 0 rfl) ?_
  refine lv_iconst (v := (0 : Int32)) hx hb dX12_find_1 (by decide) ?_
  refine m_put X hw_find hM 0 (by decide) fl_find_0 mi_0 rfl (tyX12_ok 0 (by decide)) dX12_find_2 (fun H locs hM => ?_)
  obtain ⟨I1, ev, hf⟩ := m_bndE hf
  replace hM := m_hI hM ev
  clear ev
  refine lv_aload_n hx hb dX12_find_5 rfl (lv_at hl 0 rfl) ?_
  refine lv_iconst (v := (0 : Int32)) hx hb dX12_find_6 (by decide) ?_
  refine lv_aload_n hx hb dX12_find_7 rfl (lv_at hl 0 rfl) ?_
  refine m_get (v := .int (I1 1)) X hw_find hM 1 (by decide) fl_find_1 rfl dX12_find_8 ?_
  obtain ⟨o2, ho, hf⟩ := m_clE hf
  refine m_callVi X hM (c_understood ho) gX12_find_X12_understood rfl ⟨rfl, rfl⟩ hd_understood ⟨Nat.le_of_ble_eq_true rfl, Nat.le_of_ble_eq_true rfl⟩ rfl hl.1 rfl (Nat.le_of_ble_eq_true rfl) dX12_find_11 (fun H locs hM => ?_)
  clear ho
  cases hf
  exact hret H locs _ ls hM rfl dX12_find_14
def f_find (I : Nat → Int32) (A : Nat → Nat → Int32) : Option (Int32 × MS) := f_find_0  I A
theorem c_find {l : Launch} {D : va_G} {cy ci : ClassId} {h : Nat → Nat} {I : Nat → Int32} {A : Nat → Nat → Int32} {o : Int32 × MS} (hf : f_find  I A = some o) : mMi l yX12_find wsX12_find ({ frames := 8, cells := 0, slots := 0, locals := 210 } : Room) [.ref (h 0)] D cy ci h I A o :=
  m_entryI (cc := cX12_find) (maxL := 1) (by decide) rfl rfl (Nat.le_of_ble_eq_true rfl) (fun p e s m args below meth c A0 Q H locs ls X hret hM hl => w_find_0 X hret hf hM (lv_sub hl [0] rfl))
theorem hw_type : ∀ w ∈ wsX120, w ∈ wsX12_type := by decide +kernel
theorem fl_type_0 : Cond.fieldLink RX12 99 "MoveTextsModel" "thrown" "I" ∈ wsX12_type := by decide +kernel
theorem fl_type_1 : Cond.fieldLink RX12 270 "MoveTextsModel" "typed" "I" ∈ wsX12_type := by decide +kernel
theorem fl_type_2 : Cond.fieldLink RX12 7 "MoveTextsModel" "text" "[C" ∈ wsX12_type := by decide +kernel
theorem hd_type : yX12_type.cls = RX12 ∧ yX12_type.cls ≠ "java/lang/invoke/MethodHandle" ∧ yX12_type.cls ≠ "java/lang/invoke/VarHandle" ∧ (parseMethodDescriptor yX12_type.desc).map (fun d => d.parameters.length) = some 2 := by decide +kernel
theorem cl_type_356 : Cond.constantLong RX12 356 (255) ∈ wsX12_type := by decide +kernel
theorem cl_type_358 : Cond.constantLong RX12 358 (10) ∈ wsX12_type := by decide +kernel
theorem cl_type_360 : Cond.constantLong RX12 360 (32) ∈ wsX12_type := by decide +kernel
theorem cl_type_362 : Cond.constantLong RX12 362 (126) ∈ wsX12_type := by decide +kernel
def f_type_28 (I : Nat → Int32) (A : Nat → Nat → Int32) : Option (Int32 × MS) :=
  m_chk (vp_nar .boolean (0 : Int32) = (0 : Int32)) (some ((0 : Int32), (I, A)))

set_option maxRecDepth 100000 in
set_option maxHeartbeats 4000000 in
theorem w_type_28 {p : Program} {l : Launch} {e : Env} {s : State} {m : MethodId} {args : Array Value} {below : List Frame} {meth : Method} {c : Code} {Q : State → Prop} {D : va_G} {cy ci : ClassId} {h : Nat → Nat} {A0 : Nat → Prop} {o : Int32 × MS} (X : CallFix p m c cX12_type 7 s args wsX12_type RX12) (hret : mRi p l e ({ frames := 0, cells := 0, slots := 0, locals := 0 } : Room) s m args below meth c Q cX12_type D cy ci h A0 .boolean o) {I : Nat → Int32} {A : Nat → Nat → Int32} {H : Heap} {locs : List Loc} {ls : Array Slot} (hf : f_type_28  I A = some o) (hM : mH D cy ci h A0 s H locs I A) (hl : lv_has ls 7 []) : W p l e ({ frames := 0, cells := 0, slots := 0, locals := 0 } : Room) s m args below meth c H locs 0 0 Q (F0 m 28 ls []) := by
  obtain ⟨hx, hb, hml, hown, hts⟩ := id X
  unfold f_type_28 at hf
  refine lv_iconst (v := (0 : Int32)) hx hb dX12_type_28 (by decide) ?_
  obtain ⟨cd, hf⟩ := m_chkE hf
  cases hf
  exact hret H locs _ ls hM (m_nb cd) dX12_type_29
def f_type_90s (self90 : Int64 → Int32 → Int32 → (Nat → Int32) → (Nat → Nat → Int32) → Option (Int32 × MS)) (x1 : Int64) (x3 : Int32) (x4 : Int32) (I : Nat → Int32) (A : Nat → Nat → Int32) : Option (Int32 × MS) :=
  m_if (x3 ≤ x4) (
  m_chk (vp_nar .boolean (1 : Int32) = (1 : Int32)) (some ((1 : Int32), (I, A)))
  ) (
  m_bnd ((8 : Int32) * x4) (fun v1 =>
  m_bnd (x1 >>> ((v1).toInt64 &&& 63)) (fun v2 =>
  m_bnd (v2 &&& (255 : Int64)) (fun v3 =>
  m_bnd ((v3).toInt32) (fun v4 =>
  m_bnd ((v4.toUInt32 % 65536).toInt32) (fun v5 =>
  m_chk (¬ ((I 1) < 0 ∨ 2000 ≤ ((I 1)).toNatClampNeg)) (
  m_bnd (va_up A 2 (upd (A 2) ((I 1)).toNatClampNeg (vp_nar .char v5))) (fun A6 =>
  m_bnd ((I 1) + (1 : Int32)) (fun v7 =>
  m_bnd (upd I 1 v7) (fun I8 =>
  m_bnd (x4 + (1 : Int32)) (fun v9 =>
  self90 x1 x3 v9 I8 A6))))))))))
  )

set_option maxRecDepth 100000 in
set_option maxHeartbeats 4000000 in
theorem ws_type_90 {p : Program} {l : Launch} {e : Env} {s : State} {m : MethodId} {args : Array Value} {below : List Frame} {meth : Method} {c : Code} {Q : State → Prop} {D : va_G} {cy ci : ClassId} {h : Nat → Nat} {A0 : Nat → Prop} {o : Int32 × MS} (X : CallFix p m c cX12_type 7 s args wsX12_type RX12) (hret : mRi p l e ({ frames := 0, cells := 0, slots := 0, locals := 0 } : Room) s m args below meth c Q cX12_type D cy ci h A0 .boolean o) {self90 : Int64 → Int32 → Int32 → (Nat → Int32) → (Nat → Nat → Int32) → Option (Int32 × MS)} (hself90 : ∀ (x1 : Int64) (x3 : Int32) (x4 : Int32) (I : Nat → Int32) (A : Nat → Nat → Int32) (H : Heap) (locs : List Loc) (ls : Array Slot), self90 x1 x3 x4 I A = some o → mH D cy ci h A0 s H locs I A → lv_has ls 7 [(0, .ref (h 0)), (1, .long x1), (3, .int x3), (4, .int x4)] → W p l e ({ frames := 0, cells := 0, slots := 0, locals := 0 } : Room) s m args below meth c H locs 0 0 Q (F0 m 90 ls [])) {x1 : Int64} {x3 : Int32} {x4 : Int32} {I : Nat → Int32} {A : Nat → Nat → Int32} {H : Heap} {locs : List Loc} {ls : Array Slot} (hf : f_type_90s self90 x1 x3 x4 I A = some o) (hM : mH D cy ci h A0 s H locs I A) (hl : lv_has ls 7 [(0, .ref (h 0)), (1, .long x1), (3, .int x3), (4, .int x4)]) : W p l e ({ frames := 0, cells := 0, slots := 0, locals := 0 } : Room) s m args below meth c H locs 0 0 Q (F0 m 90 ls []) := by
  obtain ⟨hx, hb, hml, hown, hts⟩ := id X
  unfold f_type_90s at hf
  refine lv_iload hx hb dX12_type_90 (lv_at hl 3 rfl) ?_
  refine lv_iload_n hx hb dX12_type_92 rfl (lv_at hl 2 rfl) ?_
  refine lv_icmp_ge (tgt := 134) hx hb dX12_type_93 (by decide) (fun cc1 => ?_) (fun cc1 => ?_)
  · replace hf := m_ifT hf cc1
    refine lv_iconst (v := (1 : Int32)) hx hb dX12_type_134 (by decide) ?_
    obtain ⟨cd, hf⟩ := m_chkE hf
    cases hf
    exact hret H locs _ ls hM (m_nb cd) dX12_type_135
  · replace hf := m_ifF hf cc1
    refine lv_aload_n hx hb dX12_type_96 rfl (lv_at hl 0 rfl) ?_
    refine m_get (v := .ref (h 2)) X hw_type hM 2 (by decide) fl_type_2 rfl dX12_type_97 ?_
    refine lv_aload_n hx hb dX12_type_100 rfl (lv_at hl 0 rfl) ?_
    refine m_get (v := .int (I 1)) X hw_type hM 1 (by decide) fl_type_1 rfl dX12_type_101 ?_
    refine lv_lload_n hx hb dX12_type_104 rfl (lv_at hl 1 rfl) ?_
    refine lv_bipush (v := (8 : Int32)) hx hb dX12_type_105 (by decide) ?_
    refine lv_iload hx hb dX12_type_107 (lv_at hl 3 rfl) ?_
    refine lv_imul hx hb dX12_type_109 ?_
    obtain ⟨v1, ev, hf⟩ := m_bndE hf
    refine m_top ev ?_
    clear ev
    refine lv_lshr (v := x1 >>> ((v1).toInt64 &&& 63)) hx hb dX12_type_110 rfl ?_
    obtain ⟨v2, ev, hf⟩ := m_bndE hf
    refine m_topl ev ?_
    clear ev
    refine lv_ldc2 (v := (255 : Int64)) hx hb hown (hts _ cl_type_356) dX12_type_111 ?_
    refine lv_land hx hb dX12_type_114 ?_
    obtain ⟨v3, ev, hf⟩ := m_bndE hf
    refine m_topl ev ?_
    clear ev
    refine lv_l2i (v := (v3).toInt32) hx hb dX12_type_115 rfl ?_
    obtain ⟨v4, ev, hf⟩ := m_bndE hf
    refine m_top ev ?_
    clear ev
    refine lv_i2c (v := (v4.toUInt32 % 65536).toInt32) hx hb dX12_type_116 rfl ?_
    obtain ⟨v5, ev, hf⟩ := m_bndE hf
    refine m_top ev ?_
    clear ev
    obtain ⟨cd, hf⟩ := m_chkE hf
    refine m_cast X hM 2 1 2000 rfl ma_2 cd dX12_type_117 (fun H locs hM => ?_)
    clear cd
    obtain ⟨A6, ev, hf⟩ := m_bndE hf
    replace hM := m_hA hM ev
    clear ev
    refine lv_aload_n hx hb dX12_type_118 rfl (lv_at hl 0 rfl) ?_
    refine lv_dup hx hb dX12_type_119 rfl ?_
    refine m_get (v := .int (I 1)) X hw_type hM 1 (by decide) fl_type_1 rfl dX12_type_120 ?_
    refine lv_iconst (v := (1 : Int32)) hx hb dX12_type_123 (by decide) ?_
    refine lv_iadd hx hb dX12_type_124 ?_
    obtain ⟨v7, ev, hf⟩ := m_bndE hf
    refine m_top ev ?_
    clear ev
    refine m_put X hw_type hM 1 (by decide) fl_type_1 mi_1 rfl (tyX12_ok 1 (by decide)) dX12_type_125 (fun H locs hM => ?_)
    obtain ⟨I8, ev, hf⟩ := m_bndE hf
    replace hM := m_hI hM ev
    clear ev
    obtain ⟨v9, ev, hf⟩ := m_bndE hf
    refine lv_iinc (v := v9) (lv' := [(4, .int v9), (0, .ref (h 0)), (1, .long x1), (3, .int x3)]) hx hb dX12_type_128 hl (k := 3) rfl (by rw [ev]; rfl) (by decide) rfl (fun ls hl => ?_)
    clear ev
    refine lv_goto (tgt := 90) hx hb dX12_type_131 (by decide) ?_
    exact hself90 _ _ _ _ _ _ _ _ hf hM (lv_sub hl [1, 2, 3, 0] rfl)
def f_type_90 : Nat → Int64 → Int32 → Int32 → (Nat → Int32) → (Nat → Nat → Int32) → Option (Int32 × MS)
  | 0 => fun _ _ _ _ _ => none
  | n + 1 => f_type_90s (f_type_90 n)
theorem w_type_90 {p : Program} {l : Launch} {e : Env} {s : State} {m : MethodId} {args : Array Value} {below : List Frame} {meth : Method} {c : Code} {Q : State → Prop} {D : va_G} {cy ci : ClassId} {h : Nat → Nat} {A0 : Nat → Prop} {o : Int32 × MS} (X : CallFix p m c cX12_type 7 s args wsX12_type RX12) (hret : mRi p l e ({ frames := 0, cells := 0, slots := 0, locals := 0 } : Room) s m args below meth c Q cX12_type D cy ci h A0 .boolean o) (n : Nat) : ∀ (x1 : Int64) (x3 : Int32) (x4 : Int32) (I : Nat → Int32) (A : Nat → Nat → Int32) (H : Heap) (locs : List Loc) (ls : Array Slot), f_type_90 n x1 x3 x4 I A = some o → mH D cy ci h A0 s H locs I A → lv_has ls 7 [(0, .ref (h 0)), (1, .long x1), (3, .int x3), (4, .int x4)] → W p l e ({ frames := 0, cells := 0, slots := 0, locals := 0 } : Room) s m args below meth c H locs 0 0 Q (F0 m 90 ls []) := by
  induction n with
  | zero => intro x1 x3 x4 I A H locs ls hf; cases hf
  | succ n ih => intro x1 x3 x4 I A H locs ls hf hM hl; exact ws_type_90 X hret (self90 := f_type_90 n) ih hf hM hl
def f_type_81 (self33 : Int64 → Int32 → Int32 → (Nat → Int32) → (Nat → Nat → Int32) → Option (Int32 × MS)) (x1 : Int64) (x3 : Int32) (x4 : Int32) (I : Nat → Int32) (A : Nat → Nat → Int32) : Option (Int32 × MS) :=
  m_bnd (x4 + (1 : Int32)) (fun v1 =>
  self33 x1 x3 v1 I A)

set_option maxRecDepth 100000 in
set_option maxHeartbeats 4000000 in
theorem w_type_81 {p : Program} {l : Launch} {e : Env} {s : State} {m : MethodId} {args : Array Value} {below : List Frame} {meth : Method} {c : Code} {Q : State → Prop} {D : va_G} {cy ci : ClassId} {h : Nat → Nat} {A0 : Nat → Prop} {o : Int32 × MS} (X : CallFix p m c cX12_type 7 s args wsX12_type RX12) (hret : mRi p l e ({ frames := 0, cells := 0, slots := 0, locals := 0 } : Room) s m args below meth c Q cX12_type D cy ci h A0 .boolean o) {self33 : Int64 → Int32 → Int32 → (Nat → Int32) → (Nat → Nat → Int32) → Option (Int32 × MS)} (hself33 : ∀ (x1 : Int64) (x3 : Int32) (x4 : Int32) (I : Nat → Int32) (A : Nat → Nat → Int32) (H : Heap) (locs : List Loc) (ls : Array Slot), self33 x1 x3 x4 I A = some o → mH D cy ci h A0 s H locs I A → lv_has ls 7 [(0, .ref (h 0)), (1, .long x1), (3, .int x3), (4, .int x4)] → W p l e ({ frames := 0, cells := 0, slots := 0, locals := 0 } : Room) s m args below meth c H locs 0 0 Q (F0 m 33 ls [])) {x1 : Int64} {x3 : Int32} {x4 : Int32} {I : Nat → Int32} {A : Nat → Nat → Int32} {H : Heap} {locs : List Loc} {ls : Array Slot} (hf : f_type_81 self33 x1 x3 x4 I A = some o) (hM : mH D cy ci h A0 s H locs I A) (hl : lv_has ls 7 [(0, .ref (h 0)), (1, .long x1), (3, .int x3), (4, .int x4)]) : W p l e ({ frames := 0, cells := 0, slots := 0, locals := 0 } : Room) s m args below meth c H locs 0 0 Q (F0 m 81 ls []) := by
  obtain ⟨hx, hb, hml, hown, hts⟩ := id X
  unfold f_type_81 at hf
  obtain ⟨v1, ev, hf⟩ := m_bndE hf
  refine lv_iinc (v := v1) (lv' := [(4, .int v1), (0, .ref (h 0)), (1, .long x1), (3, .int x3)]) hx hb dX12_type_81 hl (k := 3) rfl (by rw [ev]; rfl) (by decide) rfl (fun ls hl => ?_)
  clear ev
  refine lv_goto (tgt := 33) hx hb dX12_type_84 (by decide) ?_
  exact hself33 _ _ _ _ _ _ _ _ hf hM (lv_sub hl [1, 2, 3, 0] rfl)
def f_type_79 (I : Nat → Int32) (A : Nat → Nat → Int32) : Option (Int32 × MS) :=
  m_chk (vp_nar .boolean (0 : Int32) = (0 : Int32)) (some ((0 : Int32), (I, A)))

set_option maxRecDepth 100000 in
set_option maxHeartbeats 4000000 in
theorem w_type_79 {p : Program} {l : Launch} {e : Env} {s : State} {m : MethodId} {args : Array Value} {below : List Frame} {meth : Method} {c : Code} {Q : State → Prop} {D : va_G} {cy ci : ClassId} {h : Nat → Nat} {A0 : Nat → Prop} {o : Int32 × MS} (X : CallFix p m c cX12_type 7 s args wsX12_type RX12) (hret : mRi p l e ({ frames := 0, cells := 0, slots := 0, locals := 0 } : Room) s m args below meth c Q cX12_type D cy ci h A0 .boolean o) {I : Nat → Int32} {A : Nat → Nat → Int32} {H : Heap} {locs : List Loc} {ls : Array Slot} (hf : f_type_79  I A = some o) (hM : mH D cy ci h A0 s H locs I A) (hl : lv_has ls 7 []) : W p l e ({ frames := 0, cells := 0, slots := 0, locals := 0 } : Room) s m args below meth c H locs 0 0 Q (F0 m 79 ls []) := by
  obtain ⟨hx, hb, hml, hown, hts⟩ := id X
  unfold f_type_79 at hf
  refine lv_iconst (v := (0 : Int32)) hx hb dX12_type_79 (by decide) ?_
  obtain ⟨cd, hf⟩ := m_chkE hf
  cases hf
  exact hret H locs _ ls hM (m_nb cd) dX12_type_80
def f_type_33s (self33 : Int64 → Int32 → Int32 → (Nat → Int32) → (Nat → Nat → Int32) → Option (Int32 × MS)) (x1 : Int64) (x3 : Int32) (x4 : Int32) (I : Nat → Int32) (A : Nat → Nat → Int32) : Option (Int32 × MS) :=
  m_if (x3 ≤ x4) (
  f_type_90 mFuel x1 x3 (0 : Int32) I A
  ) (
  m_bnd ((8 : Int32) * x4) (fun v1 =>
  m_bnd (x1 >>> ((v1).toInt64 &&& 63)) (fun v2 =>
  m_bnd (v2 &&& (255 : Int64)) (fun v3 =>
  m_bnd (lg_cmp v3 (10 : Int64)) (fun v4 =>
  m_if (v4 = 0) (
  f_type_81 self33 x1 x3 x4 I A
  ) (
  m_bnd (lg_cmp v3 (32 : Int64)) (fun v5 =>
  m_if (v5 < 0) (
  f_type_79  I A
  ) (
  m_bnd (lg_cmp v3 (126 : Int64)) (fun v6 =>
  m_if (v6 ≤ 0) (
  f_type_81 self33 x1 x3 x4 I A
  ) (
  f_type_79  I A
  ))
  ))
  )))))
  )

set_option maxRecDepth 100000 in
set_option maxHeartbeats 4000000 in
theorem ws_type_33 {p : Program} {l : Launch} {e : Env} {s : State} {m : MethodId} {args : Array Value} {below : List Frame} {meth : Method} {c : Code} {Q : State → Prop} {D : va_G} {cy ci : ClassId} {h : Nat → Nat} {A0 : Nat → Prop} {o : Int32 × MS} (X : CallFix p m c cX12_type 7 s args wsX12_type RX12) (hret : mRi p l e ({ frames := 0, cells := 0, slots := 0, locals := 0 } : Room) s m args below meth c Q cX12_type D cy ci h A0 .boolean o) {self33 : Int64 → Int32 → Int32 → (Nat → Int32) → (Nat → Nat → Int32) → Option (Int32 × MS)} (hself33 : ∀ (x1 : Int64) (x3 : Int32) (x4 : Int32) (I : Nat → Int32) (A : Nat → Nat → Int32) (H : Heap) (locs : List Loc) (ls : Array Slot), self33 x1 x3 x4 I A = some o → mH D cy ci h A0 s H locs I A → lv_has ls 7 [(0, .ref (h 0)), (1, .long x1), (3, .int x3), (4, .int x4)] → W p l e ({ frames := 0, cells := 0, slots := 0, locals := 0 } : Room) s m args below meth c H locs 0 0 Q (F0 m 33 ls [])) {x1 : Int64} {x3 : Int32} {x4 : Int32} {I : Nat → Int32} {A : Nat → Nat → Int32} {H : Heap} {locs : List Loc} {ls : Array Slot} (hf : f_type_33s self33 x1 x3 x4 I A = some o) (hM : mH D cy ci h A0 s H locs I A) (hl : lv_has ls 7 [(0, .ref (h 0)), (1, .long x1), (3, .int x3), (4, .int x4)]) : W p l e ({ frames := 0, cells := 0, slots := 0, locals := 0 } : Room) s m args below meth c H locs 0 0 Q (F0 m 33 ls []) := by
  obtain ⟨hx, hb, hml, hown, hts⟩ := id X
  unfold f_type_33s at hf
  refine lv_iload hx hb dX12_type_33 (lv_at hl 3 rfl) ?_
  refine lv_iload_n hx hb dX12_type_35 rfl (lv_at hl 2 rfl) ?_
  refine lv_icmp_ge (tgt := 87) hx hb dX12_type_36 (by decide) (fun cc1 => ?_) (fun cc1 => ?_)
  · replace hf := m_ifT hf cc1
    refine lv_iconst (v := (0 : Int32)) hx hb dX12_type_87 (by decide) ?_
    refine lv_istore (lv' := [(4, .int (0 : Int32)), (0, .ref (h 0)), (1, .long x1), (3, .int x3)]) hx hb dX12_type_88 hl (by decide) rfl (fun ls hl => ?_)
    exact w_type_90 X hret _ _ _ _ _ _ _ _ _ hf hM (lv_sub hl [1, 2, 3, 0] rfl)
  · replace hf := m_ifF hf cc1
    refine lv_lload_n hx hb dX12_type_39 rfl (lv_at hl 1 rfl) ?_
    refine lv_bipush (v := (8 : Int32)) hx hb dX12_type_40 (by decide) ?_
    refine lv_iload hx hb dX12_type_42 (lv_at hl 3 rfl) ?_
    refine lv_imul hx hb dX12_type_44 ?_
    obtain ⟨v1, ev, hf⟩ := m_bndE hf
    refine m_top ev ?_
    clear ev
    refine lv_lshr (v := x1 >>> ((v1).toInt64 &&& 63)) hx hb dX12_type_45 rfl ?_
    obtain ⟨v2, ev, hf⟩ := m_bndE hf
    refine m_topl ev ?_
    clear ev
    refine lv_ldc2 (v := (255 : Int64)) hx hb hown (hts _ cl_type_356) dX12_type_46 ?_
    refine lv_land hx hb dX12_type_49 ?_
    obtain ⟨v3, ev, hf⟩ := m_bndE hf
    refine m_topl ev ?_
    clear ev
    refine lv_lstore (lv' := [(5, .long v3), (0, .ref (h 0)), (1, .long x1), (3, .int x3), (4, .int x4)]) hx hb dX12_type_50 hl (by decide) rfl (fun ls hl => ?_)
    refine lv_lload hx hb dX12_type_52 (lv_at hl 0 rfl) ?_
    refine lv_ldc2 (v := (10 : Int64)) hx hb hown (hts _ cl_type_358) dX12_type_54 ?_
    refine W.lcmp hx hb dX12_type_57 ?_
    obtain ⟨v4, ev, hf⟩ := m_bndE hf
    refine m_top ev ?_
    clear ev
    refine lv_if_eq (tgt := 81) hx hb dX12_type_58 (by decide) (fun cc1 => ?_) (fun cc1 => ?_)
    · replace hf := m_ifT hf cc1
      exact w_type_81 X hret hself33 hf hM (lv_sub hl [1, 2, 3, 4] rfl)
    · replace hf := m_ifF hf cc1
      refine lv_lload hx hb dX12_type_61 (lv_at hl 0 rfl) ?_
      refine lv_ldc2 (v := (32 : Int64)) hx hb hown (hts _ cl_type_360) dX12_type_63 ?_
      refine W.lcmp hx hb dX12_type_66 ?_
      obtain ⟨v5, ev, hf⟩ := m_bndE hf
      refine m_top ev ?_
      clear ev
      refine lv_if_lt (tgt := 79) hx hb dX12_type_67 (by decide) (fun cc1 => ?_) (fun cc1 => ?_)
      · replace hf := m_ifT hf cc1
        exact w_type_79 X hret hf hM (lv_sub hl [] rfl)
      · replace hf := m_ifF hf cc1
        refine lv_lload hx hb dX12_type_70 (lv_at hl 0 rfl) ?_
        refine lv_ldc2 (v := (126 : Int64)) hx hb hown (hts _ cl_type_362) dX12_type_72 ?_
        refine W.lcmp hx hb dX12_type_75 ?_
        obtain ⟨v6, ev, hf⟩ := m_bndE hf
        refine m_top ev ?_
        clear ev
        refine lv_if_le (tgt := 81) hx hb dX12_type_76 (by decide) (fun cc1 => ?_) (fun cc1 => ?_)
        · replace hf := m_ifT hf cc1
          exact w_type_81 X hret hself33 hf hM (lv_sub hl [1, 2, 3, 4] rfl)
        · replace hf := m_ifF hf cc1
          exact w_type_79 X hret hf hM (lv_sub hl [] rfl)
def f_type_33 : Nat → Int64 → Int32 → Int32 → (Nat → Int32) → (Nat → Nat → Int32) → Option (Int32 × MS)
  | 0 => fun _ _ _ _ _ => none
  | n + 1 => f_type_33s (f_type_33 n)
theorem w_type_33 {p : Program} {l : Launch} {e : Env} {s : State} {m : MethodId} {args : Array Value} {below : List Frame} {meth : Method} {c : Code} {Q : State → Prop} {D : va_G} {cy ci : ClassId} {h : Nat → Nat} {A0 : Nat → Prop} {o : Int32 × MS} (X : CallFix p m c cX12_type 7 s args wsX12_type RX12) (hret : mRi p l e ({ frames := 0, cells := 0, slots := 0, locals := 0 } : Room) s m args below meth c Q cX12_type D cy ci h A0 .boolean o) (n : Nat) : ∀ (x1 : Int64) (x3 : Int32) (x4 : Int32) (I : Nat → Int32) (A : Nat → Nat → Int32) (H : Heap) (locs : List Loc) (ls : Array Slot), f_type_33 n x1 x3 x4 I A = some o → mH D cy ci h A0 s H locs I A → lv_has ls 7 [(0, .ref (h 0)), (1, .long x1), (3, .int x3), (4, .int x4)] → W p l e ({ frames := 0, cells := 0, slots := 0, locals := 0 } : Room) s m args below meth c H locs 0 0 Q (F0 m 33 ls []) := by
  induction n with
  | zero => intro x1 x3 x4 I A H locs ls hf; cases hf
  | succ n ih => intro x1 x3 x4 I A H locs ls hf hM hl; exact ws_type_33 X hret (self33 := f_type_33 n) ih hf hM hl
def f_type_0 (x1 : Int64) (x3 : Int32) (I : Nat → Int32) (A : Nat → Nat → Int32) : Option (Int32 × MS) :=
  m_bnd (upd I 0 (0 : Int32)) (fun I1 =>
  m_if (x3 < (1 : Int32)) (
  f_type_28  I1 A
  ) (
  m_if ((8 : Int32) < x3) (
  f_type_28  I1 A
  ) (
  m_bnd ((I1 1) + x3) (fun v2 =>
  m_if (v2 ≤ (2000 : Int32)) (
  f_type_33 mFuel x1 x3 (0 : Int32) I1 A
  ) (
  f_type_28  I1 A
  ))
  )
  ))

set_option maxRecDepth 100000 in
set_option maxHeartbeats 4000000 in
theorem w_type_0 {p : Program} {l : Launch} {e : Env} {s : State} {m : MethodId} {args : Array Value} {below : List Frame} {meth : Method} {c : Code} {Q : State → Prop} {D : va_G} {cy ci : ClassId} {h : Nat → Nat} {A0 : Nat → Prop} {o : Int32 × MS} (X : CallFix p m c cX12_type 7 s args wsX12_type RX12) (hret : mRi p l e ({ frames := 0, cells := 0, slots := 0, locals := 0 } : Room) s m args below meth c Q cX12_type D cy ci h A0 .boolean o) {x1 : Int64} {x3 : Int32} {I : Nat → Int32} {A : Nat → Nat → Int32} {H : Heap} {locs : List Loc} {ls : Array Slot} (hf : f_type_0 x1 x3 I A = some o) (hM : mH D cy ci h A0 s H locs I A) (hl : lv_has ls 7 [(0, .ref (h 0)), (1, .long x1), (3, .int x3)]) : W p l e ({ frames := 0, cells := 0, slots := 0, locals := 0 } : Room) s m args below meth c H locs 0 0 Q (F0 m 0 ls []) := by
  obtain ⟨hx, hb, hml, hown, hts⟩ := id X
  unfold f_type_0 at hf
  refine lv_aload_n hx hb dX12_type_0 rfl (lv_at hl 0 rfl) ?_
  refine lv_iconst (v := (0 : Int32)) hx hb dX12_type_1 (by decide) ?_
  refine m_put X hw_type hM 0 (by decide) fl_type_0 mi_0 rfl (tyX12_ok 0 (by decide)) dX12_type_2 (fun H locs hM => ?_)
  obtain ⟨I1, ev, hf⟩ := m_bndE hf
  replace hM := m_hI hM ev
  clear ev
  refine lv_iload_n hx hb dX12_type_5 rfl (lv_at hl 2 rfl) ?_
  refine lv_iconst (v := (1 : Int32)) hx hb dX12_type_6 (by decide) ?_
  refine lv_icmp_lt (tgt := 28) hx hb dX12_type_7 (by decide) (fun cc1 => ?_) (fun cc1 => ?_)
  · replace hf := m_ifT hf cc1
    exact w_type_28 X hret hf hM (lv_sub hl [] rfl)
  · replace hf := m_ifF hf cc1
    refine lv_iload_n hx hb dX12_type_10 rfl (lv_at hl 2 rfl) ?_
    refine lv_bipush (v := (8 : Int32)) hx hb dX12_type_11 (by decide) ?_
    refine lv_icmp_gt (tgt := 28) hx hb dX12_type_13 (by decide) (fun cc1 => ?_) (fun cc1 => ?_)
    · replace hf := m_ifT hf cc1
      exact w_type_28 X hret hf hM (lv_sub hl [] rfl)
    · replace hf := m_ifF hf cc1
      refine lv_aload_n hx hb dX12_type_16 rfl (lv_at hl 0 rfl) ?_
      refine m_get (v := .int (I1 1)) X hw_type hM 1 (by decide) fl_type_1 rfl dX12_type_17 ?_
      refine lv_iload_n hx hb dX12_type_20 rfl (lv_at hl 2 rfl) ?_
      refine lv_iadd hx hb dX12_type_21 ?_
      obtain ⟨v2, ev, hf⟩ := m_bndE hf
      refine m_top ev ?_
      clear ev
      refine lv_sipush (v := (2000 : Int32)) hx hb dX12_type_22 (by decide) ?_
      refine lv_icmp_le (tgt := 30) hx hb dX12_type_25 (by decide) (fun cc1 => ?_) (fun cc1 => ?_)
      · replace hf := m_ifT hf cc1
        refine lv_iconst (v := (0 : Int32)) hx hb dX12_type_30 (by decide) ?_
        refine lv_istore (lv' := [(4, .int (0 : Int32)), (0, .ref (h 0)), (1, .long x1), (3, .int x3)]) hx hb dX12_type_31 hl (by decide) rfl (fun ls hl => ?_)
        exact w_type_33 X hret _ _ _ _ _ _ _ _ _ hf hM (lv_sub hl [1, 2, 3, 0] rfl)
      · replace hf := m_ifF hf cc1
        exact w_type_28 X hret hf hM (lv_sub hl [] rfl)
def f_type (x1 : Int64) (x3 : Int32) (I : Nat → Int32) (A : Nat → Nat → Int32) : Option (Int32 × MS) := f_type_0 x1 x3 I A
theorem c_type {l : Launch} {D : va_G} {cy ci : ClassId} {h : Nat → Nat} {x1 : Int64} {x3 : Int32} {I : Nat → Int32} {A : Nat → Nat → Int32} {o : Int32 × MS} (hf : f_type x1 x3 I A = some o) : mMi l yX12_type wsX12_type ({ frames := 0, cells := 0, slots := 0, locals := 0 } : Room) [.ref (h 0), .long x1, .int x3] D cy ci h I A o :=
  m_entryI (cc := cX12_type) (maxL := 7) (by decide) rfl rfl (Nat.le_of_ble_eq_true rfl) (fun p e s m args below meth c A0 Q H locs ls X hret hM hl => w_type_0 X hret hf hM (lv_sub hl [0, 1, 2] rfl))
theorem hw_cut : ∀ w ∈ wsX120, w ∈ wsX12_cut := by decide +kernel
theorem fl_cut_0 : Cond.fieldLink RX12 99 "MoveTextsModel" "thrown" "I" ∈ wsX12_cut := by decide +kernel
theorem fl_cut_1 : Cond.fieldLink RX12 270 "MoveTextsModel" "typed" "I" ∈ wsX12_cut := by decide +kernel
theorem hd_cut : yX12_cut.cls = RX12 ∧ yX12_cut.cls ≠ "java/lang/invoke/MethodHandle" ∧ yX12_cut.cls ≠ "java/lang/invoke/VarHandle" ∧ (parseMethodDescriptor yX12_cut.desc).map (fun d => d.parameters.length) = some 1 := by decide +kernel
def f_cut_17 (I : Nat → Int32) (A : Nat → Nat → Int32) : Option (Int32 × MS) :=
  m_chk (vp_nar .boolean (0 : Int32) = (0 : Int32)) (some ((0 : Int32), (I, A)))

set_option maxRecDepth 100000 in
set_option maxHeartbeats 4000000 in
theorem w_cut_17 {p : Program} {l : Launch} {e : Env} {s : State} {m : MethodId} {args : Array Value} {below : List Frame} {meth : Method} {c : Code} {Q : State → Prop} {D : va_G} {cy ci : ClassId} {h : Nat → Nat} {A0 : Nat → Prop} {o : Int32 × MS} (X : CallFix p m c cX12_cut 2 s args wsX12_cut RX12) (hret : mRi p l e ({ frames := 0, cells := 0, slots := 0, locals := 0 } : Room) s m args below meth c Q cX12_cut D cy ci h A0 .boolean o) {I : Nat → Int32} {A : Nat → Nat → Int32} {H : Heap} {locs : List Loc} {ls : Array Slot} (hf : f_cut_17  I A = some o) (hM : mH D cy ci h A0 s H locs I A) (hl : lv_has ls 2 []) : W p l e ({ frames := 0, cells := 0, slots := 0, locals := 0 } : Room) s m args below meth c H locs 0 0 Q (F0 m 17 ls []) := by
  obtain ⟨hx, hb, hml, hown, hts⟩ := id X
  unfold f_cut_17 at hf
  refine lv_iconst (v := (0 : Int32)) hx hb dX12_cut_17 (by decide) ?_
  obtain ⟨cd, hf⟩ := m_chkE hf
  cases hf
  exact hret H locs _ ls hM (m_nb cd) dX12_cut_18
def f_cut_0 (x1 : Int32) (I : Nat → Int32) (A : Nat → Nat → Int32) : Option (Int32 × MS) :=
  m_bnd (upd I 0 (0 : Int32)) (fun I1 =>
  m_if (x1 < 0) (
  f_cut_17  I1 A
  ) (
  m_if (x1 ≤ (I1 1)) (
  m_bnd (upd I1 1 x1) (fun I2 =>
  m_chk (vp_nar .boolean (1 : Int32) = (1 : Int32)) (some ((1 : Int32), (I2, A))))
  ) (
  f_cut_17  I1 A
  )
  ))

set_option maxRecDepth 100000 in
set_option maxHeartbeats 4000000 in
theorem w_cut_0 {p : Program} {l : Launch} {e : Env} {s : State} {m : MethodId} {args : Array Value} {below : List Frame} {meth : Method} {c : Code} {Q : State → Prop} {D : va_G} {cy ci : ClassId} {h : Nat → Nat} {A0 : Nat → Prop} {o : Int32 × MS} (X : CallFix p m c cX12_cut 2 s args wsX12_cut RX12) (hret : mRi p l e ({ frames := 0, cells := 0, slots := 0, locals := 0 } : Room) s m args below meth c Q cX12_cut D cy ci h A0 .boolean o) {x1 : Int32} {I : Nat → Int32} {A : Nat → Nat → Int32} {H : Heap} {locs : List Loc} {ls : Array Slot} (hf : f_cut_0 x1 I A = some o) (hM : mH D cy ci h A0 s H locs I A) (hl : lv_has ls 2 [(0, .ref (h 0)), (1, .int x1)]) : W p l e ({ frames := 0, cells := 0, slots := 0, locals := 0 } : Room) s m args below meth c H locs 0 0 Q (F0 m 0 ls []) := by
  obtain ⟨hx, hb, hml, hown, hts⟩ := id X
  unfold f_cut_0 at hf
  refine lv_aload_n hx hb dX12_cut_0 rfl (lv_at hl 0 rfl) ?_
  refine lv_iconst (v := (0 : Int32)) hx hb dX12_cut_1 (by decide) ?_
  refine m_put X hw_cut hM 0 (by decide) fl_cut_0 mi_0 rfl (tyX12_ok 0 (by decide)) dX12_cut_2 (fun H locs hM => ?_)
  obtain ⟨I1, ev, hf⟩ := m_bndE hf
  replace hM := m_hI hM ev
  clear ev
  refine lv_iload_n hx hb dX12_cut_5 rfl (lv_at hl 1 rfl) ?_
  refine lv_if_lt (tgt := 17) hx hb dX12_cut_6 (by decide) (fun cc1 => ?_) (fun cc1 => ?_)
  · replace hf := m_ifT hf cc1
    exact w_cut_17 X hret hf hM (lv_sub hl [] rfl)
  · replace hf := m_ifF hf cc1
    refine lv_iload_n hx hb dX12_cut_9 rfl (lv_at hl 1 rfl) ?_
    refine lv_aload_n hx hb dX12_cut_10 rfl (lv_at hl 0 rfl) ?_
    refine m_get (v := .int (I1 1)) X hw_cut hM 1 (by decide) fl_cut_1 rfl dX12_cut_11 ?_
    refine lv_icmp_le (tgt := 19) hx hb dX12_cut_14 (by decide) (fun cc1 => ?_) (fun cc1 => ?_)
    · replace hf := m_ifT hf cc1
      refine lv_aload_n hx hb dX12_cut_19 rfl (lv_at hl 0 rfl) ?_
      refine lv_iload_n hx hb dX12_cut_20 rfl (lv_at hl 1 rfl) ?_
      refine m_put X hw_cut hM 1 (by decide) fl_cut_1 mi_1 rfl (tyX12_ok 1 (by decide)) dX12_cut_21 (fun H locs hM => ?_)
      obtain ⟨I2, ev, hf⟩ := m_bndE hf
      replace hM := m_hI hM ev
      clear ev
      refine lv_iconst (v := (1 : Int32)) hx hb dX12_cut_24 (by decide) ?_
      obtain ⟨cd, hf⟩ := m_chkE hf
      cases hf
      exact hret H locs _ ls hM (m_nb cd) dX12_cut_25
    · replace hf := m_ifF hf cc1
      exact w_cut_17 X hret hf hM (lv_sub hl [] rfl)
def f_cut (x1 : Int32) (I : Nat → Int32) (A : Nat → Nat → Int32) : Option (Int32 × MS) := f_cut_0 x1 I A
theorem c_cut {l : Launch} {D : va_G} {cy ci : ClassId} {h : Nat → Nat} {x1 : Int32} {I : Nat → Int32} {A : Nat → Nat → Int32} {o : Int32 × MS} (hf : f_cut x1 I A = some o) : mMi l yX12_cut wsX12_cut ({ frames := 0, cells := 0, slots := 0, locals := 0 } : Room) [.ref (h 0), .int x1] D cy ci h I A o :=
  m_entryI (cc := cX12_cut) (maxL := 2) (by decide) rfl rfl (Nat.le_of_ble_eq_true rfl) (fun p e s m args below meth c A0 Q H locs ls X hret hM hl => w_cut_0 X hret hf hM (lv_sub hl [0, 1] rfl))
