theorem hw_readMoveNumber : ∀ w ∈ wsX120, w ∈ wsX12_readMoveNumber := by decide +kernel
theorem fl_readMoveNumber_29 : Cond.fieldLink RX12 133 "MoveTextsModel" "number" "I" ∈ wsX12_readMoveNumber := by decide +kernel
theorem fl_readMoveNumber_37 : Cond.fieldLink RX12 267 "MoveTextsModel" "at" "I" ∈ wsX12_readMoveNumber := by decide +kernel
def f_readMoveNumber_65s (self65 : Int32 → Int32 → (Nat → Int32) → (Nat → Nat → Int32) → Option (Int32 × MS)) (x1 : Int32) (x2 : Int32) (I : Nat → Int32) (A : Nat → Nat → Int32) : Option (Int32 × MS) :=
  m_cal (f_look  I A) (fun o1 =>
  m_if (o1.1 = (46 : Int32)) (
  m_bnd ((o1.2.1 37) + (1 : Int32)) (fun v4 =>
  m_bnd (upd o1.2.1 37 v4) (fun I5 =>
  self65 x1 x2 I5 o1.2.2))
  ) (
  m_if (x2 = (o1.2.1 29)) (
  m_cal (f_blanks  o1.2.1 o1.2.2) (fun o2 =>
  some ((0 : Int32), (o2.2.1, o2.2.2)))
  ) (
  m_cal (f_fault (7 : Int32) x1 o1.2.1 o1.2.2) (fun o3 =>
  some (o3.1, (o3.2.1, o3.2.2)))
  )
  ))

set_option maxRecDepth 100000 in
set_option maxHeartbeats 4000000 in
theorem ws_readMoveNumber_65 {p : Program} {l : Launch} {e : Env} {s : State} {m : MethodId} {args : Array Value} {below : List Frame} {meth : Method} {c : Code} {Q : State → Prop} {D : va_G} {cy ci : ClassId} {h : Nat → Nat} {A0 : Nat → Prop} {o : Int32 × MS} (X : CallFix p m c cX12_readMoveNumber 4 s args wsX12_readMoveNumber RX12) (hret : mRi p l e ({ frames := 1, cells := 0, slots := 0, locals := 21 } : Room) s m args below meth c Q cX12_readMoveNumber D cy ci h A0 .int o) {self65 : Int32 → Int32 → (Nat → Int32) → (Nat → Nat → Int32) → Option (Int32 × MS)} (hself65 : ∀ (x1 : Int32) (x2 : Int32) (I : Nat → Int32) (A : Nat → Nat → Int32) (H : Heap) (locs : List Loc) (ls : Array Slot), self65 x1 x2 I A = some o → mH D cy ci h A0 s H locs I A → lv_has ls 4 [(0, .ref (h 0)), (1, .int x1), (2, .int x2)] → W p l e ({ frames := 1, cells := 0, slots := 0, locals := 21 } : Room) s m args below meth c H locs 0 0 Q (F0 m 65 ls [])) {x1 : Int32} {x2 : Int32} {I : Nat → Int32} {A : Nat → Nat → Int32} {H : Heap} {locs : List Loc} {ls : Array Slot} (hf : f_readMoveNumber_65s self65 x1 x2 I A = some o) (hM : mH D cy ci h A0 s H locs I A) (hl : lv_has ls 4 [(0, .ref (h 0)), (1, .int x1), (2, .int x2)]) : W p l e ({ frames := 1, cells := 0, slots := 0, locals := 21 } : Room) s m args below meth c H locs 0 0 Q (F0 m 65 ls []) := by
  obtain ⟨hx, hb, hml, hown, hts⟩ := id X
  unfold f_readMoveNumber_65s at hf
  refine lv_aload_n hx hb dX12_readMoveNumber_65 rfl (lv_at hl 0 rfl) ?_
  obtain ⟨o1, ho, hf⟩ := m_calE hf
  refine m_callVi X hM (c_look ho) gX12_readMoveNumber_X12_look rfl ⟨rfl, rfl⟩ hd_look ⟨Nat.le_of_ble_eq_true rfl, Nat.le_of_ble_eq_true rfl⟩ rfl hl.1 rfl (Nat.le_of_ble_eq_true rfl) dX12_readMoveNumber_66 (fun H locs hM => ?_)
  clear ho
  refine lv_bipush (v := (46 : Int32)) hx hb dX12_readMoveNumber_69 (by decide) ?_
  refine lv_icmp_ne (tgt := 87) hx hb dX12_readMoveNumber_71 (by decide) (fun cc1 => ?_) (fun cc1 => ?_)
  · replace hf := m_ifF hf cc1
    refine lv_iload_n hx hb dX12_readMoveNumber_87 rfl (lv_at hl 2 rfl) ?_
    refine lv_aload_n hx hb dX12_readMoveNumber_88 rfl (lv_at hl 0 rfl) ?_
    refine m_get (v := .int (o1.2.1 29)) X hw_readMoveNumber hM 29 (by decide) fl_readMoveNumber_29 rfl dX12_readMoveNumber_89 ?_
    refine lv_icmp_eq (tgt := 102) hx hb dX12_readMoveNumber_92 (by decide) (fun cc1 => ?_) (fun cc1 => ?_)
    · replace hf := m_ifT hf cc1
      refine lv_aload_n hx hb dX12_readMoveNumber_102 rfl (lv_at hl 0 rfl) ?_
      obtain ⟨o2, ho, hf⟩ := m_calE hf
      refine m_callVv X hM (c_blanks ho) gX12_readMoveNumber_X12_blanks rfl ⟨rfl, rfl⟩ hd_blanks ⟨Nat.le_of_ble_eq_true rfl, Nat.le_of_ble_eq_true rfl⟩ rfl hl.1 rfl (Nat.le_of_ble_eq_true rfl) dX12_readMoveNumber_103 (fun H locs hM => ?_)
      clear ho
      refine lv_iconst (v := (0 : Int32)) hx hb dX12_readMoveNumber_106 (by decide) ?_
      cases hf
      exact hret H locs _ ls hM rfl dX12_readMoveNumber_107
    · replace hf := m_ifF hf cc1
      refine lv_bipush (v := (7 : Int32)) hx hb dX12_readMoveNumber_95 (by decide) ?_
      refine lv_iload_n hx hb dX12_readMoveNumber_97 rfl (lv_at hl 1 rfl) ?_
      obtain ⟨o3, ho, hf⟩ := m_calE hf
      refine m_callSi X hM (c_fault ho) gX12_readMoveNumber_X12_fault rfl ⟨rfl, rfl⟩ hd_fault ⟨Nat.le_of_ble_eq_true rfl, Nat.le_of_ble_eq_true rfl⟩ rfl hl.1 rfl (Nat.le_of_ble_eq_true rfl) dX12_readMoveNumber_98 (fun H locs hM => ?_)
      clear ho
      cases hf
      exact hret H locs _ ls hM rfl dX12_readMoveNumber_101
  · replace hf := m_ifT hf cc1
    refine lv_aload_n hx hb dX12_readMoveNumber_74 rfl (lv_at hl 0 rfl) ?_
    refine lv_dup hx hb dX12_readMoveNumber_75 rfl ?_
    refine m_get (v := .int (o1.2.1 37)) X hw_readMoveNumber hM 37 (by decide) fl_readMoveNumber_37 rfl dX12_readMoveNumber_76 ?_
    refine lv_iconst (v := (1 : Int32)) hx hb dX12_readMoveNumber_79 (by decide) ?_
    refine lv_iadd hx hb dX12_readMoveNumber_80 ?_
    obtain ⟨v4, ev, hf⟩ := m_bndE hf
    refine m_top ev ?_
    clear ev
    refine m_put X hw_readMoveNumber hM 37 (by decide) fl_readMoveNumber_37 mi_37 rfl (tyX12_ok 37 (by decide)) dX12_readMoveNumber_81 (fun H locs hM => ?_)
    obtain ⟨I5, ev, hf⟩ := m_bndE hf
    replace hM := m_hI hM ev
    clear ev
    refine lv_goto (tgt := 65) hx hb dX12_readMoveNumber_84 (by decide) ?_
    exact hself65 _ _ _ _ _ _ _ hf hM (lv_sub hl [0, 1, 2] rfl)
def f_readMoveNumber_65 : Nat → Int32 → Int32 → (Nat → Int32) → (Nat → Nat → Int32) → Option (Int32 × MS)
  | 0 => fun _ _ _ _ => none
  | n + 1 => f_readMoveNumber_65s (f_readMoveNumber_65 n)
theorem w_readMoveNumber_65 {p : Program} {l : Launch} {e : Env} {s : State} {m : MethodId} {args : Array Value} {below : List Frame} {meth : Method} {c : Code} {Q : State → Prop} {D : va_G} {cy ci : ClassId} {h : Nat → Nat} {A0 : Nat → Prop} {o : Int32 × MS} (X : CallFix p m c cX12_readMoveNumber 4 s args wsX12_readMoveNumber RX12) (hret : mRi p l e ({ frames := 1, cells := 0, slots := 0, locals := 21 } : Room) s m args below meth c Q cX12_readMoveNumber D cy ci h A0 .int o) (n : Nat) : ∀ (x1 : Int32) (x2 : Int32) (I : Nat → Int32) (A : Nat → Nat → Int32) (H : Heap) (locs : List Loc) (ls : Array Slot), f_readMoveNumber_65 n x1 x2 I A = some o → mH D cy ci h A0 s H locs I A → lv_has ls 4 [(0, .ref (h 0)), (1, .int x1), (2, .int x2)] → W p l e ({ frames := 1, cells := 0, slots := 0, locals := 21 } : Room) s m args below meth c H locs 0 0 Q (F0 m 65 ls []) := by
  induction n with
  | zero => intro x1 x2 I A H locs ls hf; cases hf
  | succ n ih => intro x1 x2 I A H locs ls hf hM hl; exact ws_readMoveNumber_65 X hret (self65 := f_readMoveNumber_65 n) ih hf hM hl
def f_readMoveNumber_21s (self21 : Int32 → Int32 → Int32 → (Nat → Int32) → (Nat → Nat → Int32) → Option (Int32 × MS)) (x1 : Int32) (x2 : Int32) (x3 : Int32) (I : Nat → Int32) (A : Nat → Nat → Int32) : Option (Int32 × MS) :=
  m_cal (f_look  I A) (fun o1 =>
  m_cal (f_isDigit o1.1 o1.2.1 o1.2.2) (fun o2 =>
  m_if (o2.1 = 0) (
  f_readMoveNumber_65 mFuel x1 x2 o2.2.1 o2.2.2
  ) (
  m_if ((4 : Int32) ≤ x3) (
  f_readMoveNumber_65 mFuel x1 x2 o2.2.1 o2.2.2
  ) (
  m_bnd ((10 : Int32) * x2) (fun v3 =>
  m_cal (f_look  o2.2.1 o2.2.2) (fun o4 =>
  m_bnd (v3 + o4.1) (fun v5 =>
  m_bnd (v5 - (48 : Int32)) (fun v6 =>
  m_bnd (x3 + (1 : Int32)) (fun v7 =>
  m_bnd ((o4.2.1 37) + (1 : Int32)) (fun v8 =>
  m_bnd (upd o4.2.1 37 v8) (fun I9 =>
  self21 x1 v6 v7 I9 o4.2.2)))))))
  )
  )))

set_option maxRecDepth 100000 in
set_option maxHeartbeats 4000000 in
theorem ws_readMoveNumber_21 {p : Program} {l : Launch} {e : Env} {s : State} {m : MethodId} {args : Array Value} {below : List Frame} {meth : Method} {c : Code} {Q : State → Prop} {D : va_G} {cy ci : ClassId} {h : Nat → Nat} {A0 : Nat → Prop} {o : Int32 × MS} (X : CallFix p m c cX12_readMoveNumber 4 s args wsX12_readMoveNumber RX12) (hret : mRi p l e ({ frames := 1, cells := 0, slots := 0, locals := 21 } : Room) s m args below meth c Q cX12_readMoveNumber D cy ci h A0 .int o) {self21 : Int32 → Int32 → Int32 → (Nat → Int32) → (Nat → Nat → Int32) → Option (Int32 × MS)} (hself21 : ∀ (x1 : Int32) (x2 : Int32) (x3 : Int32) (I : Nat → Int32) (A : Nat → Nat → Int32) (H : Heap) (locs : List Loc) (ls : Array Slot), self21 x1 x2 x3 I A = some o → mH D cy ci h A0 s H locs I A → lv_has ls 4 [(0, .ref (h 0)), (1, .int x1), (2, .int x2), (3, .int x3)] → W p l e ({ frames := 1, cells := 0, slots := 0, locals := 21 } : Room) s m args below meth c H locs 0 0 Q (F0 m 21 ls [])) {x1 : Int32} {x2 : Int32} {x3 : Int32} {I : Nat → Int32} {A : Nat → Nat → Int32} {H : Heap} {locs : List Loc} {ls : Array Slot} (hf : f_readMoveNumber_21s self21 x1 x2 x3 I A = some o) (hM : mH D cy ci h A0 s H locs I A) (hl : lv_has ls 4 [(0, .ref (h 0)), (1, .int x1), (2, .int x2), (3, .int x3)]) : W p l e ({ frames := 1, cells := 0, slots := 0, locals := 21 } : Room) s m args below meth c H locs 0 0 Q (F0 m 21 ls []) := by
  obtain ⟨hx, hb, hml, hown, hts⟩ := id X
  unfold f_readMoveNumber_21s at hf
  refine lv_aload_n hx hb dX12_readMoveNumber_21 rfl (lv_at hl 0 rfl) ?_
  obtain ⟨o1, ho, hf⟩ := m_calE hf
  refine m_callVi X hM (c_look ho) gX12_readMoveNumber_X12_look rfl ⟨rfl, rfl⟩ hd_look ⟨Nat.le_of_ble_eq_true rfl, Nat.le_of_ble_eq_true rfl⟩ rfl hl.1 rfl (Nat.le_of_ble_eq_true rfl) dX12_readMoveNumber_22 (fun H locs hM => ?_)
  clear ho
  obtain ⟨o2, ho, hf⟩ := m_calE hf
  refine m_callSi X hM (c_isDigit ho) gX12_readMoveNumber_X12_isDigit rfl ⟨rfl, rfl⟩ hd_isDigit ⟨Nat.le_of_ble_eq_true rfl, Nat.le_of_ble_eq_true rfl⟩ rfl hl.1 rfl (Nat.le_of_ble_eq_true rfl) dX12_readMoveNumber_25 (fun H locs hM => ?_)
  clear ho
  refine lv_if_eq (tgt := 65) hx hb dX12_readMoveNumber_28 (by decide) (fun cc1 => ?_) (fun cc1 => ?_)
  · replace hf := m_ifT hf cc1
    exact w_readMoveNumber_65 X hret _ _ _ _ _ _ _ _ hf hM (lv_sub hl [0, 1, 2] rfl)
  · replace hf := m_ifF hf cc1
    refine lv_iload_n hx hb dX12_readMoveNumber_31 rfl (lv_at hl 3 rfl) ?_
    refine lv_iconst (v := (4 : Int32)) hx hb dX12_readMoveNumber_32 (by decide) ?_
    refine lv_icmp_ge (tgt := 65) hx hb dX12_readMoveNumber_33 (by decide) (fun cc1 => ?_) (fun cc1 => ?_)
    · replace hf := m_ifT hf cc1
      exact w_readMoveNumber_65 X hret _ _ _ _ _ _ _ _ hf hM (lv_sub hl [0, 1, 2] rfl)
    · replace hf := m_ifF hf cc1
      refine lv_bipush (v := (10 : Int32)) hx hb dX12_readMoveNumber_36 (by decide) ?_
      refine lv_iload_n hx hb dX12_readMoveNumber_38 rfl (lv_at hl 2 rfl) ?_
      refine lv_imul hx hb dX12_readMoveNumber_39 ?_
      obtain ⟨v3, ev, hf⟩ := m_bndE hf
      refine m_top ev ?_
      clear ev
      refine lv_aload_n hx hb dX12_readMoveNumber_40 rfl (lv_at hl 0 rfl) ?_
      obtain ⟨o4, ho, hf⟩ := m_calE hf
      refine m_callVi X hM (c_look ho) gX12_readMoveNumber_X12_look rfl ⟨rfl, rfl⟩ hd_look ⟨Nat.le_of_ble_eq_true rfl, Nat.le_of_ble_eq_true rfl⟩ rfl hl.1 rfl (Nat.le_of_ble_eq_true rfl) dX12_readMoveNumber_41 (fun H locs hM => ?_)
      clear ho
      refine lv_iadd hx hb dX12_readMoveNumber_44 ?_
      obtain ⟨v5, ev, hf⟩ := m_bndE hf
      refine m_top ev ?_
      clear ev
      refine lv_bipush (v := (48 : Int32)) hx hb dX12_readMoveNumber_45 (by decide) ?_
      refine lv_isub hx hb dX12_readMoveNumber_47 ?_
      obtain ⟨v6, ev, hf⟩ := m_bndE hf
      refine m_top ev ?_
      clear ev
      refine lv_istore_n (lv' := [(2, .int v6), (0, .ref (h 0)), (1, .int x1), (3, .int x3)]) hx hb dX12_readMoveNumber_48 rfl hl (by decide) rfl (fun ls hl => ?_)
      obtain ⟨v7, ev, hf⟩ := m_bndE hf
      refine lv_iinc (v := v7) (lv' := [(3, .int v7), (2, .int v6), (0, .ref (h 0)), (1, .int x1)]) hx hb dX12_readMoveNumber_49 hl (k := 3) rfl (by rw [ev]; rfl) (by decide) rfl (fun ls hl => ?_)
      clear ev
      refine lv_aload_n hx hb dX12_readMoveNumber_52 rfl (lv_at hl 2 rfl) ?_
      refine lv_dup hx hb dX12_readMoveNumber_53 rfl ?_
      refine m_get (v := .int (o4.2.1 37)) X hw_readMoveNumber hM 37 (by decide) fl_readMoveNumber_37 rfl dX12_readMoveNumber_54 ?_
      refine lv_iconst (v := (1 : Int32)) hx hb dX12_readMoveNumber_57 (by decide) ?_
      refine lv_iadd hx hb dX12_readMoveNumber_58 ?_
      obtain ⟨v8, ev, hf⟩ := m_bndE hf
      refine m_top ev ?_
      clear ev
      refine m_put X hw_readMoveNumber hM 37 (by decide) fl_readMoveNumber_37 mi_37 rfl (tyX12_ok 37 (by decide)) dX12_readMoveNumber_59 (fun H locs hM => ?_)
      obtain ⟨I9, ev, hf⟩ := m_bndE hf
      replace hM := m_hI hM ev
      clear ev
      refine lv_goto (tgt := 21) hx hb dX12_readMoveNumber_62 (by decide) ?_
      exact hself21 _ _ _ _ _ _ _ _ hf hM (lv_sub hl [2, 3, 1, 0] rfl)
def f_readMoveNumber_21 : Nat → Int32 → Int32 → Int32 → (Nat → Int32) → (Nat → Nat → Int32) → Option (Int32 × MS)
  | 0 => fun _ _ _ _ _ => none
  | n + 1 => f_readMoveNumber_21s (f_readMoveNumber_21 n)
theorem w_readMoveNumber_21 {p : Program} {l : Launch} {e : Env} {s : State} {m : MethodId} {args : Array Value} {below : List Frame} {meth : Method} {c : Code} {Q : State → Prop} {D : va_G} {cy ci : ClassId} {h : Nat → Nat} {A0 : Nat → Prop} {o : Int32 × MS} (X : CallFix p m c cX12_readMoveNumber 4 s args wsX12_readMoveNumber RX12) (hret : mRi p l e ({ frames := 1, cells := 0, slots := 0, locals := 21 } : Room) s m args below meth c Q cX12_readMoveNumber D cy ci h A0 .int o) (n : Nat) : ∀ (x1 : Int32) (x2 : Int32) (x3 : Int32) (I : Nat → Int32) (A : Nat → Nat → Int32) (H : Heap) (locs : List Loc) (ls : Array Slot), f_readMoveNumber_21 n x1 x2 x3 I A = some o → mH D cy ci h A0 s H locs I A → lv_has ls 4 [(0, .ref (h 0)), (1, .int x1), (2, .int x2), (3, .int x3)] → W p l e ({ frames := 1, cells := 0, slots := 0, locals := 21 } : Room) s m args below meth c H locs 0 0 Q (F0 m 21 ls []) := by
  induction n with
  | zero => intro x1 x2 x3 I A H locs ls hf; cases hf
  | succ n ih => intro x1 x2 x3 I A H locs ls hf hM hl; exact ws_readMoveNumber_21 X hret (self21 := f_readMoveNumber_21 n) ih hf hM hl
def f_readMoveNumber_0 (I : Nat → Int32) (A : Nat → Nat → Int32) : Option (Int32 × MS) :=
  m_cal (f_look  I A) (fun o1 =>
  m_cal (f_isDigit o1.1 o1.2.1 o1.2.2) (fun o2 =>
  m_if (o2.1 = 0) (
  some ((0 : Int32), (o2.2.1, o2.2.2))
  ) (
  f_readMoveNumber_21 mFuel (o2.2.1 37) (0 : Int32) (0 : Int32) o2.2.1 o2.2.2
  )))

set_option maxRecDepth 100000 in
set_option maxHeartbeats 4000000 in
theorem w_readMoveNumber_0 {p : Program} {l : Launch} {e : Env} {s : State} {m : MethodId} {args : Array Value} {below : List Frame} {meth : Method} {c : Code} {Q : State → Prop} {D : va_G} {cy ci : ClassId} {h : Nat → Nat} {A0 : Nat → Prop} {o : Int32 × MS} (X : CallFix p m c cX12_readMoveNumber 4 s args wsX12_readMoveNumber RX12) (hret : mRi p l e ({ frames := 1, cells := 0, slots := 0, locals := 21 } : Room) s m args below meth c Q cX12_readMoveNumber D cy ci h A0 .int o) {I : Nat → Int32} {A : Nat → Nat → Int32} {H : Heap} {locs : List Loc} {ls : Array Slot} (hf : f_readMoveNumber_0  I A = some o) (hM : mH D cy ci h A0 s H locs I A) (hl : lv_has ls 4 [(0, .ref (h 0))]) : W p l e ({ frames := 1, cells := 0, slots := 0, locals := 21 } : Room) s m args below meth c H locs 0 0 Q (F0 m 0 ls []) := by
  obtain ⟨hx, hb, hml, hown, hts⟩ := id X
  unfold f_readMoveNumber_0 at hf
  refine lv_aload_n hx hb dX12_readMoveNumber_0 rfl (lv_at hl 0 rfl) ?_
  obtain ⟨o1, ho, hf⟩ := m_calE hf
  refine m_callVi X hM (c_look ho) gX12_readMoveNumber_X12_look rfl ⟨rfl, rfl⟩ hd_look ⟨Nat.le_of_ble_eq_true rfl, Nat.le_of_ble_eq_true rfl⟩ rfl hl.1 rfl (Nat.le_of_ble_eq_true rfl) dX12_readMoveNumber_1 (fun H locs hM => ?_)
  clear ho
  obtain ⟨o2, ho, hf⟩ := m_calE hf
  refine m_callSi X hM (c_isDigit ho) gX12_readMoveNumber_X12_isDigit rfl ⟨rfl, rfl⟩ hd_isDigit ⟨Nat.le_of_ble_eq_true rfl, Nat.le_of_ble_eq_true rfl⟩ rfl hl.1 rfl (Nat.le_of_ble_eq_true rfl) dX12_readMoveNumber_4 (fun H locs hM => ?_)
  clear ho
  refine lv_if_ne (tgt := 12) hx hb dX12_readMoveNumber_7 (by decide) (fun cc1 => ?_) (fun cc1 => ?_)
  · replace hf := m_ifF hf cc1
    refine lv_aload_n hx hb dX12_readMoveNumber_12 rfl (lv_at hl 0 rfl) ?_
    refine m_get (v := .int (o2.2.1 37)) X hw_readMoveNumber hM 37 (by decide) fl_readMoveNumber_37 rfl dX12_readMoveNumber_13 ?_
    refine lv_istore_n (lv' := [(1, .int (o2.2.1 37)), (0, .ref (h 0))]) hx hb dX12_readMoveNumber_16 rfl hl (by decide) rfl (fun ls hl => ?_)
    refine lv_iconst (v := (0 : Int32)) hx hb dX12_readMoveNumber_17 (by decide) ?_
    refine lv_istore_n (lv' := [(2, .int (0 : Int32)), (1, .int (o2.2.1 37)), (0, .ref (h 0))]) hx hb dX12_readMoveNumber_18 rfl hl (by decide) rfl (fun ls hl => ?_)
    refine lv_iconst (v := (0 : Int32)) hx hb dX12_readMoveNumber_19 (by decide) ?_
    refine lv_istore_n (lv' := [(3, .int (0 : Int32)), (2, .int (0 : Int32)), (1, .int (o2.2.1 37)), (0, .ref (h 0))]) hx hb dX12_readMoveNumber_20 rfl hl (by decide) rfl (fun ls hl => ?_)
    exact w_readMoveNumber_21 X hret _ _ _ _ _ _ _ _ _ hf hM (lv_sub hl [3, 2, 1, 0] rfl)
  · replace hf := m_ifT hf cc1
    refine lv_iconst (v := (0 : Int32)) hx hb dX12_readMoveNumber_10 (by decide) ?_
    cases hf
    exact hret H locs _ ls hM rfl dX12_readMoveNumber_11
def f_readMoveNumber (I : Nat → Int32) (A : Nat → Nat → Int32) : Option (Int32 × MS) := f_readMoveNumber_0  I A
theorem c_readMoveNumber {l : Launch} {D : va_G} {cy ci : ClassId} {h : Nat → Nat} {I : Nat → Int32} {A : Nat → Nat → Int32} {o : Int32 × MS} (hf : f_readMoveNumber  I A = some o) : mMi l yX12_readMoveNumber wsX12_readMoveNumber ({ frames := 1, cells := 0, slots := 0, locals := 21 } : Room) [.ref (h 0)] D cy ci h I A o :=
  m_entryI (cc := cX12_readMoveNumber) (maxL := 4) (by decide) rfl rfl (Nat.le_of_ble_eq_true rfl) (fun p e s m args below meth c A0 Q H locs ls X hret hM hl => w_readMoveNumber_0 X hret hf hM (lv_sub hl [0] rfl))
theorem hd_readMoveNumber : yX12_readMoveNumber.cls = RX12 ∧ yX12_readMoveNumber.cls ≠ "java/lang/invoke/MethodHandle" ∧ yX12_readMoveNumber.cls ≠ "java/lang/invoke/VarHandle" ∧ (parseMethodDescriptor yX12_readMoveNumber.desc).map (fun d => d.parameters.length) = some 0 := by decide +kernel
theorem hw_readMove : ∀ w ∈ wsX120, w ∈ wsX12_readMove := by decide +kernel
theorem fl_readMove_7 : Cond.fieldLink RX12 17 "MoveTextsModel" "count" "[I" ∈ wsX12_readMove := by decide +kernel
theorem fl_readMove_37 : Cond.fieldLink RX12 267 "MoveTextsModel" "at" "I" ∈ wsX12_readMove := by decide +kernel
def f_readMove_81 (self25 : Int32 → Int32 → Int32 → (Nat → Int32) → (Nat → Nat → Int32) → Option (Int32 × MS)) (x1 : Int32) (x2 : Int32) (x3 : Int32) (I : Nat → Int32) (A : Nat → Nat → Int32) : Option (Int32 × MS) :=
  m_bnd ((I 37) + (1 : Int32)) (fun v1 =>
  m_bnd (upd I 37 v1) (fun I2 =>
  self25 x1 x2 x3 I2 A))

set_option maxRecDepth 100000 in
set_option maxHeartbeats 4000000 in
theorem w_readMove_81 {p : Program} {l : Launch} {e : Env} {s : State} {m : MethodId} {args : Array Value} {below : List Frame} {meth : Method} {c : Code} {Q : State → Prop} {D : va_G} {cy ci : ClassId} {h : Nat → Nat} {A0 : Nat → Prop} {o : Int32 × MS} (X : CallFix p m c cX12_readMove 5 s args wsX12_readMove RX12) (hret : mRi p l e ({ frames := 8, cells := 0, slots := 0, locals := 210 } : Room) s m args below meth c Q cX12_readMove D cy ci h A0 .int o) {self25 : Int32 → Int32 → Int32 → (Nat → Int32) → (Nat → Nat → Int32) → Option (Int32 × MS)} (hself25 : ∀ (x1 : Int32) (x2 : Int32) (x3 : Int32) (I : Nat → Int32) (A : Nat → Nat → Int32) (H : Heap) (locs : List Loc) (ls : Array Slot), self25 x1 x2 x3 I A = some o → mH D cy ci h A0 s H locs I A → lv_has ls 5 [(0, .ref (h 0)), (1, .int x1), (2, .int x2), (3, .int x3)] → W p l e ({ frames := 8, cells := 0, slots := 0, locals := 210 } : Room) s m args below meth c H locs 0 0 Q (F0 m 25 ls [])) {x1 : Int32} {x2 : Int32} {x3 : Int32} {I : Nat → Int32} {A : Nat → Nat → Int32} {H : Heap} {locs : List Loc} {ls : Array Slot} (hf : f_readMove_81 self25 x1 x2 x3 I A = some o) (hM : mH D cy ci h A0 s H locs I A) (hl : lv_has ls 5 [(0, .ref (h 0)), (1, .int x1), (2, .int x2), (3, .int x3)]) : W p l e ({ frames := 8, cells := 0, slots := 0, locals := 210 } : Room) s m args below meth c H locs 0 0 Q (F0 m 81 ls []) := by
  obtain ⟨hx, hb, hml, hown, hts⟩ := id X
  unfold f_readMove_81 at hf
  refine lv_aload_n hx hb dX12_readMove_81 rfl (lv_at hl 0 rfl) ?_
  refine lv_dup hx hb dX12_readMove_82 rfl ?_
  refine m_get (v := .int (I 37)) X hw_readMove hM 37 (by decide) fl_readMove_37 rfl dX12_readMove_83 ?_
  refine lv_iconst (v := (1 : Int32)) hx hb dX12_readMove_86 (by decide) ?_
  refine lv_iadd hx hb dX12_readMove_87 ?_
  obtain ⟨v1, ev, hf⟩ := m_bndE hf
  refine m_top ev ?_
  clear ev
  refine m_put X hw_readMove hM 37 (by decide) fl_readMove_37 mi_37 rfl (tyX12_ok 37 (by decide)) dX12_readMove_88 (fun H locs hM => ?_)
  obtain ⟨I2, ev, hf⟩ := m_bndE hf
  replace hM := m_hI hM ev
  clear ev
  refine lv_goto (tgt := 25) hx hb dX12_readMove_91 (by decide) ?_
  exact hself25 _ _ _ _ _ _ _ _ hf hM (lv_sub hl [0, 1, 2, 3] rfl)
def f_readMove_122 (x3 : Int32) (t0 : Int32) (I : Nat → Int32) (A : Nat → Nat → Int32) : Option (Int32 × MS) :=
  m_cal (f_fault t0 x3 I A) (fun o1 =>
  m_bnd (-o1.1) (fun v2 =>
  some (v2, (o1.2.1, o1.2.2))))

set_option maxRecDepth 100000 in
set_option maxHeartbeats 4000000 in
theorem w_readMove_122 {p : Program} {l : Launch} {e : Env} {s : State} {m : MethodId} {args : Array Value} {below : List Frame} {meth : Method} {c : Code} {Q : State → Prop} {D : va_G} {cy ci : ClassId} {h : Nat → Nat} {A0 : Nat → Prop} {o : Int32 × MS} (X : CallFix p m c cX12_readMove 5 s args wsX12_readMove RX12) (hret : mRi p l e ({ frames := 8, cells := 0, slots := 0, locals := 210 } : Room) s m args below meth c Q cX12_readMove D cy ci h A0 .int o) {x3 : Int32} {t0 : Int32} {I : Nat → Int32} {A : Nat → Nat → Int32} {H : Heap} {locs : List Loc} {ls : Array Slot} (hf : f_readMove_122 x3 t0 I A = some o) (hM : mH D cy ci h A0 s H locs I A) (hl : lv_has ls 5 [(3, .int x3)]) : W p l e ({ frames := 8, cells := 0, slots := 0, locals := 210 } : Room) s m args below meth c H locs 0 0 Q (F0 m 122 ls [.int t0]) := by
  obtain ⟨hx, hb, hml, hown, hts⟩ := id X
  unfold f_readMove_122 at hf
  refine lv_iload_n hx hb dX12_readMove_122 rfl (lv_at hl 0 rfl) ?_
  obtain ⟨o1, ho, hf⟩ := m_calE hf
  refine m_callSi X hM (c_fault ho) gX12_readMove_X12_fault rfl ⟨rfl, rfl⟩ hd_fault ⟨Nat.le_of_ble_eq_true rfl, Nat.le_of_ble_eq_true rfl⟩ rfl hl.1 rfl (Nat.le_of_ble_eq_true rfl) dX12_readMove_123 (fun H locs hM => ?_)
  clear ho
  refine lv_ineg hx hb dX12_readMove_126 ?_
  obtain ⟨v2, ev, hf⟩ := m_bndE hf
  refine m_top ev ?_
  clear ev
  cases hf
  exact hret H locs _ ls hM rfl dX12_readMove_127
def f_readMove_25s (self25 : Int32 → Int32 → Int32 → (Nat → Int32) → (Nat → Nat → Int32) → Option (Int32 × MS)) (x1 : Int32) (x2 : Int32) (x3 : Int32) (I : Nat → Int32) (A : Nat → Nat → Int32) : Option (Int32 × MS) :=
  m_cal (f_look  I A) (fun o1 =>
  m_cal (f_isLetter o1.1 o1.2.1 o1.2.2) (fun o2 =>
  m_if (o2.1 = 0) (
  m_cal (f_look  o2.2.1 o2.2.2) (fun o3 =>
  m_cal (f_isDigit o3.1 o3.2.1 o3.2.2) (fun o4 =>
  m_if (o4.1 = 0) (
  m_cal (f_look  o4.2.1 o4.2.2) (fun o5 =>
  m_if (o5.1 = (61 : Int32)) (
  f_readMove_81 self25 x1 x2 x3 o5.2.1 o5.2.2
  ) (
  m_cal (f_look  o5.2.1 o5.2.2) (fun o6 =>
  m_if (o6.1 = (45 : Int32)) (
  f_readMove_81 self25 x1 x2 x3 o6.2.1 o6.2.2
  ) (
  m_cal (f_look  o6.2.1 o6.2.2) (fun o7 =>
  m_if (o7.1 = (43 : Int32)) (
  f_readMove_81 self25 x1 x2 x3 o7.2.1 o7.2.2
  ) (
  m_cal (f_look  o7.2.1 o7.2.2) (fun o8 =>
  m_if (o8.1 = (35 : Int32)) (
  f_readMove_81 self25 x1 x2 x3 o8.2.1 o8.2.2
  ) (
  m_cal (f_understood x3 (o8.2.1 37) o8.2.1 o8.2.2) (fun o9 =>
  m_if (0 ≤ o9.1) (
  m_cal (f_childWith x1 x2 o9.1 o9.2.1 o9.2.2) (fun o10 =>
  m_if (o10.1 < 0) (
  m_chk (¬ (x1 < 0 ∨ 2 ≤ (x1).toNatClampNeg)) (
  m_bnd (o10.2.2 7 (x1).toNatClampNeg) (fun v11 =>
  m_if (v11 = (300 : Int32)) (
  m_cal (f_fault (8 : Int32) x3 o10.2.1 o10.2.2) (fun o13 =>
  m_bnd (-o13.1) (fun v14 =>
  some (v14, (o13.2.1, o13.2.2))))
  ) (
  m_cal (f_append x1 x2 o9.1 o10.2.1 o10.2.2) (fun o12 =>
  some (o12.1, (o12.2.1, o12.2.2)))
  )))
  ) (
  m_cal (f_fault (6 : Int32) x3 o10.2.1 o10.2.2) (fun o15 =>
  m_bnd (-o15.1) (fun v16 =>
  some (v16, (o15.2.1, o15.2.2))))
  ))
  ) (
  m_if (o9.1 = (-2 : Int32)) (
  f_readMove_122 x3 (5 : Int32) o9.2.1 o9.2.2
  ) (
  f_readMove_122 x3 (4 : Int32) o9.2.1 o9.2.2
  )
  ))
  ))
  ))
  ))
  ))
  ) (
  f_readMove_81 self25 x1 x2 x3 o4.2.1 o4.2.2
  )))
  ) (
  f_readMove_81 self25 x1 x2 x3 o2.2.1 o2.2.2
  )))

set_option maxRecDepth 100000 in
set_option maxHeartbeats 4000000 in
theorem ws_readMove_25 {p : Program} {l : Launch} {e : Env} {s : State} {m : MethodId} {args : Array Value} {below : List Frame} {meth : Method} {c : Code} {Q : State → Prop} {D : va_G} {cy ci : ClassId} {h : Nat → Nat} {A0 : Nat → Prop} {o : Int32 × MS} (X : CallFix p m c cX12_readMove 5 s args wsX12_readMove RX12) (hret : mRi p l e ({ frames := 8, cells := 0, slots := 0, locals := 210 } : Room) s m args below meth c Q cX12_readMove D cy ci h A0 .int o) {self25 : Int32 → Int32 → Int32 → (Nat → Int32) → (Nat → Nat → Int32) → Option (Int32 × MS)} (hself25 : ∀ (x1 : Int32) (x2 : Int32) (x3 : Int32) (I : Nat → Int32) (A : Nat → Nat → Int32) (H : Heap) (locs : List Loc) (ls : Array Slot), self25 x1 x2 x3 I A = some o → mH D cy ci h A0 s H locs I A → lv_has ls 5 [(0, .ref (h 0)), (1, .int x1), (2, .int x2), (3, .int x3)] → W p l e ({ frames := 8, cells := 0, slots := 0, locals := 210 } : Room) s m args below meth c H locs 0 0 Q (F0 m 25 ls [])) {x1 : Int32} {x2 : Int32} {x3 : Int32} {I : Nat → Int32} {A : Nat → Nat → Int32} {H : Heap} {locs : List Loc} {ls : Array Slot} (hf : f_readMove_25s self25 x1 x2 x3 I A = some o) (hM : mH D cy ci h A0 s H locs I A) (hl : lv_has ls 5 [(0, .ref (h 0)), (1, .int x1), (2, .int x2), (3, .int x3)]) : W p l e ({ frames := 8, cells := 0, slots := 0, locals := 210 } : Room) s m args below meth c H locs 0 0 Q (F0 m 25 ls []) := by
  obtain ⟨hx, hb, hml, hown, hts⟩ := id X
  unfold f_readMove_25s at hf
  refine lv_aload_n hx hb dX12_readMove_25 rfl (lv_at hl 0 rfl) ?_
  obtain ⟨o1, ho, hf⟩ := m_calE hf
  refine m_callVi X hM (c_look ho) gX12_readMove_X12_look rfl ⟨rfl, rfl⟩ hd_look ⟨Nat.le_of_ble_eq_true rfl, Nat.le_of_ble_eq_true rfl⟩ rfl hl.1 rfl (Nat.le_of_ble_eq_true rfl) dX12_readMove_26 (fun H locs hM => ?_)
  clear ho
  obtain ⟨o2, ho, hf⟩ := m_calE hf
  refine m_callSi X hM (c_isLetter ho) gX12_readMove_X12_isLetter rfl ⟨rfl, rfl⟩ hd_isLetter ⟨Nat.le_of_ble_eq_true rfl, Nat.le_of_ble_eq_true rfl⟩ rfl hl.1 rfl (Nat.le_of_ble_eq_true rfl) dX12_readMove_29 (fun H locs hM => ?_)
  clear ho
  refine lv_if_ne (tgt := 81) hx hb dX12_readMove_32 (by decide) (fun cc1 => ?_) (fun cc1 => ?_)
  · replace hf := m_ifF hf cc1
    exact w_readMove_81 X hret hself25 hf hM (lv_sub hl [0, 1, 2, 3] rfl)
  · replace hf := m_ifT hf cc1
    refine lv_aload_n hx hb dX12_readMove_35 rfl (lv_at hl 0 rfl) ?_
    obtain ⟨o3, ho, hf⟩ := m_calE hf
    refine m_callVi X hM (c_look ho) gX12_readMove_X12_look rfl ⟨rfl, rfl⟩ hd_look ⟨Nat.le_of_ble_eq_true rfl, Nat.le_of_ble_eq_true rfl⟩ rfl hl.1 rfl (Nat.le_of_ble_eq_true rfl) dX12_readMove_36 (fun H locs hM => ?_)
    clear ho
    obtain ⟨o4, ho, hf⟩ := m_calE hf
    refine m_callSi X hM (c_isDigit ho) gX12_readMove_X12_isDigit rfl ⟨rfl, rfl⟩ hd_isDigit ⟨Nat.le_of_ble_eq_true rfl, Nat.le_of_ble_eq_true rfl⟩ rfl hl.1 rfl (Nat.le_of_ble_eq_true rfl) dX12_readMove_39 (fun H locs hM => ?_)
    clear ho
    refine lv_if_ne (tgt := 81) hx hb dX12_readMove_42 (by decide) (fun cc1 => ?_) (fun cc1 => ?_)
    · replace hf := m_ifF hf cc1
      exact w_readMove_81 X hret hself25 hf hM (lv_sub hl [0, 1, 2, 3] rfl)
    · replace hf := m_ifT hf cc1
      refine lv_aload_n hx hb dX12_readMove_45 rfl (lv_at hl 0 rfl) ?_
      obtain ⟨o5, ho, hf⟩ := m_calE hf
      refine m_callVi X hM (c_look ho) gX12_readMove_X12_look rfl ⟨rfl, rfl⟩ hd_look ⟨Nat.le_of_ble_eq_true rfl, Nat.le_of_ble_eq_true rfl⟩ rfl hl.1 rfl (Nat.le_of_ble_eq_true rfl) dX12_readMove_46 (fun H locs hM => ?_)
      clear ho
      refine lv_bipush (v := (61 : Int32)) hx hb dX12_readMove_49 (by decide) ?_
      refine lv_icmp_eq (tgt := 81) hx hb dX12_readMove_51 (by decide) (fun cc1 => ?_) (fun cc1 => ?_)
      · replace hf := m_ifT hf cc1
        exact w_readMove_81 X hret hself25 hf hM (lv_sub hl [0, 1, 2, 3] rfl)
      · replace hf := m_ifF hf cc1
        refine lv_aload_n hx hb dX12_readMove_54 rfl (lv_at hl 0 rfl) ?_
        obtain ⟨o6, ho, hf⟩ := m_calE hf
        refine m_callVi X hM (c_look ho) gX12_readMove_X12_look rfl ⟨rfl, rfl⟩ hd_look ⟨Nat.le_of_ble_eq_true rfl, Nat.le_of_ble_eq_true rfl⟩ rfl hl.1 rfl (Nat.le_of_ble_eq_true rfl) dX12_readMove_55 (fun H locs hM => ?_)
        clear ho
        refine lv_bipush (v := (45 : Int32)) hx hb dX12_readMove_58 (by decide) ?_
        refine lv_icmp_eq (tgt := 81) hx hb dX12_readMove_60 (by decide) (fun cc1 => ?_) (fun cc1 => ?_)
        · replace hf := m_ifT hf cc1
          exact w_readMove_81 X hret hself25 hf hM (lv_sub hl [0, 1, 2, 3] rfl)
        · replace hf := m_ifF hf cc1
          refine lv_aload_n hx hb dX12_readMove_63 rfl (lv_at hl 0 rfl) ?_
          obtain ⟨o7, ho, hf⟩ := m_calE hf
          refine m_callVi X hM (c_look ho) gX12_readMove_X12_look rfl ⟨rfl, rfl⟩ hd_look ⟨Nat.le_of_ble_eq_true rfl, Nat.le_of_ble_eq_true rfl⟩ rfl hl.1 rfl (Nat.le_of_ble_eq_true rfl) dX12_readMove_64 (fun H locs hM => ?_)
          clear ho
          refine lv_bipush (v := (43 : Int32)) hx hb dX12_readMove_67 (by decide) ?_
          refine lv_icmp_eq (tgt := 81) hx hb dX12_readMove_69 (by decide) (fun cc1 => ?_) (fun cc1 => ?_)
          · replace hf := m_ifT hf cc1
            exact w_readMove_81 X hret hself25 hf hM (lv_sub hl [0, 1, 2, 3] rfl)
          · replace hf := m_ifF hf cc1
            refine lv_aload_n hx hb dX12_readMove_72 rfl (lv_at hl 0 rfl) ?_
            obtain ⟨o8, ho, hf⟩ := m_calE hf
            refine m_callVi X hM (c_look ho) gX12_readMove_X12_look rfl ⟨rfl, rfl⟩ hd_look ⟨Nat.le_of_ble_eq_true rfl, Nat.le_of_ble_eq_true rfl⟩ rfl hl.1 rfl (Nat.le_of_ble_eq_true rfl) dX12_readMove_73 (fun H locs hM => ?_)
            clear ho
            refine lv_bipush (v := (35 : Int32)) hx hb dX12_readMove_76 (by decide) ?_
            refine lv_icmp_ne (tgt := 94) hx hb dX12_readMove_78 (by decide) (fun cc1 => ?_) (fun cc1 => ?_)
            · replace hf := m_ifF hf cc1
              refine lv_aload_n hx hb dX12_readMove_94 rfl (lv_at hl 0 rfl) ?_
              refine lv_iload_n hx hb dX12_readMove_95 rfl (lv_at hl 3 rfl) ?_
              refine lv_aload_n hx hb dX12_readMove_96 rfl (lv_at hl 0 rfl) ?_
              refine m_get (v := .int (o8.2.1 37)) X hw_readMove hM 37 (by decide) fl_readMove_37 rfl dX12_readMove_97 ?_
              obtain ⟨o9, ho, hf⟩ := m_calE hf
              refine m_callVi X hM (c_understood ho) gX12_readMove_X12_understood rfl ⟨rfl, rfl⟩ hd_understood ⟨Nat.le_of_ble_eq_true rfl, Nat.le_of_ble_eq_true rfl⟩ rfl hl.1 rfl (Nat.le_of_ble_eq_true rfl) dX12_readMove_100 (fun H locs hM => ?_)
              clear ho
              refine lv_istore (lv' := [(4, .int o9.1), (0, .ref (h 0)), (1, .int x1), (2, .int x2), (3, .int x3)]) hx hb dX12_readMove_103 hl (by decide) rfl (fun ls hl => ?_)
              refine lv_iload hx hb dX12_readMove_105 (lv_at hl 0 rfl) ?_
              refine lv_if_ge (tgt := 128) hx hb dX12_readMove_107 (by decide) (fun cc1 => ?_) (fun cc1 => ?_)
              · replace hf := m_ifT hf cc1
                refine lv_aload_n hx hb dX12_readMove_128 rfl (lv_at hl 1 rfl) ?_
                refine lv_iload_n hx hb dX12_readMove_129 rfl (lv_at hl 2 rfl) ?_
                refine lv_iload_n hx hb dX12_readMove_130 rfl (lv_at hl 3 rfl) ?_
                refine lv_iload hx hb dX12_readMove_131 (lv_at hl 0 rfl) ?_
                obtain ⟨o10, ho, hf⟩ := m_calE hf
                refine m_callVi X hM (c_childWith ho) gX12_readMove_X12_childWith rfl ⟨rfl, rfl⟩ hd_childWith ⟨Nat.le_of_ble_eq_true rfl, Nat.le_of_ble_eq_true rfl⟩ rfl hl.1 rfl (Nat.le_of_ble_eq_true rfl) dX12_readMove_133 (fun H locs hM => ?_)
                clear ho
                refine lv_if_lt (tgt := 147) hx hb dX12_readMove_136 (by decide) (fun cc1 => ?_) (fun cc1 => ?_)
                · replace hf := m_ifT hf cc1
                  refine lv_aload_n hx hb dX12_readMove_147 rfl (lv_at hl 1 rfl) ?_
                  refine m_get (v := .ref (h 7)) X hw_readMove hM 7 (by decide) fl_readMove_7 rfl dX12_readMove_148 ?_
                  refine lv_iload_n hx hb dX12_readMove_151 rfl (lv_at hl 2 rfl) ?_
                  obtain ⟨cd, hf⟩ := m_chkE hf
                  refine m_iald X hM 7 3 2 rfl cd dX12_readMove_152 ?_
                  clear cd
                  obtain ⟨v11, ev, hf⟩ := m_bndE hf
                  refine m_top ev ?_
                  clear ev
                  refine lv_sipush (v := (300 : Int32)) hx hb dX12_readMove_153 (by decide) ?_
                  refine lv_icmp_ne (tgt := 167) hx hb dX12_readMove_156 (by decide) (fun cc1 => ?_) (fun cc1 => ?_)
                  · replace hf := m_ifF hf cc1
                    refine lv_aload_n hx hb dX12_readMove_167 rfl (lv_at hl 1 rfl) ?_
                    refine lv_iload_n hx hb dX12_readMove_168 rfl (lv_at hl 2 rfl) ?_
                    refine lv_iload_n hx hb dX12_readMove_169 rfl (lv_at hl 3 rfl) ?_
                    refine lv_iload hx hb dX12_readMove_170 (lv_at hl 0 rfl) ?_
                    obtain ⟨o12, ho, hf⟩ := m_calE hf
                    refine m_callVi X hM (c_append ho) gX12_readMove_X12_append rfl ⟨rfl, rfl⟩ hd_append ⟨Nat.le_of_ble_eq_true rfl, Nat.le_of_ble_eq_true rfl⟩ rfl hl.1 rfl (Nat.le_of_ble_eq_true rfl) dX12_readMove_172 (fun H locs hM => ?_)
                    clear ho
                    cases hf
                    exact hret H locs _ ls hM rfl dX12_readMove_175
                  · replace hf := m_ifT hf cc1
                    refine lv_bipush (v := (8 : Int32)) hx hb dX12_readMove_159 (by decide) ?_
                    refine lv_iload_n hx hb dX12_readMove_161 rfl (lv_at hl 4 rfl) ?_
                    obtain ⟨o13, ho, hf⟩ := m_calE hf
                    refine m_callSi X hM (c_fault ho) gX12_readMove_X12_fault rfl ⟨rfl, rfl⟩ hd_fault ⟨Nat.le_of_ble_eq_true rfl, Nat.le_of_ble_eq_true rfl⟩ rfl hl.1 rfl (Nat.le_of_ble_eq_true rfl) dX12_readMove_162 (fun H locs hM => ?_)
                    clear ho
                    refine lv_ineg hx hb dX12_readMove_165 ?_
                    obtain ⟨v14, ev, hf⟩ := m_bndE hf
                    refine m_top ev ?_
                    clear ev
                    cases hf
                    exact hret H locs _ ls hM rfl dX12_readMove_166
                · replace hf := m_ifF hf cc1
                  refine lv_bipush (v := (6 : Int32)) hx hb dX12_readMove_139 (by decide) ?_
                  refine lv_iload_n hx hb dX12_readMove_141 rfl (lv_at hl 4 rfl) ?_
                  obtain ⟨o15, ho, hf⟩ := m_calE hf
                  refine m_callSi X hM (c_fault ho) gX12_readMove_X12_fault rfl ⟨rfl, rfl⟩ hd_fault ⟨Nat.le_of_ble_eq_true rfl, Nat.le_of_ble_eq_true rfl⟩ rfl hl.1 rfl (Nat.le_of_ble_eq_true rfl) dX12_readMove_142 (fun H locs hM => ?_)
                  clear ho
                  refine lv_ineg hx hb dX12_readMove_145 ?_
                  obtain ⟨v16, ev, hf⟩ := m_bndE hf
                  refine m_top ev ?_
                  clear ev
                  cases hf
                  exact hret H locs _ ls hM rfl dX12_readMove_146
              · replace hf := m_ifF hf cc1
                refine lv_iload hx hb dX12_readMove_110 (lv_at hl 0 rfl) ?_
                refine lv_bipush (v := (-2 : Int32)) hx hb dX12_readMove_112 (by decide) ?_
                refine lv_icmp_ne (tgt := 121) hx hb dX12_readMove_114 (by decide) (fun cc1 => ?_) (fun cc1 => ?_)
                · replace hf := m_ifF hf cc1
                  refine lv_iconst (v := (4 : Int32)) hx hb dX12_readMove_121 (by decide) ?_
                  exact w_readMove_122 X hret hf hM (lv_sub hl [4] rfl)
                · replace hf := m_ifT hf cc1
                  refine lv_iconst (v := (5 : Int32)) hx hb dX12_readMove_117 (by decide) ?_
                  refine lv_goto (tgt := 122) hx hb dX12_readMove_118 (by decide) ?_
                  exact w_readMove_122 X hret hf hM (lv_sub hl [4] rfl)
            · replace hf := m_ifT hf cc1
              exact w_readMove_81 X hret hself25 hf hM (lv_sub hl [0, 1, 2, 3] rfl)
def f_readMove_25 : Nat → Int32 → Int32 → Int32 → (Nat → Int32) → (Nat → Nat → Int32) → Option (Int32 × MS)
  | 0 => fun _ _ _ _ _ => none
  | n + 1 => f_readMove_25s (f_readMove_25 n)
theorem w_readMove_25 {p : Program} {l : Launch} {e : Env} {s : State} {m : MethodId} {args : Array Value} {below : List Frame} {meth : Method} {c : Code} {Q : State → Prop} {D : va_G} {cy ci : ClassId} {h : Nat → Nat} {A0 : Nat → Prop} {o : Int32 × MS} (X : CallFix p m c cX12_readMove 5 s args wsX12_readMove RX12) (hret : mRi p l e ({ frames := 8, cells := 0, slots := 0, locals := 210 } : Room) s m args below meth c Q cX12_readMove D cy ci h A0 .int o) (n : Nat) : ∀ (x1 : Int32) (x2 : Int32) (x3 : Int32) (I : Nat → Int32) (A : Nat → Nat → Int32) (H : Heap) (locs : List Loc) (ls : Array Slot), f_readMove_25 n x1 x2 x3 I A = some o → mH D cy ci h A0 s H locs I A → lv_has ls 5 [(0, .ref (h 0)), (1, .int x1), (2, .int x2), (3, .int x3)] → W p l e ({ frames := 8, cells := 0, slots := 0, locals := 210 } : Room) s m args below meth c H locs 0 0 Q (F0 m 25 ls []) := by
  induction n with
  | zero => intro x1 x2 x3 I A H locs ls hf; cases hf
  | succ n ih => intro x1 x2 x3 I A H locs ls hf hM hl; exact ws_readMove_25 X hret (self25 := f_readMove_25 n) ih hf hM hl
def f_readMove_0 (x1 : Int32) (x2 : Int32) (I : Nat → Int32) (A : Nat → Nat → Int32) : Option (Int32 × MS) :=
  m_cal (f_look  I A) (fun o1 =>
  m_cal (f_isLetter o1.1 o1.2.1 o1.2.2) (fun o2 =>
  m_if (o2.1 = 0) (
  m_cal (f_fault (1 : Int32) (o2.2.1 37) o2.2.1 o2.2.2) (fun o3 =>
  m_bnd (-o3.1) (fun v4 =>
  some (v4, (o3.2.1, o3.2.2))))
  ) (
  f_readMove_25 mFuel x1 x2 (I 37) o2.2.1 o2.2.2
  )))

set_option maxRecDepth 100000 in
set_option maxHeartbeats 4000000 in
theorem w_readMove_0 {p : Program} {l : Launch} {e : Env} {s : State} {m : MethodId} {args : Array Value} {below : List Frame} {meth : Method} {c : Code} {Q : State → Prop} {D : va_G} {cy ci : ClassId} {h : Nat → Nat} {A0 : Nat → Prop} {o : Int32 × MS} (X : CallFix p m c cX12_readMove 5 s args wsX12_readMove RX12) (hret : mRi p l e ({ frames := 8, cells := 0, slots := 0, locals := 210 } : Room) s m args below meth c Q cX12_readMove D cy ci h A0 .int o) {x1 : Int32} {x2 : Int32} {I : Nat → Int32} {A : Nat → Nat → Int32} {H : Heap} {locs : List Loc} {ls : Array Slot} (hf : f_readMove_0 x1 x2 I A = some o) (hM : mH D cy ci h A0 s H locs I A) (hl : lv_has ls 5 [(0, .ref (h 0)), (1, .int x1), (2, .int x2)]) : W p l e ({ frames := 8, cells := 0, slots := 0, locals := 210 } : Room) s m args below meth c H locs 0 0 Q (F0 m 0 ls []) := by
  obtain ⟨hx, hb, hml, hown, hts⟩ := id X
  unfold f_readMove_0 at hf
  refine lv_aload_n hx hb dX12_readMove_0 rfl (lv_at hl 0 rfl) ?_
  refine m_get (v := .int (I 37)) X hw_readMove hM 37 (by decide) fl_readMove_37 rfl dX12_readMove_1 ?_
  refine lv_istore_n (lv' := [(3, .int (I 37)), (0, .ref (h 0)), (1, .int x1), (2, .int x2)]) hx hb dX12_readMove_4 rfl hl (by decide) rfl (fun ls hl => ?_)
  refine lv_aload_n hx hb dX12_readMove_5 rfl (lv_at hl 1 rfl) ?_
  obtain ⟨o1, ho, hf⟩ := m_calE hf
  refine m_callVi X hM (c_look ho) gX12_readMove_X12_look rfl ⟨rfl, rfl⟩ hd_look ⟨Nat.le_of_ble_eq_true rfl, Nat.le_of_ble_eq_true rfl⟩ rfl hl.1 rfl (Nat.le_of_ble_eq_true rfl) dX12_readMove_6 (fun H locs hM => ?_)
  clear ho
  obtain ⟨o2, ho, hf⟩ := m_calE hf
  refine m_callSi X hM (c_isLetter ho) gX12_readMove_X12_isLetter rfl ⟨rfl, rfl⟩ hd_isLetter ⟨Nat.le_of_ble_eq_true rfl, Nat.le_of_ble_eq_true rfl⟩ rfl hl.1 rfl (Nat.le_of_ble_eq_true rfl) dX12_readMove_9 (fun H locs hM => ?_)
  clear ho
  refine lv_if_ne (tgt := 25) hx hb dX12_readMove_12 (by decide) (fun cc1 => ?_) (fun cc1 => ?_)
  · replace hf := m_ifF hf cc1
    exact w_readMove_25 X hret _ _ _ _ _ _ _ _ _ hf hM (lv_sub hl [1, 2, 3, 0] rfl)
  · replace hf := m_ifT hf cc1
    refine lv_iconst (v := (1 : Int32)) hx hb dX12_readMove_15 (by decide) ?_
    refine lv_aload_n hx hb dX12_readMove_16 rfl (lv_at hl 1 rfl) ?_
    refine m_get (v := .int (o2.2.1 37)) X hw_readMove hM 37 (by decide) fl_readMove_37 rfl dX12_readMove_17 ?_
    obtain ⟨o3, ho, hf⟩ := m_calE hf
    refine m_callSi X hM (c_fault ho) gX12_readMove_X12_fault rfl ⟨rfl, rfl⟩ hd_fault ⟨Nat.le_of_ble_eq_true rfl, Nat.le_of_ble_eq_true rfl⟩ rfl hl.1 rfl (Nat.le_of_ble_eq_true rfl) dX12_readMove_20 (fun H locs hM => ?_)
    clear ho
    refine lv_ineg hx hb dX12_readMove_23 ?_
    obtain ⟨v4, ev, hf⟩ := m_bndE hf
    refine m_top ev ?_
    clear ev
    cases hf
    exact hret H locs _ ls hM rfl dX12_readMove_24
def f_readMove (x1 : Int32) (x2 : Int32) (I : Nat → Int32) (A : Nat → Nat → Int32) : Option (Int32 × MS) := f_readMove_0 x1 x2 I A
theorem c_readMove {l : Launch} {D : va_G} {cy ci : ClassId} {h : Nat → Nat} {x1 : Int32} {x2 : Int32} {I : Nat → Int32} {A : Nat → Nat → Int32} {o : Int32 × MS} (hf : f_readMove x1 x2 I A = some o) : mMi l yX12_readMove wsX12_readMove ({ frames := 8, cells := 0, slots := 0, locals := 210 } : Room) [.ref (h 0), .int x1, .int x2] D cy ci h I A o :=
  m_entryI (cc := cX12_readMove) (maxL := 5) (by decide) rfl rfl (Nat.le_of_ble_eq_true rfl) (fun p e s m args below meth c A0 Q H locs ls X hret hM hl => w_readMove_0 X hret hf hM (lv_sub hl [0, 1, 2] rfl))
theorem hd_readMove : yX12_readMove.cls = RX12 ∧ yX12_readMove.cls ≠ "java/lang/invoke/MethodHandle" ∧ yX12_readMove.cls ≠ "java/lang/invoke/VarHandle" ∧ (parseMethodDescriptor yX12_readMove.desc).map (fun d => d.parameters.length) = some 2 := by decide +kernel
def f_resultSize_19 (t0 : Int32) (I : Nat → Int32) (A : Nat → Nat → Int32) : Option (Int32 × MS) :=
  some (t0, (I, A))

set_option maxRecDepth 100000 in
set_option maxHeartbeats 4000000 in
theorem w_resultSize_19 {p : Program} {l : Launch} {e : Env} {s : State} {m : MethodId} {args : Array Value} {below : List Frame} {meth : Method} {c : Code} {Q : State → Prop} {D : va_G} {cy ci : ClassId} {h : Nat → Nat} {A0 : Nat → Prop} {o : Int32 × MS} (X : CallFix p m c cX12_resultSize 1 s args wsX12_resultSize RX12) (hret : mRi p l e ({ frames := 0, cells := 0, slots := 0, locals := 0 } : Room) s m args below meth c Q cX12_resultSize D cy ci h A0 .int o) {t0 : Int32} {I : Nat → Int32} {A : Nat → Nat → Int32} {H : Heap} {locs : List Loc} {ls : Array Slot} (hf : f_resultSize_19 t0 I A = some o) (hM : mH D cy ci h A0 s H locs I A) (hl : lv_has ls 1 []) : W p l e ({ frames := 0, cells := 0, slots := 0, locals := 0 } : Room) s m args below meth c H locs 0 0 Q (F0 m 19 ls [.int t0]) := by
  obtain ⟨hx, hb, hml, hown, hts⟩ := id X
  unfold f_resultSize_19 at hf
  cases hf
  exact hret H locs _ ls hM rfl dX12_resultSize_19
def f_resultSize_0 (x0 : Int32) (I : Nat → Int32) (A : Nat → Nat → Int32) : Option (Int32 × MS) :=
  m_if (x0 = 0) (
  f_resultSize_19 (1 : Int32) I A
  ) (
  m_if (x0 = (3 : Int32)) (
  f_resultSize_19 (7 : Int32) I A
  ) (
  f_resultSize_19 (3 : Int32) I A
  )
  )

set_option maxRecDepth 100000 in
set_option maxHeartbeats 4000000 in
theorem w_resultSize_0 {p : Program} {l : Launch} {e : Env} {s : State} {m : MethodId} {args : Array Value} {below : List Frame} {meth : Method} {c : Code} {Q : State → Prop} {D : va_G} {cy ci : ClassId} {h : Nat → Nat} {A0 : Nat → Prop} {o : Int32 × MS} (X : CallFix p m c cX12_resultSize 1 s args wsX12_resultSize RX12) (hret : mRi p l e ({ frames := 0, cells := 0, slots := 0, locals := 0 } : Room) s m args below meth c Q cX12_resultSize D cy ci h A0 .int o) {x0 : Int32} {I : Nat → Int32} {A : Nat → Nat → Int32} {H : Heap} {locs : List Loc} {ls : Array Slot} (hf : f_resultSize_0 x0 I A = some o) (hM : mH D cy ci h A0 s H locs I A) (hl : lv_has ls 1 [(0, .int x0)]) : W p l e ({ frames := 0, cells := 0, slots := 0, locals := 0 } : Room) s m args below meth c H locs 0 0 Q (F0 m 0 ls []) := by
  obtain ⟨hx, hb, hml, hown, hts⟩ := id X
  unfold f_resultSize_0 at hf
  refine lv_iload_n hx hb dX12_resultSize_0 rfl (lv_at hl 0 rfl) ?_
  refine lv_if_ne (tgt := 8) hx hb dX12_resultSize_1 (by decide) (fun cc1 => ?_) (fun cc1 => ?_)
  · replace hf := m_ifF hf cc1
    refine lv_iload_n hx hb dX12_resultSize_8 rfl (lv_at hl 0 rfl) ?_
    refine lv_iconst (v := (3 : Int32)) hx hb dX12_resultSize_9 (by decide) ?_
    refine lv_icmp_ne (tgt := 18) hx hb dX12_resultSize_10 (by decide) (fun cc1 => ?_) (fun cc1 => ?_)
    · replace hf := m_ifF hf cc1
      refine lv_iconst (v := (3 : Int32)) hx hb dX12_resultSize_18 (by decide) ?_
      exact w_resultSize_19 X hret hf hM (lv_sub hl [] rfl)
    · replace hf := m_ifT hf cc1
      refine lv_bipush (v := (7 : Int32)) hx hb dX12_resultSize_13 (by decide) ?_
      refine lv_goto (tgt := 19) hx hb dX12_resultSize_15 (by decide) ?_
      exact w_resultSize_19 X hret hf hM (lv_sub hl [] rfl)
  · replace hf := m_ifT hf cc1
    refine lv_iconst (v := (1 : Int32)) hx hb dX12_resultSize_4 (by decide) ?_
    refine lv_goto (tgt := 19) hx hb dX12_resultSize_5 (by decide) ?_
    exact w_resultSize_19 X hret hf hM (lv_sub hl [] rfl)
def f_resultSize (x0 : Int32) (I : Nat → Int32) (A : Nat → Nat → Int32) : Option (Int32 × MS) := f_resultSize_0 x0 I A
theorem c_resultSize {l : Launch} {D : va_G} {cy ci : ClassId} {h : Nat → Nat} {x0 : Int32} {I : Nat → Int32} {A : Nat → Nat → Int32} {o : Int32 × MS} (hf : f_resultSize x0 I A = some o) : mMi l yX12_resultSize wsX12_resultSize ({ frames := 0, cells := 0, slots := 0, locals := 0 } : Room) [.int x0] D cy ci h I A o :=
  m_entryI (cc := cX12_resultSize) (maxL := 1) (by decide) rfl rfl (Nat.le_of_ble_eq_true rfl) (fun p e s m args below meth c A0 Q H locs ls X hret hM hl => w_resultSize_0 X hret hf hM (lv_sub hl [0] rfl))
theorem hd_resultSize : yX12_resultSize.cls ≠ "java/lang/invoke/MethodHandle" ∧ yX12_resultSize.cls ≠ "java/lang/invoke/VarHandle" ∧ (parseMethodDescriptor yX12_resultSize.desc).map (fun d => d.parameters.length) = some 1 := by decide +kernel
theorem hw_find : ∀ w ∈ wsX120, w ∈ wsX12_find := by decide +kernel
theorem fl_find_0 : Cond.fieldLink RX12 99 "MoveTextsModel" "thrown" "I" ∈ wsX12_find := by decide +kernel
theorem fl_find_1 : Cond.fieldLink RX12 270 "MoveTextsModel" "typed" "I" ∈ wsX12_find := by decide +kernel
def f_find_0 (I : Nat → Int32) (A : Nat → Nat → Int32) : Option (Int32 × MS) :=
  m_bnd (upd I 0 (0 : Int32)) (fun I1 =>
  m_cal (f_understood (0 : Int32) (I1 1) I1 A) (fun o2 =>
  some (o2.1, (o2.2.1, o2.2.2))))

set_option maxRecDepth 100000 in
set_option maxHeartbeats 4000000 in
theorem w_find_0 {p : Program} {l : Launch} {e : Env} {s : State} {m : MethodId} {args : Array Value} {below : List Frame} {meth : Method} {c : Code} {Q : State → Prop} {D : va_G} {cy ci : ClassId} {h : Nat → Nat} {A0 : Nat → Prop} {o : Int32 × MS} (X : CallFix p m c cX12_find 1 s args wsX12_find RX12) (hret : mRi p l e ({ frames := 8, cells := 0, slots := 0, locals := 210 } : Room) s m args below meth c Q cX12_find D cy ci h A0 .int o) {I : Nat → Int32} {A : Nat → Nat → Int32} {H : Heap} {locs : List Loc} {ls : Array Slot} (hf : f_find_0  I A = some o) (hM : mH D cy ci h A0 s H locs I A) (hl : lv_has ls 1 [(0, .ref (h 0))]) : W p l e ({ frames := 8, cells := 0, slots := 0, locals := 210 } : Room) s m args below meth c H locs 0 0 Q (F0 m 0 ls []) := by
  obtain ⟨hx, hb, hml, hown, hts⟩ := id X
  unfold f_find_0 at hf
  refine lv_aload_n hx hb dX12_find_0 rfl (lv_at hl 0 rfl) ?_
  refine lv_iconst (v := (0 : Int32)) hx hb dX12_find_1 (by decide) ?_
  refine m_put X hw_find hM 0 (by decide) fl_find_0 mi_0 rfl (tyX12_ok 0 (by decide)) dX12_find_2 (fun H locs hM => ?_)
  obtain ⟨I1, ev, hf⟩ := m_bndE hf
  replace hM := m_hI hM ev
  clear ev
  refine lv_aload_n hx hb dX12_find_5 rfl (lv_at hl 0 rfl) ?_
  refine lv_iconst (v := (0 : Int32)) hx hb dX12_find_6 (by decide) ?_
  refine lv_aload_n hx hb dX12_find_7 rfl (lv_at hl 0 rfl) ?_
  refine m_get (v := .int (I1 1)) X hw_find hM 1 (by decide) fl_find_1 rfl dX12_find_8 ?_
  obtain ⟨o2, ho, hf⟩ := m_calE hf
  refine m_callVi X hM (c_understood ho) gX12_find_X12_understood rfl ⟨rfl, rfl⟩ hd_understood ⟨Nat.le_of_ble_eq_true rfl, Nat.le_of_ble_eq_true rfl⟩ rfl hl.1 rfl (Nat.le_of_ble_eq_true rfl) dX12_find_11 (fun H locs hM => ?_)
  clear ho
  cases hf
  exact hret H locs _ ls hM rfl dX12_find_14
def f_find (I : Nat → Int32) (A : Nat → Nat → Int32) : Option (Int32 × MS) := f_find_0  I A
theorem c_find {l : Launch} {D : va_G} {cy ci : ClassId} {h : Nat → Nat} {I : Nat → Int32} {A : Nat → Nat → Int32} {o : Int32 × MS} (hf : f_find  I A = some o) : mMi l yX12_find wsX12_find ({ frames := 8, cells := 0, slots := 0, locals := 210 } : Room) [.ref (h 0)] D cy ci h I A o :=
  m_entryI (cc := cX12_find) (maxL := 1) (by decide) rfl rfl (Nat.le_of_ble_eq_true rfl) (fun p e s m args below meth c A0 Q H locs ls X hret hM hl => w_find_0 X hret hf hM (lv_sub hl [0] rfl))
theorem hd_find : yX12_find.cls = RX12 ∧ yX12_find.cls ≠ "java/lang/invoke/MethodHandle" ∧ yX12_find.cls ≠ "java/lang/invoke/VarHandle" ∧ (parseMethodDescriptor yX12_find.desc).map (fun d => d.parameters.length) = some 0 := by decide +kernel
theorem hw_cut : ∀ w ∈ wsX120, w ∈ wsX12_cut := by decide +kernel
theorem fl_cut_0 : Cond.fieldLink RX12 99 "MoveTextsModel" "thrown" "I" ∈ wsX12_cut := by decide +kernel
theorem fl_cut_1 : Cond.fieldLink RX12 270 "MoveTextsModel" "typed" "I" ∈ wsX12_cut := by decide +kernel
def f_cut_17 (I : Nat → Int32) (A : Nat → Nat → Int32) : Option (Int32 × MS) :=
  m_chk (vp_nar .boolean (0 : Int32) = (0 : Int32)) (some ((0 : Int32), (I, A)))

set_option maxRecDepth 100000 in
set_option maxHeartbeats 4000000 in
theorem w_cut_17 {p : Program} {l : Launch} {e : Env} {s : State} {m : MethodId} {args : Array Value} {below : List Frame} {meth : Method} {c : Code} {Q : State → Prop} {D : va_G} {cy ci : ClassId} {h : Nat → Nat} {A0 : Nat → Prop} {o : Int32 × MS} (X : CallFix p m c cX12_cut 2 s args wsX12_cut RX12) (hret : mRi p l e ({ frames := 0, cells := 0, slots := 0, locals := 0 } : Room) s m args below meth c Q cX12_cut D cy ci h A0 .boolean o) {I : Nat → Int32} {A : Nat → Nat → Int32} {H : Heap} {locs : List Loc} {ls : Array Slot} (hf : f_cut_17  I A = some o) (hM : mH D cy ci h A0 s H locs I A) (hl : lv_has ls 2 []) : W p l e ({ frames := 0, cells := 0, slots := 0, locals := 0 } : Room) s m args below meth c H locs 0 0 Q (F0 m 17 ls []) := by
  obtain ⟨hx, hb, hml, hown, hts⟩ := id X
  unfold f_cut_17 at hf
  refine lv_iconst (v := (0 : Int32)) hx hb dX12_cut_17 (by decide) ?_
  obtain ⟨cd, hf⟩ := m_chkE hf
  cases hf
  exact hret H locs _ ls hM (m_nb cd) dX12_cut_18
def f_cut_0 (x1 : Int32) (I : Nat → Int32) (A : Nat → Nat → Int32) : Option (Int32 × MS) :=
  m_bnd (upd I 0 (0 : Int32)) (fun I1 =>
  m_if (x1 < 0) (
  f_cut_17  I1 A
  ) (
  m_if (x1 ≤ (I1 1)) (
  m_bnd (upd I1 1 x1) (fun I2 =>
  m_chk (vp_nar .boolean (1 : Int32) = (1 : Int32)) (some ((1 : Int32), (I2, A))))
  ) (
  f_cut_17  I1 A
  )
  ))

set_option maxRecDepth 100000 in
set_option maxHeartbeats 4000000 in
theorem w_cut_0 {p : Program} {l : Launch} {e : Env} {s : State} {m : MethodId} {args : Array Value} {below : List Frame} {meth : Method} {c : Code} {Q : State → Prop} {D : va_G} {cy ci : ClassId} {h : Nat → Nat} {A0 : Nat → Prop} {o : Int32 × MS} (X : CallFix p m c cX12_cut 2 s args wsX12_cut RX12) (hret : mRi p l e ({ frames := 0, cells := 0, slots := 0, locals := 0 } : Room) s m args below meth c Q cX12_cut D cy ci h A0 .boolean o) {x1 : Int32} {I : Nat → Int32} {A : Nat → Nat → Int32} {H : Heap} {locs : List Loc} {ls : Array Slot} (hf : f_cut_0 x1 I A = some o) (hM : mH D cy ci h A0 s H locs I A) (hl : lv_has ls 2 [(0, .ref (h 0)), (1, .int x1)]) : W p l e ({ frames := 0, cells := 0, slots := 0, locals := 0 } : Room) s m args below meth c H locs 0 0 Q (F0 m 0 ls []) := by
  obtain ⟨hx, hb, hml, hown, hts⟩ := id X
  unfold f_cut_0 at hf
  refine lv_aload_n hx hb dX12_cut_0 rfl (lv_at hl 0 rfl) ?_
  refine lv_iconst (v := (0 : Int32)) hx hb dX12_cut_1 (by decide) ?_
  refine m_put X hw_cut hM 0 (by decide) fl_cut_0 mi_0 rfl (tyX12_ok 0 (by decide)) dX12_cut_2 (fun H locs hM => ?_)
  obtain ⟨I1, ev, hf⟩ := m_bndE hf
  replace hM := m_hI hM ev
  clear ev
  refine lv_iload_n hx hb dX12_cut_5 rfl (lv_at hl 1 rfl) ?_
  refine lv_if_lt (tgt := 17) hx hb dX12_cut_6 (by decide) (fun cc1 => ?_) (fun cc1 => ?_)
  · replace hf := m_ifT hf cc1
    exact w_cut_17 X hret hf hM (lv_sub hl [] rfl)
  · replace hf := m_ifF hf cc1
    refine lv_iload_n hx hb dX12_cut_9 rfl (lv_at hl 1 rfl) ?_
    refine lv_aload_n hx hb dX12_cut_10 rfl (lv_at hl 0 rfl) ?_
    refine m_get (v := .int (I1 1)) X hw_cut hM 1 (by decide) fl_cut_1 rfl dX12_cut_11 ?_
    refine lv_icmp_le (tgt := 19) hx hb dX12_cut_14 (by decide) (fun cc1 => ?_) (fun cc1 => ?_)
    · replace hf := m_ifT hf cc1
      refine lv_aload_n hx hb dX12_cut_19 rfl (lv_at hl 0 rfl) ?_
      refine lv_iload_n hx hb dX12_cut_20 rfl (lv_at hl 1 rfl) ?_
      refine m_put X hw_cut hM 1 (by decide) fl_cut_1 mi_1 rfl (tyX12_ok 1 (by decide)) dX12_cut_21 (fun H locs hM => ?_)
      obtain ⟨I2, ev, hf⟩ := m_bndE hf
      replace hM := m_hI hM ev
      clear ev
      refine lv_iconst (v := (1 : Int32)) hx hb dX12_cut_24 (by decide) ?_
      obtain ⟨cd, hf⟩ := m_chkE hf
      cases hf
      exact hret H locs _ ls hM (m_nb cd) dX12_cut_25
    · replace hf := m_ifF hf cc1
      exact w_cut_17 X hret hf hM (lv_sub hl [] rfl)
def f_cut (x1 : Int32) (I : Nat → Int32) (A : Nat → Nat → Int32) : Option (Int32 × MS) := f_cut_0 x1 I A
theorem c_cut {l : Launch} {D : va_G} {cy ci : ClassId} {h : Nat → Nat} {x1 : Int32} {I : Nat → Int32} {A : Nat → Nat → Int32} {o : Int32 × MS} (hf : f_cut x1 I A = some o) : mMi l yX12_cut wsX12_cut ({ frames := 0, cells := 0, slots := 0, locals := 0 } : Room) [.ref (h 0), .int x1] D cy ci h I A o :=
  m_entryI (cc := cX12_cut) (maxL := 2) (by decide) rfl rfl (Nat.le_of_ble_eq_true rfl) (fun p e s m args below meth c A0 Q H locs ls X hret hM hl => w_cut_0 X hret hf hM (lv_sub hl [0, 1] rfl))
theorem hd_cut : yX12_cut.cls = RX12 ∧ yX12_cut.cls ≠ "java/lang/invoke/MethodHandle" ∧ yX12_cut.cls ≠ "java/lang/invoke/VarHandle" ∧ (parseMethodDescriptor yX12_cut.desc).map (fun d => d.parameters.length) = some 1 := by decide +kernel
theorem hw_ink : ∀ w ∈ wsX120, w ∈ wsX12_ink := by decide +kernel
theorem fl_ink_3 : Cond.fieldLink RX12 364 "MoveTextsModel" "told" "I" ∈ wsX12_ink := by decide +kernel
theorem fl_ink_4 : Cond.fieldLink RX12 14 "MoveTextsModel" "out" "[C" ∈ wsX12_ink := by decide +kernel
def f_ink_0 (x1 : Int32) (I : Nat → Int32) (A : Nat → Nat → Int32) : Option (Int32 × MS) :=
  m_chk (¬ ((I 3) < 0 ∨ 80000 ≤ ((I 3)).toNatClampNeg)) (
  m_bnd (va_up A 4 (upd (A 4) ((I 3)).toNatClampNeg (vp_nar .char x1))) (fun A1 =>
  m_bnd ((I 3) + (1 : Int32)) (fun v2 =>
  m_bnd (upd I 3 v2) (fun I3 =>
  some (0, (I3, A1))))))

set_option maxRecDepth 100000 in
set_option maxHeartbeats 4000000 in
theorem w_ink_0 {p : Program} {l : Launch} {e : Env} {s : State} {m : MethodId} {args : Array Value} {below : List Frame} {meth : Method} {c : Code} {Q : State → Prop} {D : va_G} {cy ci : ClassId} {h : Nat → Nat} {A0 : Nat → Prop} {o : Int32 × MS} (X : CallFix p m c cX12_ink 2 s args wsX12_ink RX12) (hret : mRv p l e ({ frames := 0, cells := 0, slots := 0, locals := 0 } : Room) s m args below meth c Q cX12_ink D cy ci h A0 o) {x1 : Int32} {I : Nat → Int32} {A : Nat → Nat → Int32} {H : Heap} {locs : List Loc} {ls : Array Slot} (hf : f_ink_0 x1 I A = some o) (hM : mH D cy ci h A0 s H locs I A) (hl : lv_has ls 2 [(0, .ref (h 0)), (1, .int x1)]) : W p l e ({ frames := 0, cells := 0, slots := 0, locals := 0 } : Room) s m args below meth c H locs 0 0 Q (F0 m 0 ls []) := by
  obtain ⟨hx, hb, hml, hown, hts⟩ := id X
  unfold f_ink_0 at hf
  refine lv_aload_n hx hb dX12_ink_0 rfl (lv_at hl 0 rfl) ?_
  refine m_get (v := .ref (h 4)) X hw_ink hM 4 (by decide) fl_ink_4 rfl dX12_ink_1 ?_
  refine lv_aload_n hx hb dX12_ink_4 rfl (lv_at hl 0 rfl) ?_
  refine m_get (v := .int (I 3)) X hw_ink hM 3 (by decide) fl_ink_3 rfl dX12_ink_5 ?_
  refine lv_iload_n hx hb dX12_ink_8 rfl (lv_at hl 1 rfl) ?_
  obtain ⟨cd, hf⟩ := m_chkE hf
  refine m_cast X hM 4 2 80000 rfl ma_4 cd dX12_ink_9 (fun H locs hM => ?_)
  clear cd
  obtain ⟨A1, ev, hf⟩ := m_bndE hf
  replace hM := m_hA hM ev
  clear ev
  refine lv_aload_n hx hb dX12_ink_10 rfl (lv_at hl 0 rfl) ?_
  refine lv_dup hx hb dX12_ink_11 rfl ?_
  refine m_get (v := .int (I 3)) X hw_ink hM 3 (by decide) fl_ink_3 rfl dX12_ink_12 ?_
  refine lv_iconst (v := (1 : Int32)) hx hb dX12_ink_15 (by decide) ?_
  refine lv_iadd hx hb dX12_ink_16 ?_
  obtain ⟨v2, ev, hf⟩ := m_bndE hf
  refine m_top ev ?_
  clear ev
  refine m_put X hw_ink hM 3 (by decide) fl_ink_3 mi_3 rfl (tyX12_ok 3 (by decide)) dX12_ink_17 (fun H locs hM => ?_)
  obtain ⟨I3, ev, hf⟩ := m_bndE hf
  replace hM := m_hI hM ev
  clear ev
  cases hf
  exact hret H locs _ ls hM dX12_ink_20
def f_ink (x1 : Int32) (I : Nat → Int32) (A : Nat → Nat → Int32) : Option (Int32 × MS) := f_ink_0 x1 I A
theorem c_ink {l : Launch} {D : va_G} {cy ci : ClassId} {h : Nat → Nat} {x1 : Int32} {I : Nat → Int32} {A : Nat → Nat → Int32} {o : Int32 × MS} (hf : f_ink x1 I A = some o) : mMv l yX12_ink wsX12_ink ({ frames := 0, cells := 0, slots := 0, locals := 0 } : Room) [.ref (h 0), .int x1] D cy ci h I A o :=
  m_entryV (cc := cX12_ink) (maxL := 2) (by decide) rfl rfl (Nat.le_of_ble_eq_true rfl) (fun p e s m args below meth c A0 Q H locs ls X hret hM hl => w_ink_0 X hret hf hM (lv_sub hl [0, 1] rfl))
theorem hd_ink : yX12_ink.cls = RX12 ∧ yX12_ink.cls ≠ "java/lang/invoke/MethodHandle" ∧ yX12_ink.cls ≠ "java/lang/invoke/VarHandle" ∧ (parseMethodDescriptor yX12_ink.desc).map (fun d => d.parameters.length) = some 1 := by decide +kernel
def f_sayNumber_18s (self18 : Int32 → Int32 → (Nat → Int32) → (Nat → Nat → Int32) → Option (Int32 × MS)) (x1 : Int32) (x2 : Int32) (I : Nat → Int32) (A : Nat → Nat → Int32) : Option (Int32 × MS) :=
  m_if (x2 ≤ 0) (
  some (0, (I, A))
  ) (
  m_chk (¬ x2 = 0) (
  m_bnd (x1 / x2) (fun v1 =>
  m_bnd (v1 - v1 / (10 : Int32) * (10 : Int32)) (fun v2 =>
  m_bnd ((48 : Int32) + v2) (fun v3 =>
  m_bnd ((v3.toUInt32 % 65536).toInt32) (fun v4 =>
  m_cal (f_ink v4 I A) (fun o5 =>
  m_bnd (x2 / (10 : Int32)) (fun v6 =>
  self18 x1 v6 o5.2.1 o5.2.2)))))))
  )

set_option maxRecDepth 100000 in
set_option maxHeartbeats 4000000 in
theorem ws_sayNumber_18 {p : Program} {l : Launch} {e : Env} {s : State} {m : MethodId} {args : Array Value} {below : List Frame} {meth : Method} {c : Code} {Q : State → Prop} {D : va_G} {cy ci : ClassId} {h : Nat → Nat} {A0 : Nat → Prop} {o : Int32 × MS} (X : CallFix p m c cX12_sayNumber 3 s args wsX12_sayNumber RX12) (hret : mRv p l e ({ frames := 1, cells := 0, slots := 0, locals := 21 } : Room) s m args below meth c Q cX12_sayNumber D cy ci h A0 o) {self18 : Int32 → Int32 → (Nat → Int32) → (Nat → Nat → Int32) → Option (Int32 × MS)} (hself18 : ∀ (x1 : Int32) (x2 : Int32) (I : Nat → Int32) (A : Nat → Nat → Int32) (H : Heap) (locs : List Loc) (ls : Array Slot), self18 x1 x2 I A = some o → mH D cy ci h A0 s H locs I A → lv_has ls 3 [(0, .ref (h 0)), (1, .int x1), (2, .int x2)] → W p l e ({ frames := 1, cells := 0, slots := 0, locals := 21 } : Room) s m args below meth c H locs 0 0 Q (F0 m 18 ls [])) {x1 : Int32} {x2 : Int32} {I : Nat → Int32} {A : Nat → Nat → Int32} {H : Heap} {locs : List Loc} {ls : Array Slot} (hf : f_sayNumber_18s self18 x1 x2 I A = some o) (hM : mH D cy ci h A0 s H locs I A) (hl : lv_has ls 3 [(0, .ref (h 0)), (1, .int x1), (2, .int x2)]) : W p l e ({ frames := 1, cells := 0, slots := 0, locals := 21 } : Room) s m args below meth c H locs 0 0 Q (F0 m 18 ls []) := by
  obtain ⟨hx, hb, hml, hown, hts⟩ := id X
  unfold f_sayNumber_18s at hf
  refine lv_iload_n hx hb dX12_sayNumber_18 rfl (lv_at hl 2 rfl) ?_
  refine lv_if_le (tgt := 44) hx hb dX12_sayNumber_19 (by decide) (fun cc1 => ?_) (fun cc1 => ?_)
  · replace hf := m_ifT hf cc1
    cases hf
    exact hret H locs _ ls hM dX12_sayNumber_44
  · replace hf := m_ifF hf cc1
    refine lv_aload_n hx hb dX12_sayNumber_22 rfl (lv_at hl 0 rfl) ?_
    refine lv_bipush (v := (48 : Int32)) hx hb dX12_sayNumber_23 (by decide) ?_
    refine lv_iload_n hx hb dX12_sayNumber_25 rfl (lv_at hl 1 rfl) ?_
    refine lv_iload_n hx hb dX12_sayNumber_26 rfl (lv_at hl 2 rfl) ?_
    obtain ⟨cd, hf⟩ := m_chkE hf
    refine lv_idiv hx hb dX12_sayNumber_27 cd ?_
    obtain ⟨v1, ev, hf⟩ := m_bndE hf
    refine m_top ev ?_
    clear ev
    refine lv_bipush (v := (10 : Int32)) hx hb dX12_sayNumber_28 (by decide) ?_
    refine lv_irem hx hb dX12_sayNumber_30 (by decide) ?_
    obtain ⟨v2, ev, hf⟩ := m_bndE hf
    refine m_top ev ?_
    clear ev
    refine lv_iadd hx hb dX12_sayNumber_31 ?_
    obtain ⟨v3, ev, hf⟩ := m_bndE hf
    refine m_top ev ?_
    clear ev
    refine lv_i2c (v := (v3.toUInt32 % 65536).toInt32) hx hb dX12_sayNumber_32 rfl ?_
    obtain ⟨v4, ev, hf⟩ := m_bndE hf
    refine m_top ev ?_
    clear ev
    obtain ⟨o5, ho, hf⟩ := m_calE hf
    refine m_callVv X hM (c_ink ho) gX12_sayNumber_X12_ink rfl ⟨rfl, rfl⟩ hd_ink ⟨Nat.le_of_ble_eq_true rfl, Nat.le_of_ble_eq_true rfl⟩ rfl hl.1 rfl (Nat.le_of_ble_eq_true rfl) dX12_sayNumber_33 (fun H locs hM => ?_)
    clear ho
    refine lv_iload_n hx hb dX12_sayNumber_36 rfl (lv_at hl 2 rfl) ?_
    refine lv_bipush (v := (10 : Int32)) hx hb dX12_sayNumber_37 (by decide) ?_
    refine lv_idiv hx hb dX12_sayNumber_39 (by decide) ?_
    obtain ⟨v6, ev, hf⟩ := m_bndE hf
    refine m_top ev ?_
    clear ev
    refine lv_istore_n (lv' := [(2, .int v6), (0, .ref (h 0)), (1, .int x1)]) hx hb dX12_sayNumber_40 rfl hl (by decide) rfl (fun ls hl => ?_)
    refine lv_goto (tgt := 18) hx hb dX12_sayNumber_41 (by decide) ?_
    exact hself18 _ _ _ _ _ _ _ hf hM (lv_sub hl [1, 2, 0] rfl)
def f_sayNumber_18 : Nat → Int32 → Int32 → (Nat → Int32) → (Nat → Nat → Int32) → Option (Int32 × MS)
  | 0 => fun _ _ _ _ => none
  | n + 1 => f_sayNumber_18s (f_sayNumber_18 n)
theorem w_sayNumber_18 {p : Program} {l : Launch} {e : Env} {s : State} {m : MethodId} {args : Array Value} {below : List Frame} {meth : Method} {c : Code} {Q : State → Prop} {D : va_G} {cy ci : ClassId} {h : Nat → Nat} {A0 : Nat → Prop} {o : Int32 × MS} (X : CallFix p m c cX12_sayNumber 3 s args wsX12_sayNumber RX12) (hret : mRv p l e ({ frames := 1, cells := 0, slots := 0, locals := 21 } : Room) s m args below meth c Q cX12_sayNumber D cy ci h A0 o) (n : Nat) : ∀ (x1 : Int32) (x2 : Int32) (I : Nat → Int32) (A : Nat → Nat → Int32) (H : Heap) (locs : List Loc) (ls : Array Slot), f_sayNumber_18 n x1 x2 I A = some o → mH D cy ci h A0 s H locs I A → lv_has ls 3 [(0, .ref (h 0)), (1, .int x1), (2, .int x2)] → W p l e ({ frames := 1, cells := 0, slots := 0, locals := 21 } : Room) s m args below meth c H locs 0 0 Q (F0 m 18 ls []) := by
  induction n with
  | zero => intro x1 x2 I A H locs ls hf; cases hf
  | succ n ih => intro x1 x2 I A H locs ls hf hM hl; exact ws_sayNumber_18 X hret (self18 := f_sayNumber_18 n) ih hf hM hl
def f_sayNumber_2s (self2 : Int32 → Int32 → (Nat → Int32) → (Nat → Nat → Int32) → Option (Int32 × MS)) (x1 : Int32) (x2 : Int32) (I : Nat → Int32) (A : Nat → Nat → Int32) : Option (Int32 × MS) :=
  m_bnd (x2 * (10 : Int32)) (fun v1 =>
  m_if (x1 < v1) (
  f_sayNumber_18 mFuel x1 x2 I A
  ) (
  m_bnd (x2 * (10 : Int32)) (fun v2 =>
  self2 x1 v2 I A)
  ))

set_option maxRecDepth 100000 in
set_option maxHeartbeats 4000000 in
theorem ws_sayNumber_2 {p : Program} {l : Launch} {e : Env} {s : State} {m : MethodId} {args : Array Value} {below : List Frame} {meth : Method} {c : Code} {Q : State → Prop} {D : va_G} {cy ci : ClassId} {h : Nat → Nat} {A0 : Nat → Prop} {o : Int32 × MS} (X : CallFix p m c cX12_sayNumber 3 s args wsX12_sayNumber RX12) (hret : mRv p l e ({ frames := 1, cells := 0, slots := 0, locals := 21 } : Room) s m args below meth c Q cX12_sayNumber D cy ci h A0 o) {self2 : Int32 → Int32 → (Nat → Int32) → (Nat → Nat → Int32) → Option (Int32 × MS)} (hself2 : ∀ (x1 : Int32) (x2 : Int32) (I : Nat → Int32) (A : Nat → Nat → Int32) (H : Heap) (locs : List Loc) (ls : Array Slot), self2 x1 x2 I A = some o → mH D cy ci h A0 s H locs I A → lv_has ls 3 [(0, .ref (h 0)), (1, .int x1), (2, .int x2)] → W p l e ({ frames := 1, cells := 0, slots := 0, locals := 21 } : Room) s m args below meth c H locs 0 0 Q (F0 m 2 ls [])) {x1 : Int32} {x2 : Int32} {I : Nat → Int32} {A : Nat → Nat → Int32} {H : Heap} {locs : List Loc} {ls : Array Slot} (hf : f_sayNumber_2s self2 x1 x2 I A = some o) (hM : mH D cy ci h A0 s H locs I A) (hl : lv_has ls 3 [(0, .ref (h 0)), (1, .int x1), (2, .int x2)]) : W p l e ({ frames := 1, cells := 0, slots := 0, locals := 21 } : Room) s m args below meth c H locs 0 0 Q (F0 m 2 ls []) := by
  obtain ⟨hx, hb, hml, hown, hts⟩ := id X
  unfold f_sayNumber_2s at hf
  refine lv_iload_n hx hb dX12_sayNumber_2 rfl (lv_at hl 2 rfl) ?_
  refine lv_bipush (v := (10 : Int32)) hx hb dX12_sayNumber_3 (by decide) ?_
  refine lv_imul hx hb dX12_sayNumber_5 ?_
  obtain ⟨v1, ev, hf⟩ := m_bndE hf
  refine m_top ev ?_
  clear ev
  refine lv_iload_n hx hb dX12_sayNumber_6 rfl (lv_at hl 1 rfl) ?_
  refine lv_icmp_gt (tgt := 18) hx hb dX12_sayNumber_7 (by decide) (fun cc1 => ?_) (fun cc1 => ?_)
  · replace hf := m_ifT hf cc1
    exact w_sayNumber_18 X hret _ _ _ _ _ _ _ _ hf hM (lv_sub hl [0, 1, 2] rfl)
  · replace hf := m_ifF hf cc1
    refine lv_iload_n hx hb dX12_sayNumber_10 rfl (lv_at hl 2 rfl) ?_
    refine lv_bipush (v := (10 : Int32)) hx hb dX12_sayNumber_11 (by decide) ?_
    refine lv_imul hx hb dX12_sayNumber_13 ?_
    obtain ⟨v2, ev, hf⟩ := m_bndE hf
    refine m_top ev ?_
    clear ev
    refine lv_istore_n (lv' := [(2, .int v2), (0, .ref (h 0)), (1, .int x1)]) hx hb dX12_sayNumber_14 rfl hl (by decide) rfl (fun ls hl => ?_)
    refine lv_goto (tgt := 2) hx hb dX12_sayNumber_15 (by decide) ?_
    exact hself2 _ _ _ _ _ _ _ hf hM (lv_sub hl [1, 2, 0] rfl)
def f_sayNumber_2 : Nat → Int32 → Int32 → (Nat → Int32) → (Nat → Nat → Int32) → Option (Int32 × MS)
  | 0 => fun _ _ _ _ => none
  | n + 1 => f_sayNumber_2s (f_sayNumber_2 n)
theorem w_sayNumber_2 {p : Program} {l : Launch} {e : Env} {s : State} {m : MethodId} {args : Array Value} {below : List Frame} {meth : Method} {c : Code} {Q : State → Prop} {D : va_G} {cy ci : ClassId} {h : Nat → Nat} {A0 : Nat → Prop} {o : Int32 × MS} (X : CallFix p m c cX12_sayNumber 3 s args wsX12_sayNumber RX12) (hret : mRv p l e ({ frames := 1, cells := 0, slots := 0, locals := 21 } : Room) s m args below meth c Q cX12_sayNumber D cy ci h A0 o) (n : Nat) : ∀ (x1 : Int32) (x2 : Int32) (I : Nat → Int32) (A : Nat → Nat → Int32) (H : Heap) (locs : List Loc) (ls : Array Slot), f_sayNumber_2 n x1 x2 I A = some o → mH D cy ci h A0 s H locs I A → lv_has ls 3 [(0, .ref (h 0)), (1, .int x1), (2, .int x2)] → W p l e ({ frames := 1, cells := 0, slots := 0, locals := 21 } : Room) s m args below meth c H locs 0 0 Q (F0 m 2 ls []) := by
  induction n with
  | zero => intro x1 x2 I A H locs ls hf; cases hf
  | succ n ih => intro x1 x2 I A H locs ls hf hM hl; exact ws_sayNumber_2 X hret (self2 := f_sayNumber_2 n) ih hf hM hl
def f_sayNumber_0 (x1 : Int32) (I : Nat → Int32) (A : Nat → Nat → Int32) : Option (Int32 × MS) :=
  f_sayNumber_2 mFuel x1 (1 : Int32) I A

set_option maxRecDepth 100000 in
set_option maxHeartbeats 4000000 in
theorem w_sayNumber_0 {p : Program} {l : Launch} {e : Env} {s : State} {m : MethodId} {args : Array Value} {below : List Frame} {meth : Method} {c : Code} {Q : State → Prop} {D : va_G} {cy ci : ClassId} {h : Nat → Nat} {A0 : Nat → Prop} {o : Int32 × MS} (X : CallFix p m c cX12_sayNumber 3 s args wsX12_sayNumber RX12) (hret : mRv p l e ({ frames := 1, cells := 0, slots := 0, locals := 21 } : Room) s m args below meth c Q cX12_sayNumber D cy ci h A0 o) {x1 : Int32} {I : Nat → Int32} {A : Nat → Nat → Int32} {H : Heap} {locs : List Loc} {ls : Array Slot} (hf : f_sayNumber_0 x1 I A = some o) (hM : mH D cy ci h A0 s H locs I A) (hl : lv_has ls 3 [(0, .ref (h 0)), (1, .int x1)]) : W p l e ({ frames := 1, cells := 0, slots := 0, locals := 21 } : Room) s m args below meth c H locs 0 0 Q (F0 m 0 ls []) := by
  obtain ⟨hx, hb, hml, hown, hts⟩ := id X
  unfold f_sayNumber_0 at hf
  refine lv_iconst (v := (1 : Int32)) hx hb dX12_sayNumber_0 (by decide) ?_
  refine lv_istore_n (lv' := [(2, .int (1 : Int32)), (0, .ref (h 0)), (1, .int x1)]) hx hb dX12_sayNumber_1 rfl hl (by decide) rfl (fun ls hl => ?_)
  exact w_sayNumber_2 X hret _ _ _ _ _ _ _ _ hf hM (lv_sub hl [1, 2, 0] rfl)
def f_sayNumber (x1 : Int32) (I : Nat → Int32) (A : Nat → Nat → Int32) : Option (Int32 × MS) := f_sayNumber_0 x1 I A
theorem c_sayNumber {l : Launch} {D : va_G} {cy ci : ClassId} {h : Nat → Nat} {x1 : Int32} {I : Nat → Int32} {A : Nat → Nat → Int32} {o : Int32 × MS} (hf : f_sayNumber x1 I A = some o) : mMv l yX12_sayNumber wsX12_sayNumber ({ frames := 1, cells := 0, slots := 0, locals := 21 } : Room) [.ref (h 0), .int x1] D cy ci h I A o :=
  m_entryV (cc := cX12_sayNumber) (maxL := 3) (by decide) rfl rfl (Nat.le_of_ble_eq_true rfl) (fun p e s m args below meth c A0 Q H locs ls X hret hM hl => w_sayNumber_0 X hret hf hM (lv_sub hl [0, 1] rfl))
theorem hd_sayNumber : yX12_sayNumber.cls = RX12 ∧ yX12_sayNumber.cls ≠ "java/lang/invoke/MethodHandle" ∧ yX12_sayNumber.cls ≠ "java/lang/invoke/VarHandle" ∧ (parseMethodDescriptor yX12_sayNumber.desc).map (fun d => d.parameters.length) = some 1 := by decide +kernel
theorem hw_sayRemark : ∀ w ∈ wsX120, w ∈ wsX12_sayRemark := by decide +kernel
theorem fl_sayRemark_14 : Cond.fieldLink RX12 39 "MoveTextsModel" "remarkSize" "[I" ∈ wsX12_sayRemark := by decide +kernel
theorem fl_sayRemark_15 : Cond.fieldLink RX12 43 "MoveTextsModel" "remarks" "[C" ∈ wsX12_sayRemark := by decide +kernel
def f_sayRemark_8s (self8 : Int32 → Int32 → (Nat → Int32) → (Nat → Nat → Int32) → Option (Int32 × MS)) (x1 : Int32) (x2 : Int32) (I : Nat → Int32) (A : Nat → Nat → Int32) : Option (Int32 × MS) :=
  m_chk (¬ (x1 < 0 ∨ 602 ≤ (x1).toNatClampNeg)) (
  m_bnd (A 14 (x1).toNatClampNeg) (fun v1 =>
  m_if (v1 ≤ x2) (
  m_cal (f_ink (125 : Int32) I A) (fun o2 =>
  some (0, (o2.2.1, o2.2.2)))
  ) (
  m_bnd ((200 : Int32) * x1) (fun v3 =>
  m_bnd (v3 + x2) (fun v4 =>
  m_chk (¬ (v4 < 0 ∨ 120400 ≤ (v4).toNatClampNeg)) (
  m_bnd (A 15 (v4).toNatClampNeg) (fun v5 =>
  m_cal (f_ink v5 I A) (fun o6 =>
  m_bnd (x2 + (1 : Int32)) (fun v7 =>
  self8 x1 v7 o6.2.1 o6.2.2))))))
  )))

set_option maxRecDepth 100000 in
set_option maxHeartbeats 4000000 in
theorem ws_sayRemark_8 {p : Program} {l : Launch} {e : Env} {s : State} {m : MethodId} {args : Array Value} {below : List Frame} {meth : Method} {c : Code} {Q : State → Prop} {D : va_G} {cy ci : ClassId} {h : Nat → Nat} {A0 : Nat → Prop} {o : Int32 × MS} (X : CallFix p m c cX12_sayRemark 3 s args wsX12_sayRemark RX12) (hret : mRv p l e ({ frames := 1, cells := 0, slots := 0, locals := 21 } : Room) s m args below meth c Q cX12_sayRemark D cy ci h A0 o) {self8 : Int32 → Int32 → (Nat → Int32) → (Nat → Nat → Int32) → Option (Int32 × MS)} (hself8 : ∀ (x1 : Int32) (x2 : Int32) (I : Nat → Int32) (A : Nat → Nat → Int32) (H : Heap) (locs : List Loc) (ls : Array Slot), self8 x1 x2 I A = some o → mH D cy ci h A0 s H locs I A → lv_has ls 3 [(0, .ref (h 0)), (1, .int x1), (2, .int x2)] → W p l e ({ frames := 1, cells := 0, slots := 0, locals := 21 } : Room) s m args below meth c H locs 0 0 Q (F0 m 8 ls [])) {x1 : Int32} {x2 : Int32} {I : Nat → Int32} {A : Nat → Nat → Int32} {H : Heap} {locs : List Loc} {ls : Array Slot} (hf : f_sayRemark_8s self8 x1 x2 I A = some o) (hM : mH D cy ci h A0 s H locs I A) (hl : lv_has ls 3 [(0, .ref (h 0)), (1, .int x1), (2, .int x2)]) : W p l e ({ frames := 1, cells := 0, slots := 0, locals := 21 } : Room) s m args below meth c H locs 0 0 Q (F0 m 8 ls []) := by
  obtain ⟨hx, hb, hml, hown, hts⟩ := id X
  unfold f_sayRemark_8s at hf
  refine lv_iload_n hx hb dX12_sayRemark_8 rfl (lv_at hl 2 rfl) ?_
  refine lv_aload_n hx hb dX12_sayRemark_9 rfl (lv_at hl 0 rfl) ?_
  refine m_get (v := .ref (h 14)) X hw_sayRemark hM 14 (by decide) fl_sayRemark_14 rfl dX12_sayRemark_10 ?_
  refine lv_iload_n hx hb dX12_sayRemark_13 rfl (lv_at hl 1 rfl) ?_
  obtain ⟨cd, hf⟩ := m_chkE hf
  refine m_iald X hM 14 10 602 rfl cd dX12_sayRemark_14 ?_
  clear cd
  obtain ⟨v1, ev, hf⟩ := m_bndE hf
  refine m_top ev ?_
  clear ev
  refine lv_icmp_ge (tgt := 40) hx hb dX12_sayRemark_15 (by decide) (fun cc1 => ?_) (fun cc1 => ?_)
  · replace hf := m_ifT hf cc1
    refine lv_aload_n hx hb dX12_sayRemark_40 rfl (lv_at hl 0 rfl) ?_
    refine lv_bipush (v := (125 : Int32)) hx hb dX12_sayRemark_41 (by decide) ?_
    obtain ⟨o2, ho, hf⟩ := m_calE hf
    refine m_callVv X hM (c_ink ho) gX12_sayRemark_X12_ink rfl ⟨rfl, rfl⟩ hd_ink ⟨Nat.le_of_ble_eq_true rfl, Nat.le_of_ble_eq_true rfl⟩ rfl hl.1 rfl (Nat.le_of_ble_eq_true rfl) dX12_sayRemark_43 (fun H locs hM => ?_)
    clear ho
    cases hf
    exact hret H locs _ ls hM dX12_sayRemark_46
  · replace hf := m_ifF hf cc1
    refine lv_aload_n hx hb dX12_sayRemark_18 rfl (lv_at hl 0 rfl) ?_
    refine lv_aload_n hx hb dX12_sayRemark_19 rfl (lv_at hl 0 rfl) ?_
    refine m_get (v := .ref (h 15)) X hw_sayRemark hM 15 (by decide) fl_sayRemark_15 rfl dX12_sayRemark_20 ?_
    refine lv_sipush (v := (200 : Int32)) hx hb dX12_sayRemark_23 (by decide) ?_
    refine lv_iload_n hx hb dX12_sayRemark_26 rfl (lv_at hl 1 rfl) ?_
    refine lv_imul hx hb dX12_sayRemark_27 ?_
    obtain ⟨v3, ev, hf⟩ := m_bndE hf
    refine m_top ev ?_
    clear ev
    refine lv_iload_n hx hb dX12_sayRemark_28 rfl (lv_at hl 2 rfl) ?_
    refine lv_iadd hx hb dX12_sayRemark_29 ?_
    obtain ⟨v4, ev, hf⟩ := m_bndE hf
    refine m_top ev ?_
    clear ev
    obtain ⟨cd, hf⟩ := m_chkE hf
    refine m_cald X hM 15 11 120400 rfl cd dX12_sayRemark_30 ?_
    clear cd
    obtain ⟨v5, ev, hf⟩ := m_bndE hf
    refine m_top ev ?_
    clear ev
    obtain ⟨o6, ho, hf⟩ := m_calE hf
    refine m_callVv X hM (c_ink ho) gX12_sayRemark_X12_ink rfl ⟨rfl, rfl⟩ hd_ink ⟨Nat.le_of_ble_eq_true rfl, Nat.le_of_ble_eq_true rfl⟩ rfl hl.1 rfl (Nat.le_of_ble_eq_true rfl) dX12_sayRemark_31 (fun H locs hM => ?_)
    clear ho
    obtain ⟨v7, ev, hf⟩ := m_bndE hf
    refine lv_iinc (v := v7) (lv' := [(2, .int v7), (0, .ref (h 0)), (1, .int x1)]) hx hb dX12_sayRemark_34 hl (k := 2) rfl (by rw [ev]; rfl) (by decide) rfl (fun ls hl => ?_)
    clear ev
    refine lv_goto (tgt := 8) hx hb dX12_sayRemark_37 (by decide) ?_
    exact hself8 _ _ _ _ _ _ _ hf hM (lv_sub hl [1, 2, 0] rfl)
def f_sayRemark_8 : Nat → Int32 → Int32 → (Nat → Int32) → (Nat → Nat → Int32) → Option (Int32 × MS)
  | 0 => fun _ _ _ _ => none
  | n + 1 => f_sayRemark_8s (f_sayRemark_8 n)
theorem w_sayRemark_8 {p : Program} {l : Launch} {e : Env} {s : State} {m : MethodId} {args : Array Value} {below : List Frame} {meth : Method} {c : Code} {Q : State → Prop} {D : va_G} {cy ci : ClassId} {h : Nat → Nat} {A0 : Nat → Prop} {o : Int32 × MS} (X : CallFix p m c cX12_sayRemark 3 s args wsX12_sayRemark RX12) (hret : mRv p l e ({ frames := 1, cells := 0, slots := 0, locals := 21 } : Room) s m args below meth c Q cX12_sayRemark D cy ci h A0 o) (n : Nat) : ∀ (x1 : Int32) (x2 : Int32) (I : Nat → Int32) (A : Nat → Nat → Int32) (H : Heap) (locs : List Loc) (ls : Array Slot), f_sayRemark_8 n x1 x2 I A = some o → mH D cy ci h A0 s H locs I A → lv_has ls 3 [(0, .ref (h 0)), (1, .int x1), (2, .int x2)] → W p l e ({ frames := 1, cells := 0, slots := 0, locals := 21 } : Room) s m args below meth c H locs 0 0 Q (F0 m 8 ls []) := by
  induction n with
  | zero => intro x1 x2 I A H locs ls hf; cases hf
  | succ n ih => intro x1 x2 I A H locs ls hf hM hl; exact ws_sayRemark_8 X hret (self8 := f_sayRemark_8 n) ih hf hM hl
def f_sayRemark_0 (x1 : Int32) (I : Nat → Int32) (A : Nat → Nat → Int32) : Option (Int32 × MS) :=
  m_cal (f_ink (123 : Int32) I A) (fun o1 =>
  f_sayRemark_8 mFuel x1 (0 : Int32) o1.2.1 o1.2.2)

set_option maxRecDepth 100000 in
set_option maxHeartbeats 4000000 in
theorem w_sayRemark_0 {p : Program} {l : Launch} {e : Env} {s : State} {m : MethodId} {args : Array Value} {below : List Frame} {meth : Method} {c : Code} {Q : State → Prop} {D : va_G} {cy ci : ClassId} {h : Nat → Nat} {A0 : Nat → Prop} {o : Int32 × MS} (X : CallFix p m c cX12_sayRemark 3 s args wsX12_sayRemark RX12) (hret : mRv p l e ({ frames := 1, cells := 0, slots := 0, locals := 21 } : Room) s m args below meth c Q cX12_sayRemark D cy ci h A0 o) {x1 : Int32} {I : Nat → Int32} {A : Nat → Nat → Int32} {H : Heap} {locs : List Loc} {ls : Array Slot} (hf : f_sayRemark_0 x1 I A = some o) (hM : mH D cy ci h A0 s H locs I A) (hl : lv_has ls 3 [(0, .ref (h 0)), (1, .int x1)]) : W p l e ({ frames := 1, cells := 0, slots := 0, locals := 21 } : Room) s m args below meth c H locs 0 0 Q (F0 m 0 ls []) := by
  obtain ⟨hx, hb, hml, hown, hts⟩ := id X
  unfold f_sayRemark_0 at hf
  refine lv_aload_n hx hb dX12_sayRemark_0 rfl (lv_at hl 0 rfl) ?_
  refine lv_bipush (v := (123 : Int32)) hx hb dX12_sayRemark_1 (by decide) ?_
  obtain ⟨o1, ho, hf⟩ := m_calE hf
  refine m_callVv X hM (c_ink ho) gX12_sayRemark_X12_ink rfl ⟨rfl, rfl⟩ hd_ink ⟨Nat.le_of_ble_eq_true rfl, Nat.le_of_ble_eq_true rfl⟩ rfl hl.1 rfl (Nat.le_of_ble_eq_true rfl) dX12_sayRemark_3 (fun H locs hM => ?_)
  clear ho
  refine lv_iconst (v := (0 : Int32)) hx hb dX12_sayRemark_6 (by decide) ?_
  refine lv_istore_n (lv' := [(2, .int (0 : Int32)), (0, .ref (h 0)), (1, .int x1)]) hx hb dX12_sayRemark_7 rfl hl (by decide) rfl (fun ls hl => ?_)
  exact w_sayRemark_8 X hret _ _ _ _ _ _ _ _ hf hM (lv_sub hl [1, 2, 0] rfl)
def f_sayRemark (x1 : Int32) (I : Nat → Int32) (A : Nat → Nat → Int32) : Option (Int32 × MS) := f_sayRemark_0 x1 I A
theorem c_sayRemark {l : Launch} {D : va_G} {cy ci : ClassId} {h : Nat → Nat} {x1 : Int32} {I : Nat → Int32} {A : Nat → Nat → Int32} {o : Int32 × MS} (hf : f_sayRemark x1 I A = some o) : mMv l yX12_sayRemark wsX12_sayRemark ({ frames := 1, cells := 0, slots := 0, locals := 21 } : Room) [.ref (h 0), .int x1] D cy ci h I A o :=
  m_entryV (cc := cX12_sayRemark) (maxL := 3) (by decide) rfl rfl (Nat.le_of_ble_eq_true rfl) (fun p e s m args below meth c A0 Q H locs ls X hret hM hl => w_sayRemark_0 X hret hf hM (lv_sub hl [0, 1] rfl))
theorem hd_sayRemark : yX12_sayRemark.cls = RX12 ∧ yX12_sayRemark.cls ≠ "java/lang/invoke/MethodHandle" ∧ yX12_sayRemark.cls ≠ "java/lang/invoke/VarHandle" ∧ (parseMethodDescriptor yX12_sayRemark.desc).map (fun d => d.parameters.length) = some 1 := by decide +kernel
theorem hw_sayMove : ∀ w ∈ wsX120, w ∈ wsX12_sayMove := by decide +kernel
theorem fl_sayMove_5 : Cond.fieldLink RX12 347 "MoveTextsModel" "game" "I" ∈ wsX12_sayMove := by decide +kernel
theorem fl_sayMove_8 : Cond.fieldLink RX12 21 "MoveTextsModel" "parent" "[I" ∈ wsX12_sayMove := by decide +kernel
theorem fl_sayMove_9 : Cond.fieldLink RX12 24 "MoveTextsModel" "moveOf" "[I" ∈ wsX12_sayMove := by decide +kernel
theorem fl_sayMove_12 : Cond.fieldLink RX12 33 "MoveTextsModel" "markCount" "[I" ∈ wsX12_sayMove := by decide +kernel
theorem fl_sayMove_13 : Cond.fieldLink RX12 36 "MoveTextsModel" "marks" "[I" ∈ wsX12_sayMove := by decide +kernel
theorem fl_sayMove_14 : Cond.fieldLink RX12 39 "MoveTextsModel" "remarkSize" "[I" ∈ wsX12_sayMove := by decide +kernel
theorem fl_sayMove_25 : Cond.fieldLink RX12 121 "MoveTextsModel" "side" "I" ∈ wsX12_sayMove := by decide +kernel
theorem fl_sayMove_29 : Cond.fieldLink RX12 133 "MoveTextsModel" "number" "I" ∈ wsX12_sayMove := by decide +kernel
theorem fl_sayMove_35 : Cond.fieldLink RX12 85 "MoveTextsModel" "spelled" "[C" ∈ wsX12_sayMove := by decide +kernel
theorem fl_sayMove_36 : Cond.fieldLink RX12 191 "MoveTextsModel" "spelledSize" "I" ∈ wsX12_sayMove := by decide +kernel
def f_sayMove_188 (I : Nat → Int32) (A : Nat → Nat → Int32) : Option (Int32 × MS) :=
  some (0, (I, A))

set_option maxRecDepth 100000 in
set_option maxHeartbeats 4000000 in
theorem w_sayMove_188 {p : Program} {l : Launch} {e : Env} {s : State} {m : MethodId} {args : Array Value} {below : List Frame} {meth : Method} {c : Code} {Q : State → Prop} {D : va_G} {cy ci : ClassId} {h : Nat → Nat} {A0 : Nat → Prop} {o : Int32 × MS} (X : CallFix p m c cX12_sayMove 5 s args wsX12_sayMove RX12) (hret : mRv p l e ({ frames := 7, cells := 0, slots := 0, locals := 181 } : Room) s m args below meth c Q cX12_sayMove D cy ci h A0 o) {I : Nat → Int32} {A : Nat → Nat → Int32} {H : Heap} {locs : List Loc} {ls : Array Slot} (hf : f_sayMove_188  I A = some o) (hM : mH D cy ci h A0 s H locs I A) (hl : lv_has ls 5 []) : W p l e ({ frames := 7, cells := 0, slots := 0, locals := 181 } : Room) s m args below meth c H locs 0 0 Q (F0 m 188 ls []) := by
  obtain ⟨hx, hb, hml, hown, hts⟩ := id X
  unfold f_sayMove_188 at hf
  cases hf
  exact hret H locs _ ls hM dX12_sayMove_188
def f_sayMove_124s (self124 : Int32 → Int32 → (Nat → Int32) → (Nat → Nat → Int32) → Option (Int32 × MS)) (x3 : Int32) (x4 : Int32) (I : Nat → Int32) (A : Nat → Nat → Int32) : Option (Int32 × MS) :=
  m_chk (¬ (x3 < 0 ∨ 602 ≤ (x3).toNatClampNeg)) (
  m_bnd (A 12 (x3).toNatClampNeg) (fun v1 =>
  m_if (v1 ≤ x4) (
  m_chk (¬ (x3 < 0 ∨ 602 ≤ (x3).toNatClampNeg)) (
  m_bnd (A 14 (x3).toNatClampNeg) (fun v2 =>
  m_if (v2 ≤ 0) (
  f_sayMove_188  I A
  ) (
  m_cal (f_ink (32 : Int32) I A) (fun o3 =>
  m_cal (f_sayRemark x3 o3.2.1 o3.2.2) (fun o4 =>
  f_sayMove_188  o4.2.1 o4.2.2))
  )))
  ) (
  m_cal (f_ink (32 : Int32) I A) (fun o5 =>
  m_cal (f_ink (36 : Int32) o5.2.1 o5.2.2) (fun o6 =>
  m_bnd ((4 : Int32) * x3) (fun v7 =>
  m_bnd (v7 + x4) (fun v8 =>
  m_chk (¬ (v8 < 0 ∨ 2408 ≤ (v8).toNatClampNeg)) (
  m_bnd (o6.2.2 13 (v8).toNatClampNeg) (fun v9 =>
  m_cal (f_sayNumber v9 o6.2.1 o6.2.2) (fun o10 =>
  m_bnd (x4 + (1 : Int32)) (fun v11 =>
  self124 x3 v11 o10.2.1 o10.2.2))))))))
  )))

set_option maxRecDepth 100000 in
set_option maxHeartbeats 4000000 in
theorem ws_sayMove_124 {p : Program} {l : Launch} {e : Env} {s : State} {m : MethodId} {args : Array Value} {below : List Frame} {meth : Method} {c : Code} {Q : State → Prop} {D : va_G} {cy ci : ClassId} {h : Nat → Nat} {A0 : Nat → Prop} {o : Int32 × MS} (X : CallFix p m c cX12_sayMove 5 s args wsX12_sayMove RX12) (hret : mRv p l e ({ frames := 7, cells := 0, slots := 0, locals := 181 } : Room) s m args below meth c Q cX12_sayMove D cy ci h A0 o) {self124 : Int32 → Int32 → (Nat → Int32) → (Nat → Nat → Int32) → Option (Int32 × MS)} (hself124 : ∀ (x3 : Int32) (x4 : Int32) (I : Nat → Int32) (A : Nat → Nat → Int32) (H : Heap) (locs : List Loc) (ls : Array Slot), self124 x3 x4 I A = some o → mH D cy ci h A0 s H locs I A → lv_has ls 5 [(0, .ref (h 0)), (3, .int x3), (4, .int x4)] → W p l e ({ frames := 7, cells := 0, slots := 0, locals := 181 } : Room) s m args below meth c H locs 0 0 Q (F0 m 124 ls [])) {x3 : Int32} {x4 : Int32} {I : Nat → Int32} {A : Nat → Nat → Int32} {H : Heap} {locs : List Loc} {ls : Array Slot} (hf : f_sayMove_124s self124 x3 x4 I A = some o) (hM : mH D cy ci h A0 s H locs I A) (hl : lv_has ls 5 [(0, .ref (h 0)), (3, .int x3), (4, .int x4)]) : W p l e ({ frames := 7, cells := 0, slots := 0, locals := 181 } : Room) s m args below meth c H locs 0 0 Q (F0 m 124 ls []) := by
  obtain ⟨hx, hb, hml, hown, hts⟩ := id X
  unfold f_sayMove_124s at hf
  refine lv_iload hx hb dX12_sayMove_124 (lv_at hl 2 rfl) ?_
  refine lv_aload_n hx hb dX12_sayMove_126 rfl (lv_at hl 0 rfl) ?_
  refine m_get (v := .ref (h 12)) X hw_sayMove hM 12 (by decide) fl_sayMove_12 rfl dX12_sayMove_127 ?_
  refine lv_iload_n hx hb dX12_sayMove_130 rfl (lv_at hl 1 rfl) ?_
  obtain ⟨cd, hf⟩ := m_chkE hf
  refine m_iald X hM 12 8 602 rfl cd dX12_sayMove_131 ?_
  clear cd
  obtain ⟨v1, ev, hf⟩ := m_bndE hf
  refine m_top ev ?_
  clear ev
  refine lv_icmp_ge (tgt := 168) hx hb dX12_sayMove_132 (by decide) (fun cc1 => ?_) (fun cc1 => ?_)
  · replace hf := m_ifT hf cc1
    refine lv_aload_n hx hb dX12_sayMove_168 rfl (lv_at hl 0 rfl) ?_
    refine m_get (v := .ref (h 14)) X hw_sayMove hM 14 (by decide) fl_sayMove_14 rfl dX12_sayMove_169 ?_
    refine lv_iload_n hx hb dX12_sayMove_172 rfl (lv_at hl 1 rfl) ?_
    obtain ⟨cd, hf⟩ := m_chkE hf
    refine m_iald X hM 14 10 602 rfl cd dX12_sayMove_173 ?_
    clear cd
    obtain ⟨v2, ev, hf⟩ := m_bndE hf
    refine m_top ev ?_
    clear ev
    refine lv_if_le (tgt := 188) hx hb dX12_sayMove_174 (by decide) (fun cc1 => ?_) (fun cc1 => ?_)
    · replace hf := m_ifT hf cc1
      exact w_sayMove_188 X hret hf hM (lv_sub hl [] rfl)
    · replace hf := m_ifF hf cc1
      refine lv_aload_n hx hb dX12_sayMove_177 rfl (lv_at hl 0 rfl) ?_
      refine lv_bipush (v := (32 : Int32)) hx hb dX12_sayMove_178 (by decide) ?_
      obtain ⟨o3, ho, hf⟩ := m_calE hf
      refine m_callVv X hM (c_ink ho) gX12_sayMove_X12_ink rfl ⟨rfl, rfl⟩ hd_ink ⟨Nat.le_of_ble_eq_true rfl, Nat.le_of_ble_eq_true rfl⟩ rfl hl.1 rfl (Nat.le_of_ble_eq_true rfl) dX12_sayMove_180 (fun H locs hM => ?_)
      clear ho
      refine lv_aload_n hx hb dX12_sayMove_183 rfl (lv_at hl 0 rfl) ?_
      refine lv_iload_n hx hb dX12_sayMove_184 rfl (lv_at hl 1 rfl) ?_
      obtain ⟨o4, ho, hf⟩ := m_calE hf
      refine m_callVv X hM (c_sayRemark ho) gX12_sayMove_X12_sayRemark rfl ⟨rfl, rfl⟩ hd_sayRemark ⟨Nat.le_of_ble_eq_true rfl, Nat.le_of_ble_eq_true rfl⟩ rfl hl.1 rfl (Nat.le_of_ble_eq_true rfl) dX12_sayMove_185 (fun H locs hM => ?_)
      clear ho
      exact w_sayMove_188 X hret hf hM (lv_sub hl [] rfl)
  · replace hf := m_ifF hf cc1
    refine lv_aload_n hx hb dX12_sayMove_135 rfl (lv_at hl 0 rfl) ?_
    refine lv_bipush (v := (32 : Int32)) hx hb dX12_sayMove_136 (by decide) ?_
    obtain ⟨o5, ho, hf⟩ := m_calE hf
    refine m_callVv X hM (c_ink ho) gX12_sayMove_X12_ink rfl ⟨rfl, rfl⟩ hd_ink ⟨Nat.le_of_ble_eq_true rfl, Nat.le_of_ble_eq_true rfl⟩ rfl hl.1 rfl (Nat.le_of_ble_eq_true rfl) dX12_sayMove_138 (fun H locs hM => ?_)
    clear ho
    refine lv_aload_n hx hb dX12_sayMove_141 rfl (lv_at hl 0 rfl) ?_
    refine lv_bipush (v := (36 : Int32)) hx hb dX12_sayMove_142 (by decide) ?_
    obtain ⟨o6, ho, hf⟩ := m_calE hf
    refine m_callVv X hM (c_ink ho) gX12_sayMove_X12_ink rfl ⟨rfl, rfl⟩ hd_ink ⟨Nat.le_of_ble_eq_true rfl, Nat.le_of_ble_eq_true rfl⟩ rfl hl.1 rfl (Nat.le_of_ble_eq_true rfl) dX12_sayMove_144 (fun H locs hM => ?_)
    clear ho
    refine lv_aload_n hx hb dX12_sayMove_147 rfl (lv_at hl 0 rfl) ?_
    refine lv_aload_n hx hb dX12_sayMove_148 rfl (lv_at hl 0 rfl) ?_
    refine m_get (v := .ref (h 13)) X hw_sayMove hM 13 (by decide) fl_sayMove_13 rfl dX12_sayMove_149 ?_
    refine lv_iconst (v := (4 : Int32)) hx hb dX12_sayMove_152 (by decide) ?_
    refine lv_iload_n hx hb dX12_sayMove_153 rfl (lv_at hl 1 rfl) ?_
    refine lv_imul hx hb dX12_sayMove_154 ?_
    obtain ⟨v7, ev, hf⟩ := m_bndE hf
    refine m_top ev ?_
    clear ev
    refine lv_iload hx hb dX12_sayMove_155 (lv_at hl 2 rfl) ?_
    refine lv_iadd hx hb dX12_sayMove_157 ?_
    obtain ⟨v8, ev, hf⟩ := m_bndE hf
    refine m_top ev ?_
    clear ev
    obtain ⟨cd, hf⟩ := m_chkE hf
    refine m_iald X hM 13 9 2408 rfl cd dX12_sayMove_158 ?_
    clear cd
    obtain ⟨v9, ev, hf⟩ := m_bndE hf
    refine m_top ev ?_
    clear ev
    obtain ⟨o10, ho, hf⟩ := m_calE hf
    refine m_callVv X hM (c_sayNumber ho) gX12_sayMove_X12_sayNumber rfl ⟨rfl, rfl⟩ hd_sayNumber ⟨Nat.le_of_ble_eq_true rfl, Nat.le_of_ble_eq_true rfl⟩ rfl hl.1 rfl (Nat.le_of_ble_eq_true rfl) dX12_sayMove_159 (fun H locs hM => ?_)
    clear ho
    obtain ⟨v11, ev, hf⟩ := m_bndE hf
    refine lv_iinc (v := v11) (lv' := [(4, .int v11), (0, .ref (h 0)), (3, .int x3)]) hx hb dX12_sayMove_162 hl (k := 2) rfl (by rw [ev]; rfl) (by decide) rfl (fun ls hl => ?_)
    clear ev
    refine lv_goto (tgt := 124) hx hb dX12_sayMove_165 (by decide) ?_
    exact hself124 _ _ _ _ _ _ _ hf hM (lv_sub hl [1, 2, 0] rfl)
def f_sayMove_124 : Nat → Int32 → Int32 → (Nat → Int32) → (Nat → Nat → Int32) → Option (Int32 × MS)
  | 0 => fun _ _ _ _ => none
  | n + 1 => f_sayMove_124s (f_sayMove_124 n)
theorem w_sayMove_124 {p : Program} {l : Launch} {e : Env} {s : State} {m : MethodId} {args : Array Value} {below : List Frame} {meth : Method} {c : Code} {Q : State → Prop} {D : va_G} {cy ci : ClassId} {h : Nat → Nat} {A0 : Nat → Prop} {o : Int32 × MS} (X : CallFix p m c cX12_sayMove 5 s args wsX12_sayMove RX12) (hret : mRv p l e ({ frames := 7, cells := 0, slots := 0, locals := 181 } : Room) s m args below meth c Q cX12_sayMove D cy ci h A0 o) (n : Nat) : ∀ (x3 : Int32) (x4 : Int32) (I : Nat → Int32) (A : Nat → Nat → Int32) (H : Heap) (locs : List Loc) (ls : Array Slot), f_sayMove_124 n x3 x4 I A = some o → mH D cy ci h A0 s H locs I A → lv_has ls 5 [(0, .ref (h 0)), (3, .int x3), (4, .int x4)] → W p l e ({ frames := 7, cells := 0, slots := 0, locals := 181 } : Room) s m args below meth c H locs 0 0 Q (F0 m 124 ls []) := by
  induction n with
  | zero => intro x3 x4 I A H locs ls hf; cases hf
  | succ n ih => intro x3 x4 I A H locs ls hf hM hl; exact ws_sayMove_124 X hret (self124 := f_sayMove_124 n) ih hf hM hl
def f_sayMove_95s (self95 : Int32 → Int32 → (Nat → Int32) → (Nat → Nat → Int32) → Option (Int32 × MS)) (x3 : Int32) (x4 : Int32) (I : Nat → Int32) (A : Nat → Nat → Int32) : Option (Int32 × MS) :=
  m_if ((I 36) ≤ x4) (
  f_sayMove_124 mFuel x3 (0 : Int32) I A
  ) (
  m_chk (¬ (x4 < 0 ∨ 16 ≤ (x4).toNatClampNeg)) (
  m_bnd (A 35 (x4).toNatClampNeg) (fun v1 =>
  m_cal (f_ink v1 I A) (fun o2 =>
  m_bnd (x4 + (1 : Int32)) (fun v3 =>
  self95 x3 v3 o2.2.1 o2.2.2))))
  )

set_option maxRecDepth 100000 in
set_option maxHeartbeats 4000000 in
theorem ws_sayMove_95 {p : Program} {l : Launch} {e : Env} {s : State} {m : MethodId} {args : Array Value} {below : List Frame} {meth : Method} {c : Code} {Q : State → Prop} {D : va_G} {cy ci : ClassId} {h : Nat → Nat} {A0 : Nat → Prop} {o : Int32 × MS} (X : CallFix p m c cX12_sayMove 5 s args wsX12_sayMove RX12) (hret : mRv p l e ({ frames := 7, cells := 0, slots := 0, locals := 181 } : Room) s m args below meth c Q cX12_sayMove D cy ci h A0 o) {self95 : Int32 → Int32 → (Nat → Int32) → (Nat → Nat → Int32) → Option (Int32 × MS)} (hself95 : ∀ (x3 : Int32) (x4 : Int32) (I : Nat → Int32) (A : Nat → Nat → Int32) (H : Heap) (locs : List Loc) (ls : Array Slot), self95 x3 x4 I A = some o → mH D cy ci h A0 s H locs I A → lv_has ls 5 [(0, .ref (h 0)), (3, .int x3), (4, .int x4)] → W p l e ({ frames := 7, cells := 0, slots := 0, locals := 181 } : Room) s m args below meth c H locs 0 0 Q (F0 m 95 ls [])) {x3 : Int32} {x4 : Int32} {I : Nat → Int32} {A : Nat → Nat → Int32} {H : Heap} {locs : List Loc} {ls : Array Slot} (hf : f_sayMove_95s self95 x3 x4 I A = some o) (hM : mH D cy ci h A0 s H locs I A) (hl : lv_has ls 5 [(0, .ref (h 0)), (3, .int x3), (4, .int x4)]) : W p l e ({ frames := 7, cells := 0, slots := 0, locals := 181 } : Room) s m args below meth c H locs 0 0 Q (F0 m 95 ls []) := by
  obtain ⟨hx, hb, hml, hown, hts⟩ := id X
  unfold f_sayMove_95s at hf
  refine lv_iload hx hb dX12_sayMove_95 (lv_at hl 2 rfl) ?_
  refine lv_aload_n hx hb dX12_sayMove_97 rfl (lv_at hl 0 rfl) ?_
  refine m_get (v := .int (I 36)) X hw_sayMove hM 36 (by decide) fl_sayMove_36 rfl dX12_sayMove_98 ?_
  refine lv_icmp_ge (tgt := 121) hx hb dX12_sayMove_101 (by decide) (fun cc1 => ?_) (fun cc1 => ?_)
  · replace hf := m_ifT hf cc1
    refine lv_iconst (v := (0 : Int32)) hx hb dX12_sayMove_121 (by decide) ?_
    refine lv_istore (lv' := [(4, .int (0 : Int32)), (0, .ref (h 0)), (3, .int x3)]) hx hb dX12_sayMove_122 hl (by decide) rfl (fun ls hl => ?_)
    exact w_sayMove_124 X hret _ _ _ _ _ _ _ _ hf hM (lv_sub hl [1, 2, 0] rfl)
  · replace hf := m_ifF hf cc1
    refine lv_aload_n hx hb dX12_sayMove_104 rfl (lv_at hl 0 rfl) ?_
    refine lv_aload_n hx hb dX12_sayMove_105 rfl (lv_at hl 0 rfl) ?_
    refine m_get (v := .ref (h 35)) X hw_sayMove hM 35 (by decide) fl_sayMove_35 rfl dX12_sayMove_106 ?_
    refine lv_iload hx hb dX12_sayMove_109 (lv_at hl 2 rfl) ?_
    obtain ⟨cd, hf⟩ := m_chkE hf
    refine m_cald X hM 35 25 16 rfl cd dX12_sayMove_111 ?_
    clear cd
    obtain ⟨v1, ev, hf⟩ := m_bndE hf
    refine m_top ev ?_
    clear ev
    obtain ⟨o2, ho, hf⟩ := m_calE hf
    refine m_callVv X hM (c_ink ho) gX12_sayMove_X12_ink rfl ⟨rfl, rfl⟩ hd_ink ⟨Nat.le_of_ble_eq_true rfl, Nat.le_of_ble_eq_true rfl⟩ rfl hl.1 rfl (Nat.le_of_ble_eq_true rfl) dX12_sayMove_112 (fun H locs hM => ?_)
    clear ho
    obtain ⟨v3, ev, hf⟩ := m_bndE hf
    refine lv_iinc (v := v3) (lv' := [(4, .int v3), (0, .ref (h 0)), (3, .int x3)]) hx hb dX12_sayMove_115 hl (k := 2) rfl (by rw [ev]; rfl) (by decide) rfl (fun ls hl => ?_)
    clear ev
    refine lv_goto (tgt := 95) hx hb dX12_sayMove_118 (by decide) ?_
    exact hself95 _ _ _ _ _ _ _ hf hM (lv_sub hl [1, 2, 0] rfl)
def f_sayMove_95 : Nat → Int32 → Int32 → (Nat → Int32) → (Nat → Nat → Int32) → Option (Int32 × MS)
  | 0 => fun _ _ _ _ => none
  | n + 1 => f_sayMove_95s (f_sayMove_95 n)
theorem w_sayMove_95 {p : Program} {l : Launch} {e : Env} {s : State} {m : MethodId} {args : Array Value} {below : List Frame} {meth : Method} {c : Code} {Q : State → Prop} {D : va_G} {cy ci : ClassId} {h : Nat → Nat} {A0 : Nat → Prop} {o : Int32 × MS} (X : CallFix p m c cX12_sayMove 5 s args wsX12_sayMove RX12) (hret : mRv p l e ({ frames := 7, cells := 0, slots := 0, locals := 181 } : Room) s m args below meth c Q cX12_sayMove D cy ci h A0 o) (n : Nat) : ∀ (x3 : Int32) (x4 : Int32) (I : Nat → Int32) (A : Nat → Nat → Int32) (H : Heap) (locs : List Loc) (ls : Array Slot), f_sayMove_95 n x3 x4 I A = some o → mH D cy ci h A0 s H locs I A → lv_has ls 5 [(0, .ref (h 0)), (3, .int x3), (4, .int x4)] → W p l e ({ frames := 7, cells := 0, slots := 0, locals := 181 } : Room) s m args below meth c H locs 0 0 Q (F0 m 95 ls []) := by
  induction n with
  | zero => intro x3 x4 I A H locs ls hf; cases hf
  | succ n ih => intro x3 x4 I A H locs ls hf hM hl; exact ws_sayMove_95 X hret (self95 := f_sayMove_95 n) ih hf hM hl
def f_sayMove_82 (x3 : Int32) (I : Nat → Int32) (A : Nat → Nat → Int32) : Option (Int32 × MS) :=
  m_chk (¬ (x3 < 0 ∨ 602 ≤ (x3).toNatClampNeg)) (
  m_bnd (A 9 (x3).toNatClampNeg) (fun v1 =>
  m_cal (f_spellWhole v1 I A) (fun o2 =>
  f_sayMove_95 mFuel x3 (0 : Int32) o2.2.1 o2.2.2)))

set_option maxRecDepth 100000 in
set_option maxHeartbeats 4000000 in
theorem w_sayMove_82 {p : Program} {l : Launch} {e : Env} {s : State} {m : MethodId} {args : Array Value} {below : List Frame} {meth : Method} {c : Code} {Q : State → Prop} {D : va_G} {cy ci : ClassId} {h : Nat → Nat} {A0 : Nat → Prop} {o : Int32 × MS} (X : CallFix p m c cX12_sayMove 5 s args wsX12_sayMove RX12) (hret : mRv p l e ({ frames := 7, cells := 0, slots := 0, locals := 181 } : Room) s m args below meth c Q cX12_sayMove D cy ci h A0 o) {x3 : Int32} {I : Nat → Int32} {A : Nat → Nat → Int32} {H : Heap} {locs : List Loc} {ls : Array Slot} (hf : f_sayMove_82 x3 I A = some o) (hM : mH D cy ci h A0 s H locs I A) (hl : lv_has ls 5 [(0, .ref (h 0)), (3, .int x3)]) : W p l e ({ frames := 7, cells := 0, slots := 0, locals := 181 } : Room) s m args below meth c H locs 0 0 Q (F0 m 82 ls []) := by
  obtain ⟨hx, hb, hml, hown, hts⟩ := id X
  unfold f_sayMove_82 at hf
  refine lv_aload_n hx hb dX12_sayMove_82 rfl (lv_at hl 0 rfl) ?_
  refine lv_aload_n hx hb dX12_sayMove_83 rfl (lv_at hl 0 rfl) ?_
  refine m_get (v := .ref (h 9)) X hw_sayMove hM 9 (by decide) fl_sayMove_9 rfl dX12_sayMove_84 ?_
  refine lv_iload_n hx hb dX12_sayMove_87 rfl (lv_at hl 1 rfl) ?_
  obtain ⟨cd, hf⟩ := m_chkE hf
  refine m_iald X hM 9 5 602 rfl cd dX12_sayMove_88 ?_
  clear cd
  obtain ⟨v1, ev, hf⟩ := m_bndE hf
  refine m_top ev ?_
  clear ev
  obtain ⟨o2, ho, hf⟩ := m_calE hf
  refine m_callVv X hM (c_spellWhole ho) gX12_sayMove_X12_spellWhole rfl ⟨rfl, rfl⟩ hd_spellWhole ⟨Nat.le_of_ble_eq_true rfl, Nat.le_of_ble_eq_true rfl⟩ rfl hl.1 rfl (Nat.le_of_ble_eq_true rfl) dX12_sayMove_89 (fun H locs hM => ?_)
  clear ho
  refine lv_iconst (v := (0 : Int32)) hx hb dX12_sayMove_92 (by decide) ?_
  refine lv_istore (lv' := [(4, .int (0 : Int32)), (0, .ref (h 0)), (3, .int x3)]) hx hb dX12_sayMove_93 hl (by decide) rfl (fun ls hl => ?_)
  exact w_sayMove_95 X hret _ _ _ _ _ _ _ _ hf hM (lv_sub hl [1, 2, 0] rfl)
def f_sayMove_61 (self47 : Int32 → Int32 → (Nat → Int32) → (Nat → Nat → Int32) → Option (Int32 × MS)) (x3 : Int32) (x4 : Int32) (t0 : Int32) (t1 : Int32) (I : Nat → Int32) (A : Nat → Nat → Int32) : Option (Int32 × MS) :=
  m_if (t0 ≤ t1) (
  m_cal (f_ink (32 : Int32) I A) (fun o1 =>
  f_sayMove_82 x3 o1.2.1 o1.2.2)
  ) (
  m_cal (f_ink (46 : Int32) I A) (fun o2 =>
  m_bnd (x4 + (1 : Int32)) (fun v3 =>
  self47 x3 v3 o2.2.1 o2.2.2))
  )

set_option maxRecDepth 100000 in
set_option maxHeartbeats 4000000 in
theorem w_sayMove_61 {p : Program} {l : Launch} {e : Env} {s : State} {m : MethodId} {args : Array Value} {below : List Frame} {meth : Method} {c : Code} {Q : State → Prop} {D : va_G} {cy ci : ClassId} {h : Nat → Nat} {A0 : Nat → Prop} {o : Int32 × MS} (X : CallFix p m c cX12_sayMove 5 s args wsX12_sayMove RX12) (hret : mRv p l e ({ frames := 7, cells := 0, slots := 0, locals := 181 } : Room) s m args below meth c Q cX12_sayMove D cy ci h A0 o) {self47 : Int32 → Int32 → (Nat → Int32) → (Nat → Nat → Int32) → Option (Int32 × MS)} (hself47 : ∀ (x3 : Int32) (x4 : Int32) (I : Nat → Int32) (A : Nat → Nat → Int32) (H : Heap) (locs : List Loc) (ls : Array Slot), self47 x3 x4 I A = some o → mH D cy ci h A0 s H locs I A → lv_has ls 5 [(0, .ref (h 0)), (3, .int x3), (4, .int x4)] → W p l e ({ frames := 7, cells := 0, slots := 0, locals := 181 } : Room) s m args below meth c H locs 0 0 Q (F0 m 47 ls [])) {x3 : Int32} {x4 : Int32} {t0 : Int32} {t1 : Int32} {I : Nat → Int32} {A : Nat → Nat → Int32} {H : Heap} {locs : List Loc} {ls : Array Slot} (hf : f_sayMove_61 self47 x3 x4 t0 t1 I A = some o) (hM : mH D cy ci h A0 s H locs I A) (hl : lv_has ls 5 [(0, .ref (h 0)), (3, .int x3), (4, .int x4)]) : W p l e ({ frames := 7, cells := 0, slots := 0, locals := 181 } : Room) s m args below meth c H locs 0 0 Q (F0 m 61 ls [.int t0, .int t1]) := by
  obtain ⟨hx, hb, hml, hown, hts⟩ := id X
  unfold f_sayMove_61 at hf
  refine lv_icmp_ge (tgt := 76) hx hb dX12_sayMove_61 (by decide) (fun cc1 => ?_) (fun cc1 => ?_)
  · replace hf := m_ifT hf cc1
    refine lv_aload_n hx hb dX12_sayMove_76 rfl (lv_at hl 0 rfl) ?_
    refine lv_bipush (v := (32 : Int32)) hx hb dX12_sayMove_77 (by decide) ?_
    obtain ⟨o1, ho, hf⟩ := m_calE hf
    refine m_callVv X hM (c_ink ho) gX12_sayMove_X12_ink rfl ⟨rfl, rfl⟩ hd_ink ⟨Nat.le_of_ble_eq_true rfl, Nat.le_of_ble_eq_true rfl⟩ rfl hl.1 rfl (Nat.le_of_ble_eq_true rfl) dX12_sayMove_79 (fun H locs hM => ?_)
    clear ho
    exact w_sayMove_82 X hret hf hM (lv_sub hl [0, 1] rfl)
  · replace hf := m_ifF hf cc1
    refine lv_aload_n hx hb dX12_sayMove_64 rfl (lv_at hl 0 rfl) ?_
    refine lv_bipush (v := (46 : Int32)) hx hb dX12_sayMove_65 (by decide) ?_
    obtain ⟨o2, ho, hf⟩ := m_calE hf
    refine m_callVv X hM (c_ink ho) gX12_sayMove_X12_ink rfl ⟨rfl, rfl⟩ hd_ink ⟨Nat.le_of_ble_eq_true rfl, Nat.le_of_ble_eq_true rfl⟩ rfl hl.1 rfl (Nat.le_of_ble_eq_true rfl) dX12_sayMove_67 (fun H locs hM => ?_)
    clear ho
    obtain ⟨v3, ev, hf⟩ := m_bndE hf
    refine lv_iinc (v := v3) (lv' := [(4, .int v3), (0, .ref (h 0)), (3, .int x3)]) hx hb dX12_sayMove_70 hl (k := 2) rfl (by rw [ev]; rfl) (by decide) rfl (fun ls hl => ?_)
    clear ev
    refine lv_goto (tgt := 47) hx hb dX12_sayMove_73 (by decide) ?_
    exact hself47 _ _ _ _ _ _ _ hf hM (lv_sub hl [1, 2, 0] rfl)
def f_sayMove_47s (self47 : Int32 → Int32 → (Nat → Int32) → (Nat → Nat → Int32) → Option (Int32 × MS)) (x3 : Int32) (x4 : Int32) (I : Nat → Int32) (A : Nat → Nat → Int32) : Option (Int32 × MS) :=
  m_if ((I 25) = 0) (
  f_sayMove_61 self47 x3 x4 (1 : Int32) x4 I A
  ) (
  f_sayMove_61 self47 x3 x4 (3 : Int32) x4 I A
  )

set_option maxRecDepth 100000 in
set_option maxHeartbeats 4000000 in
theorem ws_sayMove_47 {p : Program} {l : Launch} {e : Env} {s : State} {m : MethodId} {args : Array Value} {below : List Frame} {meth : Method} {c : Code} {Q : State → Prop} {D : va_G} {cy ci : ClassId} {h : Nat → Nat} {A0 : Nat → Prop} {o : Int32 × MS} (X : CallFix p m c cX12_sayMove 5 s args wsX12_sayMove RX12) (hret : mRv p l e ({ frames := 7, cells := 0, slots := 0, locals := 181 } : Room) s m args below meth c Q cX12_sayMove D cy ci h A0 o) {self47 : Int32 → Int32 → (Nat → Int32) → (Nat → Nat → Int32) → Option (Int32 × MS)} (hself47 : ∀ (x3 : Int32) (x4 : Int32) (I : Nat → Int32) (A : Nat → Nat → Int32) (H : Heap) (locs : List Loc) (ls : Array Slot), self47 x3 x4 I A = some o → mH D cy ci h A0 s H locs I A → lv_has ls 5 [(0, .ref (h 0)), (3, .int x3), (4, .int x4)] → W p l e ({ frames := 7, cells := 0, slots := 0, locals := 181 } : Room) s m args below meth c H locs 0 0 Q (F0 m 47 ls [])) {x3 : Int32} {x4 : Int32} {I : Nat → Int32} {A : Nat → Nat → Int32} {H : Heap} {locs : List Loc} {ls : Array Slot} (hf : f_sayMove_47s self47 x3 x4 I A = some o) (hM : mH D cy ci h A0 s H locs I A) (hl : lv_has ls 5 [(0, .ref (h 0)), (3, .int x3), (4, .int x4)]) : W p l e ({ frames := 7, cells := 0, slots := 0, locals := 181 } : Room) s m args below meth c H locs 0 0 Q (F0 m 47 ls []) := by
  obtain ⟨hx, hb, hml, hown, hts⟩ := id X
  unfold f_sayMove_47s at hf
  refine lv_iload hx hb dX12_sayMove_47 (lv_at hl 2 rfl) ?_
  refine lv_aload_n hx hb dX12_sayMove_49 rfl (lv_at hl 0 rfl) ?_
  refine m_get (v := .int (I 25)) X hw_sayMove hM 25 (by decide) fl_sayMove_25 rfl dX12_sayMove_50 ?_
  refine lv_if_ne (tgt := 60) hx hb dX12_sayMove_53 (by decide) (fun cc1 => ?_) (fun cc1 => ?_)
  · replace hf := m_ifF hf cc1
    refine lv_iconst (v := (3 : Int32)) hx hb dX12_sayMove_60 (by decide) ?_
    exact w_sayMove_61 X hret hself47 hf hM (lv_sub hl [0, 1, 2] rfl)
  · replace hf := m_ifT hf cc1
    refine lv_iconst (v := (1 : Int32)) hx hb dX12_sayMove_56 (by decide) ?_
    refine lv_goto (tgt := 61) hx hb dX12_sayMove_57 (by decide) ?_
    exact w_sayMove_61 X hret hself47 hf hM (lv_sub hl [0, 1, 2] rfl)
def f_sayMove_47 : Nat → Int32 → Int32 → (Nat → Int32) → (Nat → Nat → Int32) → Option (Int32 × MS)
  | 0 => fun _ _ _ _ => none
  | n + 1 => f_sayMove_47s (f_sayMove_47 n)
theorem w_sayMove_47 {p : Program} {l : Launch} {e : Env} {s : State} {m : MethodId} {args : Array Value} {below : List Frame} {meth : Method} {c : Code} {Q : State → Prop} {D : va_G} {cy ci : ClassId} {h : Nat → Nat} {A0 : Nat → Prop} {o : Int32 × MS} (X : CallFix p m c cX12_sayMove 5 s args wsX12_sayMove RX12) (hret : mRv p l e ({ frames := 7, cells := 0, slots := 0, locals := 181 } : Room) s m args below meth c Q cX12_sayMove D cy ci h A0 o) (n : Nat) : ∀ (x3 : Int32) (x4 : Int32) (I : Nat → Int32) (A : Nat → Nat → Int32) (H : Heap) (locs : List Loc) (ls : Array Slot), f_sayMove_47 n x3 x4 I A = some o → mH D cy ci h A0 s H locs I A → lv_has ls 5 [(0, .ref (h 0)), (3, .int x3), (4, .int x4)] → W p l e ({ frames := 7, cells := 0, slots := 0, locals := 181 } : Room) s m args below meth c H locs 0 0 Q (F0 m 47 ls []) := by
  induction n with
  | zero => intro x3 x4 I A H locs ls hf; cases hf
  | succ n ih => intro x3 x4 I A H locs ls hf hM hl; exact ws_sayMove_47 X hret (self47 := f_sayMove_47 n) ih hf hM hl
def f_sayMove_36 (x3 : Int32) (I : Nat → Int32) (A : Nat → Nat → Int32) : Option (Int32 × MS) :=
  m_cal (f_sayNumber (I 29) I A) (fun o1 =>
  f_sayMove_47 mFuel x3 (0 : Int32) o1.2.1 o1.2.2)

set_option maxRecDepth 100000 in
set_option maxHeartbeats 4000000 in
theorem w_sayMove_36 {p : Program} {l : Launch} {e : Env} {s : State} {m : MethodId} {args : Array Value} {below : List Frame} {meth : Method} {c : Code} {Q : State → Prop} {D : va_G} {cy ci : ClassId} {h : Nat → Nat} {A0 : Nat → Prop} {o : Int32 × MS} (X : CallFix p m c cX12_sayMove 5 s args wsX12_sayMove RX12) (hret : mRv p l e ({ frames := 7, cells := 0, slots := 0, locals := 181 } : Room) s m args below meth c Q cX12_sayMove D cy ci h A0 o) {x3 : Int32} {I : Nat → Int32} {A : Nat → Nat → Int32} {H : Heap} {locs : List Loc} {ls : Array Slot} (hf : f_sayMove_36 x3 I A = some o) (hM : mH D cy ci h A0 s H locs I A) (hl : lv_has ls 5 [(0, .ref (h 0)), (3, .int x3)]) : W p l e ({ frames := 7, cells := 0, slots := 0, locals := 181 } : Room) s m args below meth c H locs 0 0 Q (F0 m 36 ls []) := by
  obtain ⟨hx, hb, hml, hown, hts⟩ := id X
  unfold f_sayMove_36 at hf
  refine lv_aload_n hx hb dX12_sayMove_36 rfl (lv_at hl 0 rfl) ?_
  refine lv_aload_n hx hb dX12_sayMove_37 rfl (lv_at hl 0 rfl) ?_
  refine m_get (v := .int (I 29)) X hw_sayMove hM 29 (by decide) fl_sayMove_29 rfl dX12_sayMove_38 ?_
  obtain ⟨o1, ho, hf⟩ := m_calE hf
  refine m_callVv X hM (c_sayNumber ho) gX12_sayMove_X12_sayNumber rfl ⟨rfl, rfl⟩ hd_sayNumber ⟨Nat.le_of_ble_eq_true rfl, Nat.le_of_ble_eq_true rfl⟩ rfl hl.1 rfl (Nat.le_of_ble_eq_true rfl) dX12_sayMove_41 (fun H locs hM => ?_)
  clear ho
  refine lv_iconst (v := (0 : Int32)) hx hb dX12_sayMove_44 (by decide) ?_
  refine lv_istore (lv' := [(4, .int (0 : Int32)), (0, .ref (h 0)), (3, .int x3)]) hx hb dX12_sayMove_45 hl (by decide) rfl (fun ls hl => ?_)
  exact w_sayMove_47 X hret _ _ _ _ _ _ _ _ hf hM (lv_sub hl [1, 2, 0] rfl)
def f_sayMove_0 (x1 : Int32) (x2 : Int32) (I : Nat → Int32) (A : Nat → Nat → Int32) : Option (Int32 × MS) :=
  m_bnd ((301 : Int32) * (I 5)) (fun v1 =>
  m_bnd (v1 + x1) (fun v2 =>
  m_chk (¬ (v2 < 0 ∨ 602 ≤ (v2).toNatClampNeg)) (
  m_bnd (A 8 (v2).toNatClampNeg) (fun v3 =>
  m_cal (f_place (I 5) v3 I A) (fun o4 =>
  m_if ((o4.2.1 25) = 0) (
  f_sayMove_36 v2 o4.2.1 o4.2.2
  ) (
  m_if (x2 = 0) (
  f_sayMove_82 v2 o4.2.1 o4.2.2
  ) (
  f_sayMove_36 v2 o4.2.1 o4.2.2
  )
  ))))))

set_option maxRecDepth 100000 in
set_option maxHeartbeats 4000000 in
theorem w_sayMove_0 {p : Program} {l : Launch} {e : Env} {s : State} {m : MethodId} {args : Array Value} {below : List Frame} {meth : Method} {c : Code} {Q : State → Prop} {D : va_G} {cy ci : ClassId} {h : Nat → Nat} {A0 : Nat → Prop} {o : Int32 × MS} (X : CallFix p m c cX12_sayMove 5 s args wsX12_sayMove RX12) (hret : mRv p l e ({ frames := 7, cells := 0, slots := 0, locals := 181 } : Room) s m args below meth c Q cX12_sayMove D cy ci h A0 o) {x1 : Int32} {x2 : Int32} {I : Nat → Int32} {A : Nat → Nat → Int32} {H : Heap} {locs : List Loc} {ls : Array Slot} (hf : f_sayMove_0 x1 x2 I A = some o) (hM : mH D cy ci h A0 s H locs I A) (hl : lv_has ls 5 [(0, .ref (h 0)), (1, .int x1), (2, .int x2)]) : W p l e ({ frames := 7, cells := 0, slots := 0, locals := 181 } : Room) s m args below meth c H locs 0 0 Q (F0 m 0 ls []) := by
  obtain ⟨hx, hb, hml, hown, hts⟩ := id X
  unfold f_sayMove_0 at hf
  refine lv_sipush (v := (301 : Int32)) hx hb dX12_sayMove_0 (by decide) ?_
  refine lv_aload_n hx hb dX12_sayMove_3 rfl (lv_at hl 0 rfl) ?_
  refine m_get (v := .int (I 5)) X hw_sayMove hM 5 (by decide) fl_sayMove_5 rfl dX12_sayMove_4 ?_
  refine lv_imul hx hb dX12_sayMove_7 ?_
  obtain ⟨v1, ev, hf⟩ := m_bndE hf
  refine m_top ev ?_
  clear ev
  refine lv_iload_n hx hb dX12_sayMove_8 rfl (lv_at hl 1 rfl) ?_
  refine lv_iadd hx hb dX12_sayMove_9 ?_
  obtain ⟨v2, ev, hf⟩ := m_bndE hf
  refine m_top ev ?_
  clear ev
  refine lv_istore_n (lv' := [(3, .int v2), (0, .ref (h 0)), (1, .int x1), (2, .int x2)]) hx hb dX12_sayMove_10 rfl hl (by decide) rfl (fun ls hl => ?_)
  refine lv_aload_n hx hb dX12_sayMove_11 rfl (lv_at hl 1 rfl) ?_
  refine lv_aload_n hx hb dX12_sayMove_12 rfl (lv_at hl 1 rfl) ?_
  refine m_get (v := .int (I 5)) X hw_sayMove hM 5 (by decide) fl_sayMove_5 rfl dX12_sayMove_13 ?_
  refine lv_aload_n hx hb dX12_sayMove_16 rfl (lv_at hl 1 rfl) ?_
  refine m_get (v := .ref (h 8)) X hw_sayMove hM 8 (by decide) fl_sayMove_8 rfl dX12_sayMove_17 ?_
  refine lv_iload_n hx hb dX12_sayMove_20 rfl (lv_at hl 0 rfl) ?_
  obtain ⟨cd, hf⟩ := m_chkE hf
  refine m_iald X hM 8 4 602 rfl cd dX12_sayMove_21 ?_
  clear cd
  obtain ⟨v3, ev, hf⟩ := m_bndE hf
  refine m_top ev ?_
  clear ev
  obtain ⟨o4, ho, hf⟩ := m_calE hf
  refine m_callVv X hM (c_place ho) gX12_sayMove_X12_place rfl ⟨rfl, rfl⟩ hd_place ⟨Nat.le_of_ble_eq_true rfl, Nat.le_of_ble_eq_true rfl⟩ rfl hl.1 rfl (Nat.le_of_ble_eq_true rfl) dX12_sayMove_22 (fun H locs hM => ?_)
  clear ho
  refine lv_aload_n hx hb dX12_sayMove_25 rfl (lv_at hl 1 rfl) ?_
  refine m_get (v := .int (o4.2.1 25)) X hw_sayMove hM 25 (by decide) fl_sayMove_25 rfl dX12_sayMove_26 ?_
  refine lv_if_eq (tgt := 36) hx hb dX12_sayMove_29 (by decide) (fun cc1 => ?_) (fun cc1 => ?_)
  · replace hf := m_ifT hf cc1
    exact w_sayMove_36 X hret hf hM (lv_sub hl [1, 0] rfl)
  · replace hf := m_ifF hf cc1
    refine lv_iload_n hx hb dX12_sayMove_32 rfl (lv_at hl 3 rfl) ?_
    refine lv_if_eq (tgt := 82) hx hb dX12_sayMove_33 (by decide) (fun cc1 => ?_) (fun cc1 => ?_)
    · replace hf := m_ifT hf cc1
      exact w_sayMove_82 X hret hf hM (lv_sub hl [1, 0] rfl)
    · replace hf := m_ifF hf cc1
      exact w_sayMove_36 X hret hf hM (lv_sub hl [1, 0] rfl)
def f_sayMove (x1 : Int32) (x2 : Int32) (I : Nat → Int32) (A : Nat → Nat → Int32) : Option (Int32 × MS) := f_sayMove_0 x1 x2 I A
theorem c_sayMove {l : Launch} {D : va_G} {cy ci : ClassId} {h : Nat → Nat} {x1 : Int32} {x2 : Int32} {I : Nat → Int32} {A : Nat → Nat → Int32} {o : Int32 × MS} (hf : f_sayMove x1 x2 I A = some o) : mMv l yX12_sayMove wsX12_sayMove ({ frames := 7, cells := 0, slots := 0, locals := 181 } : Room) [.ref (h 0), .int x1, .int x2] D cy ci h I A o :=
  m_entryV (cc := cX12_sayMove) (maxL := 5) (by decide) rfl rfl (Nat.le_of_ble_eq_true rfl) (fun p e s m args below meth c A0 Q H locs ls X hret hM hl => w_sayMove_0 X hret hf hM (lv_sub hl [0, 1, 2] rfl))
theorem hd_sayMove : yX12_sayMove.cls = RX12 ∧ yX12_sayMove.cls ≠ "java/lang/invoke/MethodHandle" ∧ yX12_sayMove.cls ≠ "java/lang/invoke/VarHandle" ∧ (parseMethodDescriptor yX12_sayMove.desc).map (fun d => d.parameters.length) = some 2 := by decide +kernel
theorem hw_isLegal : ∀ w ∈ wsX120, w ∈ wsX12_isLegal := by decide +kernel
theorem fl_isLegal_32 : Cond.fieldLink RX12 79 "MoveTextsModel" "list" "[I" ∈ wsX12_isLegal := by decide +kernel
theorem fl_isLegal_33 : Cond.fieldLink RX12 170 "MoveTextsModel" "moves" "I" ∈ wsX12_isLegal := by decide +kernel
def f_isLegal_31 (self4 : Int32 → Int32 → Int32 → (Nat → Int32) → (Nat → Nat → Int32) → Option (Int32 × MS)) (x1 : Int32) (x3 : Int32) (t0 : Int32) (I : Nat → Int32) (A : Nat → Nat → Int32) : Option (Int32 × MS) :=
  m_bnd (x3 + (1 : Int32)) (fun v1 =>
  self4 x1 t0 v1 I A)

set_option maxRecDepth 100000 in
set_option maxHeartbeats 4000000 in
theorem w_isLegal_31 {p : Program} {l : Launch} {e : Env} {s : State} {m : MethodId} {args : Array Value} {below : List Frame} {meth : Method} {c : Code} {Q : State → Prop} {D : va_G} {cy ci : ClassId} {h : Nat → Nat} {A0 : Nat → Prop} {o : Int32 × MS} (X : CallFix p m c cX12_isLegal 4 s args wsX12_isLegal RX12) (hret : mRi p l e ({ frames := 0, cells := 0, slots := 0, locals := 0 } : Room) s m args below meth c Q cX12_isLegal D cy ci h A0 .boolean o) {self4 : Int32 → Int32 → Int32 → (Nat → Int32) → (Nat → Nat → Int32) → Option (Int32 × MS)} (hself4 : ∀ (x1 : Int32) (x2 : Int32) (x3 : Int32) (I : Nat → Int32) (A : Nat → Nat → Int32) (H : Heap) (locs : List Loc) (ls : Array Slot), self4 x1 x2 x3 I A = some o → mH D cy ci h A0 s H locs I A → lv_has ls 4 [(0, .ref (h 0)), (1, .int x1), (2, .int x2), (3, .int x3)] → W p l e ({ frames := 0, cells := 0, slots := 0, locals := 0 } : Room) s m args below meth c H locs 0 0 Q (F0 m 4 ls [])) {x1 : Int32} {x3 : Int32} {t0 : Int32} {I : Nat → Int32} {A : Nat → Nat → Int32} {H : Heap} {locs : List Loc} {ls : Array Slot} (hf : f_isLegal_31 self4 x1 x3 t0 I A = some o) (hM : mH D cy ci h A0 s H locs I A) (hl : lv_has ls 4 [(0, .ref (h 0)), (1, .int x1), (3, .int x3)]) : W p l e ({ frames := 0, cells := 0, slots := 0, locals := 0 } : Room) s m args below meth c H locs 0 0 Q (F0 m 31 ls [.int t0]) := by
  obtain ⟨hx, hb, hml, hown, hts⟩ := id X
  unfold f_isLegal_31 at hf
  refine lv_istore_n (lv' := [(2, .int t0), (0, .ref (h 0)), (1, .int x1), (3, .int x3)]) hx hb dX12_isLegal_31 rfl hl (by decide) rfl (fun ls hl => ?_)
  obtain ⟨v1, ev, hf⟩ := m_bndE hf
  refine lv_iinc (v := v1) (lv' := [(3, .int v1), (2, .int t0), (0, .ref (h 0)), (1, .int x1)]) hx hb dX12_isLegal_32 hl (k := 3) rfl (by rw [ev]; rfl) (by decide) rfl (fun ls hl => ?_)
  clear ev
  refine lv_goto (tgt := 4) hx hb dX12_isLegal_35 (by decide) ?_
  exact hself4 _ _ _ _ _ _ _ _ hf hM (lv_sub hl [2, 3, 1, 0] rfl)
def f_isLegal_26 (self4 : Int32 → Int32 → Int32 → (Nat → Int32) → (Nat → Nat → Int32) → Option (Int32 × MS)) (x1 : Int32) (x3 : Int32) (I : Nat → Int32) (A : Nat → Nat → Int32) : Option (Int32 × MS) :=
  f_isLegal_31 self4 x1 x3 (1 : Int32) I A

set_option maxRecDepth 100000 in
set_option maxHeartbeats 4000000 in
theorem w_isLegal_26 {p : Program} {l : Launch} {e : Env} {s : State} {m : MethodId} {args : Array Value} {below : List Frame} {meth : Method} {c : Code} {Q : State → Prop} {D : va_G} {cy ci : ClassId} {h : Nat → Nat} {A0 : Nat → Prop} {o : Int32 × MS} (X : CallFix p m c cX12_isLegal 4 s args wsX12_isLegal RX12) (hret : mRi p l e ({ frames := 0, cells := 0, slots := 0, locals := 0 } : Room) s m args below meth c Q cX12_isLegal D cy ci h A0 .boolean o) {self4 : Int32 → Int32 → Int32 → (Nat → Int32) → (Nat → Nat → Int32) → Option (Int32 × MS)} (hself4 : ∀ (x1 : Int32) (x2 : Int32) (x3 : Int32) (I : Nat → Int32) (A : Nat → Nat → Int32) (H : Heap) (locs : List Loc) (ls : Array Slot), self4 x1 x2 x3 I A = some o → mH D cy ci h A0 s H locs I A → lv_has ls 4 [(0, .ref (h 0)), (1, .int x1), (2, .int x2), (3, .int x3)] → W p l e ({ frames := 0, cells := 0, slots := 0, locals := 0 } : Room) s m args below meth c H locs 0 0 Q (F0 m 4 ls [])) {x1 : Int32} {x3 : Int32} {I : Nat → Int32} {A : Nat → Nat → Int32} {H : Heap} {locs : List Loc} {ls : Array Slot} (hf : f_isLegal_26 self4 x1 x3 I A = some o) (hM : mH D cy ci h A0 s H locs I A) (hl : lv_has ls 4 [(0, .ref (h 0)), (1, .int x1), (3, .int x3)]) : W p l e ({ frames := 0, cells := 0, slots := 0, locals := 0 } : Room) s m args below meth c H locs 0 0 Q (F0 m 26 ls []) := by
  obtain ⟨hx, hb, hml, hown, hts⟩ := id X
  unfold f_isLegal_26 at hf
  refine lv_iconst (v := (1 : Int32)) hx hb dX12_isLegal_26 (by decide) ?_
  refine lv_goto (tgt := 31) hx hb dX12_isLegal_27 (by decide) ?_
  exact w_isLegal_31 X hret hself4 hf hM (lv_sub hl [0, 1, 2] rfl)
def f_isLegal_4s (self4 : Int32 → Int32 → Int32 → (Nat → Int32) → (Nat → Nat → Int32) → Option (Int32 × MS)) (x1 : Int32) (x2 : Int32) (x3 : Int32) (I : Nat → Int32) (A : Nat → Nat → Int32) : Option (Int32 × MS) :=
  m_if ((I 33) ≤ x3) (
  m_chk (vp_nar .boolean x2 = x2) (some (x2, (I, A)))
  ) (
  m_if (x2 = 0) (
  m_chk (¬ (x3 < 0 ∨ 2048 ≤ (x3).toNatClampNeg)) (
  m_bnd (A 32 (x3).toNatClampNeg) (fun v1 =>
  m_if (v1 = x1) (
  f_isLegal_26 self4 x1 x3 I A
  ) (
  f_isLegal_31 self4 x1 x3 (0 : Int32) I A
  )))
  ) (
  f_isLegal_26 self4 x1 x3 I A
  )
  )

set_option maxRecDepth 100000 in
set_option maxHeartbeats 4000000 in
theorem ws_isLegal_4 {p : Program} {l : Launch} {e : Env} {s : State} {m : MethodId} {args : Array Value} {below : List Frame} {meth : Method} {c : Code} {Q : State → Prop} {D : va_G} {cy ci : ClassId} {h : Nat → Nat} {A0 : Nat → Prop} {o : Int32 × MS} (X : CallFix p m c cX12_isLegal 4 s args wsX12_isLegal RX12) (hret : mRi p l e ({ frames := 0, cells := 0, slots := 0, locals := 0 } : Room) s m args below meth c Q cX12_isLegal D cy ci h A0 .boolean o) {self4 : Int32 → Int32 → Int32 → (Nat → Int32) → (Nat → Nat → Int32) → Option (Int32 × MS)} (hself4 : ∀ (x1 : Int32) (x2 : Int32) (x3 : Int32) (I : Nat → Int32) (A : Nat → Nat → Int32) (H : Heap) (locs : List Loc) (ls : Array Slot), self4 x1 x2 x3 I A = some o → mH D cy ci h A0 s H locs I A → lv_has ls 4 [(0, .ref (h 0)), (1, .int x1), (2, .int x2), (3, .int x3)] → W p l e ({ frames := 0, cells := 0, slots := 0, locals := 0 } : Room) s m args below meth c H locs 0 0 Q (F0 m 4 ls [])) {x1 : Int32} {x2 : Int32} {x3 : Int32} {I : Nat → Int32} {A : Nat → Nat → Int32} {H : Heap} {locs : List Loc} {ls : Array Slot} (hf : f_isLegal_4s self4 x1 x2 x3 I A = some o) (hM : mH D cy ci h A0 s H locs I A) (hl : lv_has ls 4 [(0, .ref (h 0)), (1, .int x1), (2, .int x2), (3, .int x3)]) : W p l e ({ frames := 0, cells := 0, slots := 0, locals := 0 } : Room) s m args below meth c H locs 0 0 Q (F0 m 4 ls []) := by
  obtain ⟨hx, hb, hml, hown, hts⟩ := id X
  unfold f_isLegal_4s at hf
  refine lv_iload_n hx hb dX12_isLegal_4 rfl (lv_at hl 3 rfl) ?_
  refine lv_aload_n hx hb dX12_isLegal_5 rfl (lv_at hl 0 rfl) ?_
  refine m_get (v := .int (I 33)) X hw_isLegal hM 33 (by decide) fl_isLegal_33 rfl dX12_isLegal_6 ?_
  refine lv_icmp_ge (tgt := 38) hx hb dX12_isLegal_9 (by decide) (fun cc1 => ?_) (fun cc1 => ?_)
  · replace hf := m_ifT hf cc1
    refine lv_iload_n hx hb dX12_isLegal_38 rfl (lv_at hl 2 rfl) ?_
    obtain ⟨cd, hf⟩ := m_chkE hf
    cases hf
    exact hret H locs _ ls hM (m_nb cd) dX12_isLegal_39
  · replace hf := m_ifF hf cc1
    refine lv_iload_n hx hb dX12_isLegal_12 rfl (lv_at hl 2 rfl) ?_
    refine lv_if_ne (tgt := 26) hx hb dX12_isLegal_13 (by decide) (fun cc1 => ?_) (fun cc1 => ?_)
    · replace hf := m_ifF hf cc1
      exact w_isLegal_26 X hret hself4 hf hM (lv_sub hl [0, 1, 3] rfl)
    · replace hf := m_ifT hf cc1
      refine lv_aload_n hx hb dX12_isLegal_16 rfl (lv_at hl 0 rfl) ?_
      refine m_get (v := .ref (h 32)) X hw_isLegal hM 32 (by decide) fl_isLegal_32 rfl dX12_isLegal_17 ?_
      refine lv_iload_n hx hb dX12_isLegal_20 rfl (lv_at hl 3 rfl) ?_
      obtain ⟨cd, hf⟩ := m_chkE hf
      refine m_iald X hM 32 23 2048 rfl cd dX12_isLegal_21 ?_
      clear cd
      obtain ⟨v1, ev, hf⟩ := m_bndE hf
      refine m_top ev ?_
      clear ev
      refine lv_iload_n hx hb dX12_isLegal_22 rfl (lv_at hl 1 rfl) ?_
      refine lv_icmp_ne (tgt := 30) hx hb dX12_isLegal_23 (by decide) (fun cc1 => ?_) (fun cc1 => ?_)
      · replace hf := m_ifF hf cc1
        refine lv_iconst (v := (0 : Int32)) hx hb dX12_isLegal_30 (by decide) ?_
        exact w_isLegal_31 X hret hself4 hf hM (lv_sub hl [0, 1, 3] rfl)
      · replace hf := m_ifT hf cc1
        exact w_isLegal_26 X hret hself4 hf hM (lv_sub hl [0, 1, 3] rfl)
def f_isLegal_4 : Nat → Int32 → Int32 → Int32 → (Nat → Int32) → (Nat → Nat → Int32) → Option (Int32 × MS)
  | 0 => fun _ _ _ _ _ => none
  | n + 1 => f_isLegal_4s (f_isLegal_4 n)
theorem w_isLegal_4 {p : Program} {l : Launch} {e : Env} {s : State} {m : MethodId} {args : Array Value} {below : List Frame} {meth : Method} {c : Code} {Q : State → Prop} {D : va_G} {cy ci : ClassId} {h : Nat → Nat} {A0 : Nat → Prop} {o : Int32 × MS} (X : CallFix p m c cX12_isLegal 4 s args wsX12_isLegal RX12) (hret : mRi p l e ({ frames := 0, cells := 0, slots := 0, locals := 0 } : Room) s m args below meth c Q cX12_isLegal D cy ci h A0 .boolean o) (n : Nat) : ∀ (x1 : Int32) (x2 : Int32) (x3 : Int32) (I : Nat → Int32) (A : Nat → Nat → Int32) (H : Heap) (locs : List Loc) (ls : Array Slot), f_isLegal_4 n x1 x2 x3 I A = some o → mH D cy ci h A0 s H locs I A → lv_has ls 4 [(0, .ref (h 0)), (1, .int x1), (2, .int x2), (3, .int x3)] → W p l e ({ frames := 0, cells := 0, slots := 0, locals := 0 } : Room) s m args below meth c H locs 0 0 Q (F0 m 4 ls []) := by
  induction n with
  | zero => intro x1 x2 x3 I A H locs ls hf; cases hf
  | succ n ih => intro x1 x2 x3 I A H locs ls hf hM hl; exact ws_isLegal_4 X hret (self4 := f_isLegal_4 n) ih hf hM hl
def f_isLegal_0 (x1 : Int32) (I : Nat → Int32) (A : Nat → Nat → Int32) : Option (Int32 × MS) :=
  f_isLegal_4 mFuel x1 (0 : Int32) (0 : Int32) I A

set_option maxRecDepth 100000 in
set_option maxHeartbeats 4000000 in
theorem w_isLegal_0 {p : Program} {l : Launch} {e : Env} {s : State} {m : MethodId} {args : Array Value} {below : List Frame} {meth : Method} {c : Code} {Q : State → Prop} {D : va_G} {cy ci : ClassId} {h : Nat → Nat} {A0 : Nat → Prop} {o : Int32 × MS} (X : CallFix p m c cX12_isLegal 4 s args wsX12_isLegal RX12) (hret : mRi p l e ({ frames := 0, cells := 0, slots := 0, locals := 0 } : Room) s m args below meth c Q cX12_isLegal D cy ci h A0 .boolean o) {x1 : Int32} {I : Nat → Int32} {A : Nat → Nat → Int32} {H : Heap} {locs : List Loc} {ls : Array Slot} (hf : f_isLegal_0 x1 I A = some o) (hM : mH D cy ci h A0 s H locs I A) (hl : lv_has ls 4 [(0, .ref (h 0)), (1, .int x1)]) : W p l e ({ frames := 0, cells := 0, slots := 0, locals := 0 } : Room) s m args below meth c H locs 0 0 Q (F0 m 0 ls []) := by
  obtain ⟨hx, hb, hml, hown, hts⟩ := id X
  unfold f_isLegal_0 at hf
  refine lv_iconst (v := (0 : Int32)) hx hb dX12_isLegal_0 (by decide) ?_
  refine lv_istore_n (lv' := [(2, .int (0 : Int32)), (0, .ref (h 0)), (1, .int x1)]) hx hb dX12_isLegal_1 rfl hl (by decide) rfl (fun ls hl => ?_)
  refine lv_iconst (v := (0 : Int32)) hx hb dX12_isLegal_2 (by decide) ?_
  refine lv_istore_n (lv' := [(3, .int (0 : Int32)), (2, .int (0 : Int32)), (0, .ref (h 0)), (1, .int x1)]) hx hb dX12_isLegal_3 rfl hl (by decide) rfl (fun ls hl => ?_)
  exact w_isLegal_4 X hret _ _ _ _ _ _ _ _ _ hf hM (lv_sub hl [2, 3, 1, 0] rfl)
def f_isLegal (x1 : Int32) (I : Nat → Int32) (A : Nat → Nat → Int32) : Option (Int32 × MS) := f_isLegal_0 x1 I A
theorem c_isLegal {l : Launch} {D : va_G} {cy ci : ClassId} {h : Nat → Nat} {x1 : Int32} {I : Nat → Int32} {A : Nat → Nat → Int32} {o : Int32 × MS} (hf : f_isLegal x1 I A = some o) : mMi l yX12_isLegal wsX12_isLegal ({ frames := 0, cells := 0, slots := 0, locals := 0 } : Room) [.ref (h 0), .int x1] D cy ci h I A o :=
  m_entryI (cc := cX12_isLegal) (maxL := 4) (by decide) rfl rfl (Nat.le_of_ble_eq_true rfl) (fun p e s m args below meth c A0 Q H locs ls X hret hM hl => w_isLegal_0 X hret hf hM (lv_sub hl [0, 1] rfl))
theorem hd_isLegal : yX12_isLegal.cls = RX12 ∧ yX12_isLegal.cls ≠ "java/lang/invoke/MethodHandle" ∧ yX12_isLegal.cls ≠ "java/lang/invoke/VarHandle" ∧ (parseMethodDescriptor yX12_isLegal.desc).map (fun d => d.parameters.length) = some 1 := by decide +kernel
theorem hw_signs : ∀ w ∈ wsX120, w ∈ wsX12_signs := by decide +kernel
theorem fl_signs_0 : Cond.fieldLink RX12 99 "MoveTextsModel" "thrown" "I" ∈ wsX12_signs := by decide +kernel
theorem fl_signs_3 : Cond.fieldLink RX12 364 "MoveTextsModel" "told" "I" ∈ wsX12_signs := by decide +kernel
theorem fl_signs_4 : Cond.fieldLink RX12 14 "MoveTextsModel" "out" "[C" ∈ wsX12_signs := by decide +kernel
theorem fl_signs_35 : Cond.fieldLink RX12 85 "MoveTextsModel" "spelled" "[C" ∈ wsX12_signs := by decide +kernel
theorem fl_signs_36 : Cond.fieldLink RX12 191 "MoveTextsModel" "spelledSize" "I" ∈ wsX12_signs := by decide +kernel
def f_signs_33s (self33 : Int32 → (Nat → Int32) → (Nat → Nat → Int32) → Option (Int32 × MS)) (x2 : Int32) (I : Nat → Int32) (A : Nat → Nat → Int32) : Option (Int32 × MS) :=
  m_if ((I 36) ≤ x2) (
  m_bnd (upd I 3 (I 36)) (fun I1 =>
  some ((I1 3), (I1, A)))
  ) (
  m_chk (¬ (x2 < 0 ∨ 16 ≤ (x2).toNatClampNeg)) (
  m_bnd (A 35 (x2).toNatClampNeg) (fun v2 =>
  m_chk (¬ (x2 < 0 ∨ 80000 ≤ (x2).toNatClampNeg)) (
  m_bnd (va_up A 4 (upd (A 4) (x2).toNatClampNeg (vp_nar .char v2))) (fun A3 =>
  m_bnd (x2 + (1 : Int32)) (fun v4 =>
  self33 v4 I A3)))))
  )

set_option maxRecDepth 100000 in
set_option maxHeartbeats 4000000 in
theorem ws_signs_33 {p : Program} {l : Launch} {e : Env} {s : State} {m : MethodId} {args : Array Value} {below : List Frame} {meth : Method} {c : Code} {Q : State → Prop} {D : va_G} {cy ci : ClassId} {h : Nat → Nat} {A0 : Nat → Prop} {o : Int32 × MS} (X : CallFix p m c cX12_signs 3 s args wsX12_signs RX12) (hret : mRi p l e ({ frames := 7, cells := 0, slots := 0, locals := 178 } : Room) s m args below meth c Q cX12_signs D cy ci h A0 .int o) {self33 : Int32 → (Nat → Int32) → (Nat → Nat → Int32) → Option (Int32 × MS)} (hself33 : ∀ (x2 : Int32) (I : Nat → Int32) (A : Nat → Nat → Int32) (H : Heap) (locs : List Loc) (ls : Array Slot), self33 x2 I A = some o → mH D cy ci h A0 s H locs I A → lv_has ls 3 [(0, .ref (h 0)), (2, .int x2)] → W p l e ({ frames := 7, cells := 0, slots := 0, locals := 178 } : Room) s m args below meth c H locs 0 0 Q (F0 m 33 ls [])) {x2 : Int32} {I : Nat → Int32} {A : Nat → Nat → Int32} {H : Heap} {locs : List Loc} {ls : Array Slot} (hf : f_signs_33s self33 x2 I A = some o) (hM : mH D cy ci h A0 s H locs I A) (hl : lv_has ls 3 [(0, .ref (h 0)), (2, .int x2)]) : W p l e ({ frames := 7, cells := 0, slots := 0, locals := 178 } : Room) s m args below meth c H locs 0 0 Q (F0 m 33 ls []) := by
  obtain ⟨hx, hb, hml, hown, hts⟩ := id X
  unfold f_signs_33s at hf
  refine lv_iload_n hx hb dX12_signs_33 rfl (lv_at hl 1 rfl) ?_
  refine lv_aload_n hx hb dX12_signs_34 rfl (lv_at hl 0 rfl) ?_
  refine m_get (v := .int (I 36)) X hw_signs hM 36 (by decide) fl_signs_36 rfl dX12_signs_35 ?_
  refine lv_icmp_ge (tgt := 59) hx hb dX12_signs_38 (by decide) (fun cc1 => ?_) (fun cc1 => ?_)
  · replace hf := m_ifT hf cc1
    refine lv_aload_n hx hb dX12_signs_59 rfl (lv_at hl 0 rfl) ?_
    refine lv_aload_n hx hb dX12_signs_60 rfl (lv_at hl 0 rfl) ?_
    refine m_get (v := .int (I 36)) X hw_signs hM 36 (by decide) fl_signs_36 rfl dX12_signs_61 ?_
    refine m_put X hw_signs hM 3 (by decide) fl_signs_3 mi_3 rfl (tyX12_ok 3 (by decide)) dX12_signs_64 (fun H locs hM => ?_)
    obtain ⟨I1, ev, hf⟩ := m_bndE hf
    replace hM := m_hI hM ev
    clear ev
    refine lv_aload_n hx hb dX12_signs_67 rfl (lv_at hl 0 rfl) ?_
    refine m_get (v := .int (I1 3)) X hw_signs hM 3 (by decide) fl_signs_3 rfl dX12_signs_68 ?_
    cases hf
    exact hret H locs _ ls hM rfl dX12_signs_71
  · replace hf := m_ifF hf cc1
    refine lv_aload_n hx hb dX12_signs_41 rfl (lv_at hl 0 rfl) ?_
    refine m_get (v := .ref (h 4)) X hw_signs hM 4 (by decide) fl_signs_4 rfl dX12_signs_42 ?_
    refine lv_iload_n hx hb dX12_signs_45 rfl (lv_at hl 1 rfl) ?_
    refine lv_aload_n hx hb dX12_signs_46 rfl (lv_at hl 0 rfl) ?_
    refine m_get (v := .ref (h 35)) X hw_signs hM 35 (by decide) fl_signs_35 rfl dX12_signs_47 ?_
    refine lv_iload_n hx hb dX12_signs_50 rfl (lv_at hl 1 rfl) ?_
    obtain ⟨cd, hf⟩ := m_chkE hf
    refine m_cald X hM 35 25 16 rfl cd dX12_signs_51 ?_
    clear cd
    obtain ⟨v2, ev, hf⟩ := m_bndE hf
    refine m_top ev ?_
    clear ev
    obtain ⟨cd, hf⟩ := m_chkE hf
    refine m_cast X hM 4 2 80000 rfl ma_4 cd dX12_signs_52 (fun H locs hM => ?_)
    clear cd
    obtain ⟨A3, ev, hf⟩ := m_bndE hf
    replace hM := m_hA hM ev
    clear ev
    obtain ⟨v4, ev, hf⟩ := m_bndE hf
    refine lv_iinc (v := v4) (lv' := [(2, .int v4), (0, .ref (h 0))]) hx hb dX12_signs_53 hl (k := 1) rfl (by rw [ev]; rfl) (by decide) rfl (fun ls hl => ?_)
    clear ev
    refine lv_goto (tgt := 33) hx hb dX12_signs_56 (by decide) ?_
    exact hself33 _ _ _ _ _ _ hf hM (lv_sub hl [1, 0] rfl)
def f_signs_33 : Nat → Int32 → (Nat → Int32) → (Nat → Nat → Int32) → Option (Int32 × MS)
  | 0 => fun _ _ _ => none
  | n + 1 => f_signs_33s (f_signs_33 n)
theorem w_signs_33 {p : Program} {l : Launch} {e : Env} {s : State} {m : MethodId} {args : Array Value} {below : List Frame} {meth : Method} {c : Code} {Q : State → Prop} {D : va_G} {cy ci : ClassId} {h : Nat → Nat} {A0 : Nat → Prop} {o : Int32 × MS} (X : CallFix p m c cX12_signs 3 s args wsX12_signs RX12) (hret : mRi p l e ({ frames := 7, cells := 0, slots := 0, locals := 178 } : Room) s m args below meth c Q cX12_signs D cy ci h A0 .int o) (n : Nat) : ∀ (x2 : Int32) (I : Nat → Int32) (A : Nat → Nat → Int32) (H : Heap) (locs : List Loc) (ls : Array Slot), f_signs_33 n x2 I A = some o → mH D cy ci h A0 s H locs I A → lv_has ls 3 [(0, .ref (h 0)), (2, .int x2)] → W p l e ({ frames := 7, cells := 0, slots := 0, locals := 178 } : Room) s m args below meth c H locs 0 0 Q (F0 m 33 ls []) := by
  induction n with
  | zero => intro x2 I A H locs ls hf; cases hf
  | succ n ih => intro x2 I A H locs ls hf hM hl; exact ws_signs_33 X hret (self33 := f_signs_33 n) ih hf hM hl
def f_signs_14 (x1 : Int32) (t0 : Int32) (I : Nat → Int32) (A : Nat → Nat → Int32) : Option (Int32 × MS) :=
  m_bnd (upd I 0 t0) (fun I1 =>
  m_if ((I1 0) ≤ 0) (
  m_cal (f_spellWhole x1 I1 A) (fun o2 =>
  f_signs_33 mFuel (0 : Int32) o2.2.1 o2.2.2)
  ) (
  some ((0 : Int32), (I1, A))
  ))

set_option maxRecDepth 100000 in
set_option maxHeartbeats 4000000 in
theorem w_signs_14 {p : Program} {l : Launch} {e : Env} {s : State} {m : MethodId} {args : Array Value} {below : List Frame} {meth : Method} {c : Code} {Q : State → Prop} {D : va_G} {cy ci : ClassId} {h : Nat → Nat} {A0 : Nat → Prop} {o : Int32 × MS} (X : CallFix p m c cX12_signs 3 s args wsX12_signs RX12) (hret : mRi p l e ({ frames := 7, cells := 0, slots := 0, locals := 178 } : Room) s m args below meth c Q cX12_signs D cy ci h A0 .int o) {x1 : Int32} {t0 : Int32} {I : Nat → Int32} {A : Nat → Nat → Int32} {H : Heap} {locs : List Loc} {ls : Array Slot} (hf : f_signs_14 x1 t0 I A = some o) (hM : mH D cy ci h A0 s H locs I A) (hl : lv_has ls 3 [(0, .ref (h 0)), (1, .int x1)]) : W p l e ({ frames := 7, cells := 0, slots := 0, locals := 178 } : Room) s m args below meth c H locs 0 0 Q (F0 m 14 ls [.int t0, .ref (h 0)]) := by
  obtain ⟨hx, hb, hml, hown, hts⟩ := id X
  unfold f_signs_14 at hf
  refine m_put X hw_signs hM 0 (by decide) fl_signs_0 mi_0 rfl (tyX12_ok 0 (by decide)) dX12_signs_14 (fun H locs hM => ?_)
  obtain ⟨I1, ev, hf⟩ := m_bndE hf
  replace hM := m_hI hM ev
  clear ev
  refine lv_aload_n hx hb dX12_signs_17 rfl (lv_at hl 0 rfl) ?_
  refine m_get (v := .int (I1 0)) X hw_signs hM 0 (by decide) fl_signs_0 rfl dX12_signs_18 ?_
  refine lv_if_le (tgt := 26) hx hb dX12_signs_21 (by decide) (fun cc1 => ?_) (fun cc1 => ?_)
  · replace hf := m_ifT hf cc1
    refine lv_aload_n hx hb dX12_signs_26 rfl (lv_at hl 0 rfl) ?_
    refine lv_iload_n hx hb dX12_signs_27 rfl (lv_at hl 1 rfl) ?_
    obtain ⟨o2, ho, hf⟩ := m_calE hf
    refine m_callVv X hM (c_spellWhole ho) gX12_signs_X12_spellWhole rfl ⟨rfl, rfl⟩ hd_spellWhole ⟨Nat.le_of_ble_eq_true rfl, Nat.le_of_ble_eq_true rfl⟩ rfl hl.1 rfl (Nat.le_of_ble_eq_true rfl) dX12_signs_28 (fun H locs hM => ?_)
    clear ho
    refine lv_iconst (v := (0 : Int32)) hx hb dX12_signs_31 (by decide) ?_
    refine lv_istore_n (lv' := [(2, .int (0 : Int32)), (0, .ref (h 0)), (1, .int x1)]) hx hb dX12_signs_32 rfl hl (by decide) rfl (fun ls hl => ?_)
    exact w_signs_33 X hret _ _ _ _ _ _ _ hf hM (lv_sub hl [1, 0] rfl)
  · replace hf := m_ifF hf cc1
    refine lv_iconst (v := (0 : Int32)) hx hb dX12_signs_24 (by decide) ?_
    cases hf
    exact hret H locs _ ls hM rfl dX12_signs_25
def f_signs_0 (x1 : Int32) (I : Nat → Int32) (A : Nat → Nat → Int32) : Option (Int32 × MS) :=
  m_cal (f_isLegal x1 I A) (fun o1 =>
  m_if (o1.1 = 0) (
  f_signs_14 x1 (1 : Int32) o1.2.1 o1.2.2
  ) (
  f_signs_14 x1 (0 : Int32) o1.2.1 o1.2.2
  ))

set_option maxRecDepth 100000 in
set_option maxHeartbeats 4000000 in
theorem w_signs_0 {p : Program} {l : Launch} {e : Env} {s : State} {m : MethodId} {args : Array Value} {below : List Frame} {meth : Method} {c : Code} {Q : State → Prop} {D : va_G} {cy ci : ClassId} {h : Nat → Nat} {A0 : Nat → Prop} {o : Int32 × MS} (X : CallFix p m c cX12_signs 3 s args wsX12_signs RX12) (hret : mRi p l e ({ frames := 7, cells := 0, slots := 0, locals := 178 } : Room) s m args below meth c Q cX12_signs D cy ci h A0 .int o) {x1 : Int32} {I : Nat → Int32} {A : Nat → Nat → Int32} {H : Heap} {locs : List Loc} {ls : Array Slot} (hf : f_signs_0 x1 I A = some o) (hM : mH D cy ci h A0 s H locs I A) (hl : lv_has ls 3 [(0, .ref (h 0)), (1, .int x1)]) : W p l e ({ frames := 7, cells := 0, slots := 0, locals := 178 } : Room) s m args below meth c H locs 0 0 Q (F0 m 0 ls []) := by
  obtain ⟨hx, hb, hml, hown, hts⟩ := id X
  unfold f_signs_0 at hf
  refine lv_aload_n hx hb dX12_signs_0 rfl (lv_at hl 0 rfl) ?_
  refine lv_aload_n hx hb dX12_signs_1 rfl (lv_at hl 0 rfl) ?_
  refine lv_iload_n hx hb dX12_signs_2 rfl (lv_at hl 1 rfl) ?_
  obtain ⟨o1, ho, hf⟩ := m_calE hf
  refine m_callVi X hM (c_isLegal ho) gX12_signs_X12_isLegal rfl ⟨rfl, rfl⟩ hd_isLegal ⟨Nat.le_of_ble_eq_true rfl, Nat.le_of_ble_eq_true rfl⟩ rfl hl.1 rfl (Nat.le_of_ble_eq_true rfl) dX12_signs_3 (fun H locs hM => ?_)
  clear ho
  refine lv_if_eq (tgt := 13) hx hb dX12_signs_6 (by decide) (fun cc1 => ?_) (fun cc1 => ?_)
  · replace hf := m_ifT hf cc1
    refine lv_iconst (v := (1 : Int32)) hx hb dX12_signs_13 (by decide) ?_
    exact w_signs_14 X hret hf hM (lv_sub hl [0, 1] rfl)
  · replace hf := m_ifF hf cc1
    refine lv_iconst (v := (0 : Int32)) hx hb dX12_signs_9 (by decide) ?_
    refine lv_goto (tgt := 14) hx hb dX12_signs_10 (by decide) ?_
    exact w_signs_14 X hret hf hM (lv_sub hl [0, 1] rfl)
def f_signs (x1 : Int32) (I : Nat → Int32) (A : Nat → Nat → Int32) : Option (Int32 × MS) := f_signs_0 x1 I A
theorem c_signs {l : Launch} {D : va_G} {cy ci : ClassId} {h : Nat → Nat} {x1 : Int32} {I : Nat → Int32} {A : Nat → Nat → Int32} {o : Int32 × MS} (hf : f_signs x1 I A = some o) : mMi l yX12_signs wsX12_signs ({ frames := 7, cells := 0, slots := 0, locals := 178 } : Room) [.ref (h 0), .int x1] D cy ci h I A o :=
  m_entryI (cc := cX12_signs) (maxL := 3) (by decide) rfl rfl (Nat.le_of_ble_eq_true rfl) (fun p e s m args below meth c A0 Q H locs ls X hret hM hl => w_signs_0 X hret hf hM (lv_sub hl [0, 1] rfl))
theorem hd_signs : yX12_signs.cls = RX12 ∧ yX12_signs.cls ≠ "java/lang/invoke/MethodHandle" ∧ yX12_signs.cls ≠ "java/lang/invoke/VarHandle" ∧ (parseMethodDescriptor yX12_signs.desc).map (fun d => d.parameters.length) = some 1 := by decide +kernel
theorem hw_out : ∀ w ∈ wsX120, w ∈ wsX12_out := by decide +kernel
theorem fl_out_0 : Cond.fieldLink RX12 99 "MoveTextsModel" "thrown" "I" ∈ wsX12_out := by decide +kernel
theorem fl_out_3 : Cond.fieldLink RX12 364 "MoveTextsModel" "told" "I" ∈ wsX12_out := by decide +kernel
theorem fl_out_4 : Cond.fieldLink RX12 14 "MoveTextsModel" "out" "[C" ∈ wsX12_out := by decide +kernel
def f_out_27 (t0 : Int32) (I : Nat → Int32) (A : Nat → Nat → Int32) : Option (Int32 × MS) :=
  some (t0, (I, A))

set_option maxRecDepth 100000 in
set_option maxHeartbeats 4000000 in
theorem w_out_27 {p : Program} {l : Launch} {e : Env} {s : State} {m : MethodId} {args : Array Value} {below : List Frame} {meth : Method} {c : Code} {Q : State → Prop} {D : va_G} {cy ci : ClassId} {h : Nat → Nat} {A0 : Nat → Prop} {o : Int32 × MS} (X : CallFix p m c cX12_out 2 s args wsX12_out RX12) (hret : mRi p l e ({ frames := 0, cells := 0, slots := 0, locals := 0 } : Room) s m args below meth c Q cX12_out D cy ci h A0 .int o) {t0 : Int32} {I : Nat → Int32} {A : Nat → Nat → Int32} {H : Heap} {locs : List Loc} {ls : Array Slot} (hf : f_out_27 t0 I A = some o) (hM : mH D cy ci h A0 s H locs I A) (hl : lv_has ls 2 []) : W p l e ({ frames := 0, cells := 0, slots := 0, locals := 0 } : Room) s m args below meth c H locs 0 0 Q (F0 m 27 ls [.int t0]) := by
  obtain ⟨hx, hb, hml, hown, hts⟩ := id X
  unfold f_out_27 at hf
  cases hf
  exact hret H locs _ ls hM rfl dX12_out_27
def f_out_17 (I : Nat → Int32) (A : Nat → Nat → Int32) : Option (Int32 × MS) :=
  f_out_27 (0 : Int32) I A

set_option maxRecDepth 100000 in
set_option maxHeartbeats 4000000 in
theorem w_out_17 {p : Program} {l : Launch} {e : Env} {s : State} {m : MethodId} {args : Array Value} {below : List Frame} {meth : Method} {c : Code} {Q : State → Prop} {D : va_G} {cy ci : ClassId} {h : Nat → Nat} {A0 : Nat → Prop} {o : Int32 × MS} (X : CallFix p m c cX12_out 2 s args wsX12_out RX12) (hret : mRi p l e ({ frames := 0, cells := 0, slots := 0, locals := 0 } : Room) s m args below meth c Q cX12_out D cy ci h A0 .int o) {I : Nat → Int32} {A : Nat → Nat → Int32} {H : Heap} {locs : List Loc} {ls : Array Slot} (hf : f_out_17  I A = some o) (hM : mH D cy ci h A0 s H locs I A) (hl : lv_has ls 2 []) : W p l e ({ frames := 0, cells := 0, slots := 0, locals := 0 } : Room) s m args below meth c H locs 0 0 Q (F0 m 17 ls []) := by
  obtain ⟨hx, hb, hml, hown, hts⟩ := id X
  unfold f_out_17 at hf
  refine lv_iconst (v := (0 : Int32)) hx hb dX12_out_17 (by decide) ?_
  refine lv_goto (tgt := 27) hx hb dX12_out_18 (by decide) ?_
  exact w_out_27 X hret hf hM (lv_sub hl [] rfl)
def f_out_0 (x1 : Int32) (I : Nat → Int32) (A : Nat → Nat → Int32) : Option (Int32 × MS) :=
  m_bnd (upd I 0 (0 : Int32)) (fun I1 =>
  m_if (x1 < 0) (
  f_out_17  I1 A
  ) (
  m_if (x1 < (I1 3)) (
  m_chk (¬ (x1 < 0 ∨ 80000 ≤ (x1).toNatClampNeg)) (
  m_bnd (A 4 (x1).toNatClampNeg) (fun v2 =>
  f_out_27 v2 I1 A))
  ) (
  f_out_17  I1 A
  )
  ))

set_option maxRecDepth 100000 in
set_option maxHeartbeats 4000000 in
theorem w_out_0 {p : Program} {l : Launch} {e : Env} {s : State} {m : MethodId} {args : Array Value} {below : List Frame} {meth : Method} {c : Code} {Q : State → Prop} {D : va_G} {cy ci : ClassId} {h : Nat → Nat} {A0 : Nat → Prop} {o : Int32 × MS} (X : CallFix p m c cX12_out 2 s args wsX12_out RX12) (hret : mRi p l e ({ frames := 0, cells := 0, slots := 0, locals := 0 } : Room) s m args below meth c Q cX12_out D cy ci h A0 .int o) {x1 : Int32} {I : Nat → Int32} {A : Nat → Nat → Int32} {H : Heap} {locs : List Loc} {ls : Array Slot} (hf : f_out_0 x1 I A = some o) (hM : mH D cy ci h A0 s H locs I A) (hl : lv_has ls 2 [(0, .ref (h 0)), (1, .int x1)]) : W p l e ({ frames := 0, cells := 0, slots := 0, locals := 0 } : Room) s m args below meth c H locs 0 0 Q (F0 m 0 ls []) := by
  obtain ⟨hx, hb, hml, hown, hts⟩ := id X
  unfold f_out_0 at hf
  refine lv_aload_n hx hb dX12_out_0 rfl (lv_at hl 0 rfl) ?_
  refine lv_iconst (v := (0 : Int32)) hx hb dX12_out_1 (by decide) ?_
  refine m_put X hw_out hM 0 (by decide) fl_out_0 mi_0 rfl (tyX12_ok 0 (by decide)) dX12_out_2 (fun H locs hM => ?_)
  obtain ⟨I1, ev, hf⟩ := m_bndE hf
  replace hM := m_hI hM ev
  clear ev
  refine lv_iload_n hx hb dX12_out_5 rfl (lv_at hl 1 rfl) ?_
  refine lv_if_lt (tgt := 17) hx hb dX12_out_6 (by decide) (fun cc1 => ?_) (fun cc1 => ?_)
  · replace hf := m_ifT hf cc1
    exact w_out_17 X hret hf hM (lv_sub hl [] rfl)
  · replace hf := m_ifF hf cc1
    refine lv_iload_n hx hb dX12_out_9 rfl (lv_at hl 1 rfl) ?_
    refine lv_aload_n hx hb dX12_out_10 rfl (lv_at hl 0 rfl) ?_
    refine m_get (v := .int (I1 3)) X hw_out hM 3 (by decide) fl_out_3 rfl dX12_out_11 ?_
    refine lv_icmp_lt (tgt := 21) hx hb dX12_out_14 (by decide) (fun cc1 => ?_) (fun cc1 => ?_)
    · replace hf := m_ifT hf cc1
      refine lv_aload_n hx hb dX12_out_21 rfl (lv_at hl 0 rfl) ?_
      refine m_get (v := .ref (h 4)) X hw_out hM 4 (by decide) fl_out_4 rfl dX12_out_22 ?_
      refine lv_iload_n hx hb dX12_out_25 rfl (lv_at hl 1 rfl) ?_
      obtain ⟨cd, hf⟩ := m_chkE hf
      refine m_cald X hM 4 2 80000 rfl cd dX12_out_26 ?_
      clear cd
      obtain ⟨v2, ev, hf⟩ := m_bndE hf
      refine m_top ev ?_
      clear ev
      exact w_out_27 X hret hf hM (lv_sub hl [] rfl)
    · replace hf := m_ifF hf cc1
      exact w_out_17 X hret hf hM (lv_sub hl [] rfl)
def f_out (x1 : Int32) (I : Nat → Int32) (A : Nat → Nat → Int32) : Option (Int32 × MS) := f_out_0 x1 I A
theorem c_out {l : Launch} {D : va_G} {cy ci : ClassId} {h : Nat → Nat} {x1 : Int32} {I : Nat → Int32} {A : Nat → Nat → Int32} {o : Int32 × MS} (hf : f_out x1 I A = some o) : mMi l yX12_out wsX12_out ({ frames := 0, cells := 0, slots := 0, locals := 0 } : Room) [.ref (h 0), .int x1] D cy ci h I A o :=
  m_entryI (cc := cX12_out) (maxL := 2) (by decide) rfl rfl (Nat.le_of_ble_eq_true rfl) (fun p e s m args below meth c A0 Q H locs ls X hret hM hl => w_out_0 X hret hf hM (lv_sub hl [0, 1] rfl))
theorem hd_out : yX12_out.cls = RX12 ∧ yX12_out.cls ≠ "java/lang/invoke/MethodHandle" ∧ yX12_out.cls ≠ "java/lang/invoke/VarHandle" ∧ (parseMethodDescriptor yX12_out.desc).map (fun d => d.parameters.length) = some 1 := by decide +kernel
theorem hw_isNode : ∀ w ∈ wsX120, w ∈ wsX12_isNode := by decide +kernel
theorem fl_isNode_5 : Cond.fieldLink RX12 347 "MoveTextsModel" "game" "I" ∈ wsX12_isNode := by decide +kernel
theorem fl_isNode_7 : Cond.fieldLink RX12 17 "MoveTextsModel" "count" "[I" ∈ wsX12_isNode := by decide +kernel
def f_isNode_22 (t0 : Int32) (I : Nat → Int32) (A : Nat → Nat → Int32) : Option (Int32 × MS) :=
  m_chk (vp_nar .boolean t0 = t0) (some (t0, (I, A)))

set_option maxRecDepth 100000 in
set_option maxHeartbeats 4000000 in
theorem w_isNode_22 {p : Program} {l : Launch} {e : Env} {s : State} {m : MethodId} {args : Array Value} {below : List Frame} {meth : Method} {c : Code} {Q : State → Prop} {D : va_G} {cy ci : ClassId} {h : Nat → Nat} {A0 : Nat → Prop} {o : Int32 × MS} (X : CallFix p m c cX12_isNode 2 s args wsX12_isNode RX12) (hret : mRi p l e ({ frames := 0, cells := 0, slots := 0, locals := 0 } : Room) s m args below meth c Q cX12_isNode D cy ci h A0 .boolean o) {t0 : Int32} {I : Nat → Int32} {A : Nat → Nat → Int32} {H : Heap} {locs : List Loc} {ls : Array Slot} (hf : f_isNode_22 t0 I A = some o) (hM : mH D cy ci h A0 s H locs I A) (hl : lv_has ls 2 []) : W p l e ({ frames := 0, cells := 0, slots := 0, locals := 0 } : Room) s m args below meth c H locs 0 0 Q (F0 m 22 ls [.int t0]) := by
  obtain ⟨hx, hb, hml, hown, hts⟩ := id X
  unfold f_isNode_22 at hf
  obtain ⟨cd, hf⟩ := m_chkE hf
  cases hf
  exact hret H locs _ ls hM (m_nb cd) dX12_isNode_22
def f_isNode_21 (I : Nat → Int32) (A : Nat → Nat → Int32) : Option (Int32 × MS) :=
  f_isNode_22 (0 : Int32) I A

set_option maxRecDepth 100000 in
set_option maxHeartbeats 4000000 in
theorem w_isNode_21 {p : Program} {l : Launch} {e : Env} {s : State} {m : MethodId} {args : Array Value} {below : List Frame} {meth : Method} {c : Code} {Q : State → Prop} {D : va_G} {cy ci : ClassId} {h : Nat → Nat} {A0 : Nat → Prop} {o : Int32 × MS} (X : CallFix p m c cX12_isNode 2 s args wsX12_isNode RX12) (hret : mRi p l e ({ frames := 0, cells := 0, slots := 0, locals := 0 } : Room) s m args below meth c Q cX12_isNode D cy ci h A0 .boolean o) {I : Nat → Int32} {A : Nat → Nat → Int32} {H : Heap} {locs : List Loc} {ls : Array Slot} (hf : f_isNode_21  I A = some o) (hM : mH D cy ci h A0 s H locs I A) (hl : lv_has ls 2 []) : W p l e ({ frames := 0, cells := 0, slots := 0, locals := 0 } : Room) s m args below meth c H locs 0 0 Q (F0 m 21 ls []) := by
  obtain ⟨hx, hb, hml, hown, hts⟩ := id X
  unfold f_isNode_21 at hf
  refine lv_iconst (v := (0 : Int32)) hx hb dX12_isNode_21 (by decide) ?_
  exact w_isNode_22 X hret hf hM (lv_sub hl [] rfl)
def f_isNode_0 (x1 : Int32) (I : Nat → Int32) (A : Nat → Nat → Int32) : Option (Int32 × MS) :=
  m_if (x1 < 0) (
  f_isNode_21  I A
  ) (
  m_chk (¬ ((I 5) < 0 ∨ 2 ≤ ((I 5)).toNatClampNeg)) (
  m_bnd (A 7 ((I 5)).toNatClampNeg) (fun v1 =>
  m_if (v1 < x1) (
  f_isNode_21  I A
  ) (
  f_isNode_22 (1 : Int32) I A
  )))
  )

set_option maxRecDepth 100000 in
set_option maxHeartbeats 4000000 in
theorem w_isNode_0 {p : Program} {l : Launch} {e : Env} {s : State} {m : MethodId} {args : Array Value} {below : List Frame} {meth : Method} {c : Code} {Q : State → Prop} {D : va_G} {cy ci : ClassId} {h : Nat → Nat} {A0 : Nat → Prop} {o : Int32 × MS} (X : CallFix p m c cX12_isNode 2 s args wsX12_isNode RX12) (hret : mRi p l e ({ frames := 0, cells := 0, slots := 0, locals := 0 } : Room) s m args below meth c Q cX12_isNode D cy ci h A0 .boolean o) {x1 : Int32} {I : Nat → Int32} {A : Nat → Nat → Int32} {H : Heap} {locs : List Loc} {ls : Array Slot} (hf : f_isNode_0 x1 I A = some o) (hM : mH D cy ci h A0 s H locs I A) (hl : lv_has ls 2 [(0, .ref (h 0)), (1, .int x1)]) : W p l e ({ frames := 0, cells := 0, slots := 0, locals := 0 } : Room) s m args below meth c H locs 0 0 Q (F0 m 0 ls []) := by
  obtain ⟨hx, hb, hml, hown, hts⟩ := id X
  unfold f_isNode_0 at hf
  refine lv_iload_n hx hb dX12_isNode_0 rfl (lv_at hl 1 rfl) ?_
  refine lv_if_lt (tgt := 21) hx hb dX12_isNode_1 (by decide) (fun cc1 => ?_) (fun cc1 => ?_)
  · replace hf := m_ifT hf cc1
    exact w_isNode_21 X hret hf hM (lv_sub hl [] rfl)
  · replace hf := m_ifF hf cc1
    refine lv_iload_n hx hb dX12_isNode_4 rfl (lv_at hl 1 rfl) ?_
    refine lv_aload_n hx hb dX12_isNode_5 rfl (lv_at hl 0 rfl) ?_
    refine m_get (v := .ref (h 7)) X hw_isNode hM 7 (by decide) fl_isNode_7 rfl dX12_isNode_6 ?_
    refine lv_aload_n hx hb dX12_isNode_9 rfl (lv_at hl 0 rfl) ?_
    refine m_get (v := .int (I 5)) X hw_isNode hM 5 (by decide) fl_isNode_5 rfl dX12_isNode_10 ?_
    obtain ⟨cd, hf⟩ := m_chkE hf
    refine m_iald X hM 7 3 2 rfl cd dX12_isNode_13 ?_
    clear cd
    obtain ⟨v1, ev, hf⟩ := m_bndE hf
    refine m_top ev ?_
    clear ev
    refine lv_icmp_gt (tgt := 21) hx hb dX12_isNode_14 (by decide) (fun cc1 => ?_) (fun cc1 => ?_)
    · replace hf := m_ifT hf cc1
      exact w_isNode_21 X hret hf hM (lv_sub hl [] rfl)
    · replace hf := m_ifF hf cc1
      refine lv_iconst (v := (1 : Int32)) hx hb dX12_isNode_17 (by decide) ?_
      refine lv_goto (tgt := 22) hx hb dX12_isNode_18 (by decide) ?_
      exact w_isNode_22 X hret hf hM (lv_sub hl [] rfl)
def f_isNode (x1 : Int32) (I : Nat → Int32) (A : Nat → Nat → Int32) : Option (Int32 × MS) := f_isNode_0 x1 I A
theorem c_isNode {l : Launch} {D : va_G} {cy ci : ClassId} {h : Nat → Nat} {x1 : Int32} {I : Nat → Int32} {A : Nat → Nat → Int32} {o : Int32 × MS} (hf : f_isNode x1 I A = some o) : mMi l yX12_isNode wsX12_isNode ({ frames := 0, cells := 0, slots := 0, locals := 0 } : Room) [.ref (h 0), .int x1] D cy ci h I A o :=
  m_entryI (cc := cX12_isNode) (maxL := 2) (by decide) rfl rfl (Nat.le_of_ble_eq_true rfl) (fun p e s m args below meth c A0 Q H locs ls X hret hM hl => w_isNode_0 X hret hf hM (lv_sub hl [0, 1] rfl))
theorem hd_isNode : yX12_isNode.cls = RX12 ∧ yX12_isNode.cls ≠ "java/lang/invoke/MethodHandle" ∧ yX12_isNode.cls ≠ "java/lang/invoke/VarHandle" ∧ (parseMethodDescriptor yX12_isNode.desc).map (fun d => d.parameters.length) = some 1 := by decide +kernel
theorem hw_nodes : ∀ w ∈ wsX120, w ∈ wsX12_nodes := by decide +kernel
theorem fl_nodes_0 : Cond.fieldLink RX12 99 "MoveTextsModel" "thrown" "I" ∈ wsX12_nodes := by decide +kernel
theorem fl_nodes_5 : Cond.fieldLink RX12 347 "MoveTextsModel" "game" "I" ∈ wsX12_nodes := by decide +kernel
theorem fl_nodes_7 : Cond.fieldLink RX12 17 "MoveTextsModel" "count" "[I" ∈ wsX12_nodes := by decide +kernel
def f_nodes_0 (I : Nat → Int32) (A : Nat → Nat → Int32) : Option (Int32 × MS) :=
  m_bnd (upd I 0 (0 : Int32)) (fun I1 =>
  m_chk (¬ ((I1 5) < 0 ∨ 2 ≤ ((I1 5)).toNatClampNeg)) (
  m_bnd (A 7 ((I1 5)).toNatClampNeg) (fun v2 =>
  some (v2, (I1, A)))))

set_option maxRecDepth 100000 in
set_option maxHeartbeats 4000000 in
theorem w_nodes_0 {p : Program} {l : Launch} {e : Env} {s : State} {m : MethodId} {args : Array Value} {below : List Frame} {meth : Method} {c : Code} {Q : State → Prop} {D : va_G} {cy ci : ClassId} {h : Nat → Nat} {A0 : Nat → Prop} {o : Int32 × MS} (X : CallFix p m c cX12_nodes 1 s args wsX12_nodes RX12) (hret : mRi p l e ({ frames := 0, cells := 0, slots := 0, locals := 0 } : Room) s m args below meth c Q cX12_nodes D cy ci h A0 .int o) {I : Nat → Int32} {A : Nat → Nat → Int32} {H : Heap} {locs : List Loc} {ls : Array Slot} (hf : f_nodes_0  I A = some o) (hM : mH D cy ci h A0 s H locs I A) (hl : lv_has ls 1 [(0, .ref (h 0))]) : W p l e ({ frames := 0, cells := 0, slots := 0, locals := 0 } : Room) s m args below meth c H locs 0 0 Q (F0 m 0 ls []) := by
  obtain ⟨hx, hb, hml, hown, hts⟩ := id X
  unfold f_nodes_0 at hf
  refine lv_aload_n hx hb dX12_nodes_0 rfl (lv_at hl 0 rfl) ?_
  refine lv_iconst (v := (0 : Int32)) hx hb dX12_nodes_1 (by decide) ?_
  refine m_put X hw_nodes hM 0 (by decide) fl_nodes_0 mi_0 rfl (tyX12_ok 0 (by decide)) dX12_nodes_2 (fun H locs hM => ?_)
  obtain ⟨I1, ev, hf⟩ := m_bndE hf
  replace hM := m_hI hM ev
  clear ev
  refine lv_aload_n hx hb dX12_nodes_5 rfl (lv_at hl 0 rfl) ?_
  refine m_get (v := .ref (h 7)) X hw_nodes hM 7 (by decide) fl_nodes_7 rfl dX12_nodes_6 ?_
  refine lv_aload_n hx hb dX12_nodes_9 rfl (lv_at hl 0 rfl) ?_
  refine m_get (v := .int (I1 5)) X hw_nodes hM 5 (by decide) fl_nodes_5 rfl dX12_nodes_10 ?_
  obtain ⟨cd, hf⟩ := m_chkE hf
  refine m_iald X hM 7 3 2 rfl cd dX12_nodes_13 ?_
  clear cd
  obtain ⟨v2, ev, hf⟩ := m_bndE hf
  refine m_top ev ?_
  clear ev
  cases hf
  exact hret H locs _ ls hM rfl dX12_nodes_14
def f_nodes (I : Nat → Int32) (A : Nat → Nat → Int32) : Option (Int32 × MS) := f_nodes_0  I A
theorem c_nodes {l : Launch} {D : va_G} {cy ci : ClassId} {h : Nat → Nat} {I : Nat → Int32} {A : Nat → Nat → Int32} {o : Int32 × MS} (hf : f_nodes  I A = some o) : mMi l yX12_nodes wsX12_nodes ({ frames := 0, cells := 0, slots := 0, locals := 0 } : Room) [.ref (h 0)] D cy ci h I A o :=
  m_entryI (cc := cX12_nodes) (maxL := 1) (by decide) rfl rfl (Nat.le_of_ble_eq_true rfl) (fun p e s m args below meth c A0 Q H locs ls X hret hM hl => w_nodes_0 X hret hf hM (lv_sub hl [0] rfl))
theorem hd_nodes : yX12_nodes.cls = RX12 ∧ yX12_nodes.cls ≠ "java/lang/invoke/MethodHandle" ∧ yX12_nodes.cls ≠ "java/lang/invoke/VarHandle" ∧ (parseMethodDescriptor yX12_nodes.desc).map (fun d => d.parameters.length) = some 0 := by decide +kernel
theorem hw_mark : ∀ w ∈ wsX120, w ∈ wsX12_mark := by decide +kernel
theorem fl_mark_0 : Cond.fieldLink RX12 99 "MoveTextsModel" "thrown" "I" ∈ wsX12_mark := by decide +kernel
theorem fl_mark_5 : Cond.fieldLink RX12 347 "MoveTextsModel" "game" "I" ∈ wsX12_mark := by decide +kernel
theorem fl_mark_12 : Cond.fieldLink RX12 33 "MoveTextsModel" "markCount" "[I" ∈ wsX12_mark := by decide +kernel
theorem fl_mark_13 : Cond.fieldLink RX12 36 "MoveTextsModel" "marks" "[I" ∈ wsX12_mark := by decide +kernel
def f_mark_70 (t0 : Int32) (I : Nat → Int32) (A : Nat → Nat → Int32) : Option (Int32 × MS) :=
  some (t0, (I, A))

set_option maxRecDepth 100000 in
set_option maxHeartbeats 4000000 in
theorem w_mark_70 {p : Program} {l : Launch} {e : Env} {s : State} {m : MethodId} {args : Array Value} {below : List Frame} {meth : Method} {c : Code} {Q : State → Prop} {D : va_G} {cy ci : ClassId} {h : Nat → Nat} {A0 : Nat → Prop} {o : Int32 × MS} (X : CallFix p m c cX12_mark 3 s args wsX12_mark RX12) (hret : mRi p l e ({ frames := 1, cells := 0, slots := 0, locals := 21 } : Room) s m args below meth c Q cX12_mark D cy ci h A0 .int o) {t0 : Int32} {I : Nat → Int32} {A : Nat → Nat → Int32} {H : Heap} {locs : List Loc} {ls : Array Slot} (hf : f_mark_70 t0 I A = some o) (hM : mH D cy ci h A0 s H locs I A) (hl : lv_has ls 3 []) : W p l e ({ frames := 1, cells := 0, slots := 0, locals := 21 } : Room) s m args below meth c H locs 0 0 Q (F0 m 70 ls [.int t0]) := by
  obtain ⟨hx, hb, hml, hown, hts⟩ := id X
  unfold f_mark_70 at hf
  cases hf
  exact hret H locs _ ls hM rfl dX12_mark_70
def f_mark_37 (x1 : Int32) (x2 : Int32) (t0 : Int32) (I : Nat → Int32) (A : Nat → Nat → Int32) : Option (Int32 × MS) :=
  m_bnd (upd I 0 t0) (fun I1 =>
  m_if ((I1 0) ≤ 0) (
  m_bnd ((301 : Int32) * (I1 5)) (fun v2 =>
  m_bnd (v2 + x1) (fun v3 =>
  m_bnd ((4 : Int32) * v3) (fun v4 =>
  m_bnd (v4 + x2) (fun v5 =>
  m_chk (¬ (v5 < 0 ∨ 2408 ≤ (v5).toNatClampNeg)) (
  m_bnd (A 13 (v5).toNatClampNeg) (fun v6 =>
  f_mark_70 v6 I1 A))))))
  ) (
  f_mark_70 (0 : Int32) I1 A
  ))

set_option maxRecDepth 100000 in
set_option maxHeartbeats 4000000 in
theorem w_mark_37 {p : Program} {l : Launch} {e : Env} {s : State} {m : MethodId} {args : Array Value} {below : List Frame} {meth : Method} {c : Code} {Q : State → Prop} {D : va_G} {cy ci : ClassId} {h : Nat → Nat} {A0 : Nat → Prop} {o : Int32 × MS} (X : CallFix p m c cX12_mark 3 s args wsX12_mark RX12) (hret : mRi p l e ({ frames := 1, cells := 0, slots := 0, locals := 21 } : Room) s m args below meth c Q cX12_mark D cy ci h A0 .int o) {x1 : Int32} {x2 : Int32} {t0 : Int32} {I : Nat → Int32} {A : Nat → Nat → Int32} {H : Heap} {locs : List Loc} {ls : Array Slot} (hf : f_mark_37 x1 x2 t0 I A = some o) (hM : mH D cy ci h A0 s H locs I A) (hl : lv_has ls 3 [(0, .ref (h 0)), (1, .int x1), (2, .int x2)]) : W p l e ({ frames := 1, cells := 0, slots := 0, locals := 21 } : Room) s m args below meth c H locs 0 0 Q (F0 m 37 ls [.int t0, .ref (h 0)]) := by
  obtain ⟨hx, hb, hml, hown, hts⟩ := id X
  unfold f_mark_37 at hf
  refine m_put X hw_mark hM 0 (by decide) fl_mark_0 mi_0 rfl (tyX12_ok 0 (by decide)) dX12_mark_37 (fun H locs hM => ?_)
  obtain ⟨I1, ev, hf⟩ := m_bndE hf
  replace hM := m_hI hM ev
  clear ev
  refine lv_aload_n hx hb dX12_mark_40 rfl (lv_at hl 0 rfl) ?_
  refine m_get (v := .int (I1 0)) X hw_mark hM 0 (by decide) fl_mark_0 rfl dX12_mark_41 ?_
  refine lv_if_le (tgt := 51) hx hb dX12_mark_44 (by decide) (fun cc1 => ?_) (fun cc1 => ?_)
  · replace hf := m_ifT hf cc1
    refine lv_aload_n hx hb dX12_mark_51 rfl (lv_at hl 0 rfl) ?_
    refine m_get (v := .ref (h 13)) X hw_mark hM 13 (by decide) fl_mark_13 rfl dX12_mark_52 ?_
    refine lv_iconst (v := (4 : Int32)) hx hb dX12_mark_55 (by decide) ?_
    refine lv_sipush (v := (301 : Int32)) hx hb dX12_mark_56 (by decide) ?_
    refine lv_aload_n hx hb dX12_mark_59 rfl (lv_at hl 0 rfl) ?_
    refine m_get (v := .int (I1 5)) X hw_mark hM 5 (by decide) fl_mark_5 rfl dX12_mark_60 ?_
    refine lv_imul hx hb dX12_mark_63 ?_
    obtain ⟨v2, ev, hf⟩ := m_bndE hf
    refine m_top ev ?_
    clear ev
    refine lv_iload_n hx hb dX12_mark_64 rfl (lv_at hl 1 rfl) ?_
    refine lv_iadd hx hb dX12_mark_65 ?_
    obtain ⟨v3, ev, hf⟩ := m_bndE hf
    refine m_top ev ?_
    clear ev
    refine lv_imul hx hb dX12_mark_66 ?_
    obtain ⟨v4, ev, hf⟩ := m_bndE hf
    refine m_top ev ?_
    clear ev
    refine lv_iload_n hx hb dX12_mark_67 rfl (lv_at hl 2 rfl) ?_
    refine lv_iadd hx hb dX12_mark_68 ?_
    obtain ⟨v5, ev, hf⟩ := m_bndE hf
    refine m_top ev ?_
    clear ev
    obtain ⟨cd, hf⟩ := m_chkE hf
    refine m_iald X hM 13 9 2408 rfl cd dX12_mark_69 ?_
    clear cd
    obtain ⟨v6, ev, hf⟩ := m_bndE hf
    refine m_top ev ?_
    clear ev
    exact w_mark_70 X hret hf hM (lv_sub hl [] rfl)
  · replace hf := m_ifF hf cc1
    refine lv_iconst (v := (0 : Int32)) hx hb dX12_mark_47 (by decide) ?_
    refine lv_goto (tgt := 70) hx hb dX12_mark_48 (by decide) ?_
    exact w_mark_70 X hret hf hM (lv_sub hl [] rfl)
def f_mark_32 (x1 : Int32) (x2 : Int32) (I : Nat → Int32) (A : Nat → Nat → Int32) : Option (Int32 × MS) :=
  f_mark_37 x1 x2 (1 : Int32) I A

set_option maxRecDepth 100000 in
set_option maxHeartbeats 4000000 in
theorem w_mark_32 {p : Program} {l : Launch} {e : Env} {s : State} {m : MethodId} {args : Array Value} {below : List Frame} {meth : Method} {c : Code} {Q : State → Prop} {D : va_G} {cy ci : ClassId} {h : Nat → Nat} {A0 : Nat → Prop} {o : Int32 × MS} (X : CallFix p m c cX12_mark 3 s args wsX12_mark RX12) (hret : mRi p l e ({ frames := 1, cells := 0, slots := 0, locals := 21 } : Room) s m args below meth c Q cX12_mark D cy ci h A0 .int o) {x1 : Int32} {x2 : Int32} {I : Nat → Int32} {A : Nat → Nat → Int32} {H : Heap} {locs : List Loc} {ls : Array Slot} (hf : f_mark_32 x1 x2 I A = some o) (hM : mH D cy ci h A0 s H locs I A) (hl : lv_has ls 3 [(0, .ref (h 0)), (1, .int x1), (2, .int x2)]) : W p l e ({ frames := 1, cells := 0, slots := 0, locals := 21 } : Room) s m args below meth c H locs 0 0 Q (F0 m 32 ls [.ref (h 0)]) := by
  obtain ⟨hx, hb, hml, hown, hts⟩ := id X
  unfold f_mark_32 at hf
  refine lv_iconst (v := (1 : Int32)) hx hb dX12_mark_32 (by decide) ?_
  refine lv_goto (tgt := 37) hx hb dX12_mark_33 (by decide) ?_
  exact w_mark_37 X hret hf hM (lv_sub hl [0, 1, 2] rfl)
def f_mark_0 (x1 : Int32) (x2 : Int32) (I : Nat → Int32) (A : Nat → Nat → Int32) : Option (Int32 × MS) :=
  m_cal (f_isNode x1 I A) (fun o1 =>
  m_if (o1.1 = 0) (
  f_mark_32 x1 x2 o1.2.1 o1.2.2
  ) (
  m_if (x2 < 0) (
  f_mark_32 x1 x2 o1.2.1 o1.2.2
  ) (
  m_bnd ((301 : Int32) * (o1.2.1 5)) (fun v2 =>
  m_bnd (v2 + x1) (fun v3 =>
  m_chk (¬ (v3 < 0 ∨ 602 ≤ (v3).toNatClampNeg)) (
  m_bnd (o1.2.2 12 (v3).toNatClampNeg) (fun v4 =>
  m_if (x2 < v4) (
  f_mark_37 x1 x2 (0 : Int32) o1.2.1 o1.2.2
  ) (
  f_mark_32 x1 x2 o1.2.1 o1.2.2
  )))))
  )
  ))

set_option maxRecDepth 100000 in
set_option maxHeartbeats 4000000 in
theorem w_mark_0 {p : Program} {l : Launch} {e : Env} {s : State} {m : MethodId} {args : Array Value} {below : List Frame} {meth : Method} {c : Code} {Q : State → Prop} {D : va_G} {cy ci : ClassId} {h : Nat → Nat} {A0 : Nat → Prop} {o : Int32 × MS} (X : CallFix p m c cX12_mark 3 s args wsX12_mark RX12) (hret : mRi p l e ({ frames := 1, cells := 0, slots := 0, locals := 21 } : Room) s m args below meth c Q cX12_mark D cy ci h A0 .int o) {x1 : Int32} {x2 : Int32} {I : Nat → Int32} {A : Nat → Nat → Int32} {H : Heap} {locs : List Loc} {ls : Array Slot} (hf : f_mark_0 x1 x2 I A = some o) (hM : mH D cy ci h A0 s H locs I A) (hl : lv_has ls 3 [(0, .ref (h 0)), (1, .int x1), (2, .int x2)]) : W p l e ({ frames := 1, cells := 0, slots := 0, locals := 21 } : Room) s m args below meth c H locs 0 0 Q (F0 m 0 ls []) := by
  obtain ⟨hx, hb, hml, hown, hts⟩ := id X
  unfold f_mark_0 at hf
  refine lv_aload_n hx hb dX12_mark_0 rfl (lv_at hl 0 rfl) ?_
  refine lv_aload_n hx hb dX12_mark_1 rfl (lv_at hl 0 rfl) ?_
  refine lv_iload_n hx hb dX12_mark_2 rfl (lv_at hl 1 rfl) ?_
  obtain ⟨o1, ho, hf⟩ := m_calE hf
  refine m_callVi X hM (c_isNode ho) gX12_mark_X12_isNode rfl ⟨rfl, rfl⟩ hd_isNode ⟨Nat.le_of_ble_eq_true rfl, Nat.le_of_ble_eq_true rfl⟩ rfl hl.1 rfl (Nat.le_of_ble_eq_true rfl) dX12_mark_3 (fun H locs hM => ?_)
  clear ho
  refine lv_if_eq (tgt := 32) hx hb dX12_mark_6 (by decide) (fun cc1 => ?_) (fun cc1 => ?_)
  · replace hf := m_ifT hf cc1
    exact w_mark_32 X hret hf hM (lv_sub hl [0, 1, 2] rfl)
  · replace hf := m_ifF hf cc1
    refine lv_iload_n hx hb dX12_mark_9 rfl (lv_at hl 2 rfl) ?_
    refine lv_if_lt (tgt := 32) hx hb dX12_mark_10 (by decide) (fun cc1 => ?_) (fun cc1 => ?_)
    · replace hf := m_ifT hf cc1
      exact w_mark_32 X hret hf hM (lv_sub hl [0, 1, 2] rfl)
    · replace hf := m_ifF hf cc1
      refine lv_iload_n hx hb dX12_mark_13 rfl (lv_at hl 2 rfl) ?_
      refine lv_aload_n hx hb dX12_mark_14 rfl (lv_at hl 0 rfl) ?_
      refine m_get (v := .ref (h 12)) X hw_mark hM 12 (by decide) fl_mark_12 rfl dX12_mark_15 ?_
      refine lv_sipush (v := (301 : Int32)) hx hb dX12_mark_18 (by decide) ?_
      refine lv_aload_n hx hb dX12_mark_21 rfl (lv_at hl 0 rfl) ?_
      refine m_get (v := .int (o1.2.1 5)) X hw_mark hM 5 (by decide) fl_mark_5 rfl dX12_mark_22 ?_
      refine lv_imul hx hb dX12_mark_25 ?_
      obtain ⟨v2, ev, hf⟩ := m_bndE hf
      refine m_top ev ?_
      clear ev
      refine lv_iload_n hx hb dX12_mark_26 rfl (lv_at hl 1 rfl) ?_
      refine lv_iadd hx hb dX12_mark_27 ?_
      obtain ⟨v3, ev, hf⟩ := m_bndE hf
      refine m_top ev ?_
      clear ev
      obtain ⟨cd, hf⟩ := m_chkE hf
      refine m_iald X hM 12 8 602 rfl cd dX12_mark_28 ?_
      clear cd
      obtain ⟨v4, ev, hf⟩ := m_bndE hf
      refine m_top ev ?_
      clear ev
      refine lv_icmp_lt (tgt := 36) hx hb dX12_mark_29 (by decide) (fun cc1 => ?_) (fun cc1 => ?_)
      · replace hf := m_ifT hf cc1
        refine lv_iconst (v := (0 : Int32)) hx hb dX12_mark_36 (by decide) ?_
        exact w_mark_37 X hret hf hM (lv_sub hl [0, 1, 2] rfl)
      · replace hf := m_ifF hf cc1
        exact w_mark_32 X hret hf hM (lv_sub hl [0, 1, 2] rfl)
def f_mark (x1 : Int32) (x2 : Int32) (I : Nat → Int32) (A : Nat → Nat → Int32) : Option (Int32 × MS) := f_mark_0 x1 x2 I A
theorem c_mark {l : Launch} {D : va_G} {cy ci : ClassId} {h : Nat → Nat} {x1 : Int32} {x2 : Int32} {I : Nat → Int32} {A : Nat → Nat → Int32} {o : Int32 × MS} (hf : f_mark x1 x2 I A = some o) : mMi l yX12_mark wsX12_mark ({ frames := 1, cells := 0, slots := 0, locals := 21 } : Room) [.ref (h 0), .int x1, .int x2] D cy ci h I A o :=
  m_entryI (cc := cX12_mark) (maxL := 3) (by decide) rfl rfl (Nat.le_of_ble_eq_true rfl) (fun p e s m args below meth c A0 Q H locs ls X hret hM hl => w_mark_0 X hret hf hM (lv_sub hl [0, 1, 2] rfl))
theorem hd_mark : yX12_mark.cls = RX12 ∧ yX12_mark.cls ≠ "java/lang/invoke/MethodHandle" ∧ yX12_mark.cls ≠ "java/lang/invoke/VarHandle" ∧ (parseMethodDescriptor yX12_mark.desc).map (fun d => d.parameters.length) = some 2 := by decide +kernel
theorem hw_remark : ∀ w ∈ wsX120, w ∈ wsX12_remark := by decide +kernel
theorem fl_remark_0 : Cond.fieldLink RX12 99 "MoveTextsModel" "thrown" "I" ∈ wsX12_remark := by decide +kernel
theorem fl_remark_5 : Cond.fieldLink RX12 347 "MoveTextsModel" "game" "I" ∈ wsX12_remark := by decide +kernel
theorem fl_remark_14 : Cond.fieldLink RX12 39 "MoveTextsModel" "remarkSize" "[I" ∈ wsX12_remark := by decide +kernel
theorem fl_remark_15 : Cond.fieldLink RX12 43 "MoveTextsModel" "remarks" "[C" ∈ wsX12_remark := by decide +kernel
def f_remark_72 (t0 : Int32) (I : Nat → Int32) (A : Nat → Nat → Int32) : Option (Int32 × MS) :=
  some (t0, (I, A))

set_option maxRecDepth 100000 in
set_option maxHeartbeats 4000000 in
theorem w_remark_72 {p : Program} {l : Launch} {e : Env} {s : State} {m : MethodId} {args : Array Value} {below : List Frame} {meth : Method} {c : Code} {Q : State → Prop} {D : va_G} {cy ci : ClassId} {h : Nat → Nat} {A0 : Nat → Prop} {o : Int32 × MS} (X : CallFix p m c cX12_remark 3 s args wsX12_remark RX12) (hret : mRi p l e ({ frames := 1, cells := 0, slots := 0, locals := 21 } : Room) s m args below meth c Q cX12_remark D cy ci h A0 .int o) {t0 : Int32} {I : Nat → Int32} {A : Nat → Nat → Int32} {H : Heap} {locs : List Loc} {ls : Array Slot} (hf : f_remark_72 t0 I A = some o) (hM : mH D cy ci h A0 s H locs I A) (hl : lv_has ls 3 []) : W p l e ({ frames := 1, cells := 0, slots := 0, locals := 21 } : Room) s m args below meth c H locs 0 0 Q (F0 m 72 ls [.int t0]) := by
  obtain ⟨hx, hb, hml, hown, hts⟩ := id X
  unfold f_remark_72 at hf
  cases hf
  exact hret H locs _ ls hM rfl dX12_remark_72
def f_remark_37 (x1 : Int32) (x2 : Int32) (t0 : Int32) (I : Nat → Int32) (A : Nat → Nat → Int32) : Option (Int32 × MS) :=
  m_bnd (upd I 0 t0) (fun I1 =>
  m_if ((I1 0) ≤ 0) (
  m_bnd ((301 : Int32) * (I1 5)) (fun v2 =>
  m_bnd (v2 + x1) (fun v3 =>
  m_bnd ((200 : Int32) * v3) (fun v4 =>
  m_bnd (v4 + x2) (fun v5 =>
  m_chk (¬ (v5 < 0 ∨ 120400 ≤ (v5).toNatClampNeg)) (
  m_bnd (A 15 (v5).toNatClampNeg) (fun v6 =>
  f_remark_72 v6 I1 A))))))
  ) (
  f_remark_72 (0 : Int32) I1 A
  ))

set_option maxRecDepth 100000 in
set_option maxHeartbeats 4000000 in
theorem w_remark_37 {p : Program} {l : Launch} {e : Env} {s : State} {m : MethodId} {args : Array Value} {below : List Frame} {meth : Method} {c : Code} {Q : State → Prop} {D : va_G} {cy ci : ClassId} {h : Nat → Nat} {A0 : Nat → Prop} {o : Int32 × MS} (X : CallFix p m c cX12_remark 3 s args wsX12_remark RX12) (hret : mRi p l e ({ frames := 1, cells := 0, slots := 0, locals := 21 } : Room) s m args below meth c Q cX12_remark D cy ci h A0 .int o) {x1 : Int32} {x2 : Int32} {t0 : Int32} {I : Nat → Int32} {A : Nat → Nat → Int32} {H : Heap} {locs : List Loc} {ls : Array Slot} (hf : f_remark_37 x1 x2 t0 I A = some o) (hM : mH D cy ci h A0 s H locs I A) (hl : lv_has ls 3 [(0, .ref (h 0)), (1, .int x1), (2, .int x2)]) : W p l e ({ frames := 1, cells := 0, slots := 0, locals := 21 } : Room) s m args below meth c H locs 0 0 Q (F0 m 37 ls [.int t0, .ref (h 0)]) := by
  obtain ⟨hx, hb, hml, hown, hts⟩ := id X
  unfold f_remark_37 at hf
  refine m_put X hw_remark hM 0 (by decide) fl_remark_0 mi_0 rfl (tyX12_ok 0 (by decide)) dX12_remark_37 (fun H locs hM => ?_)
  obtain ⟨I1, ev, hf⟩ := m_bndE hf
  replace hM := m_hI hM ev
  clear ev
  refine lv_aload_n hx hb dX12_remark_40 rfl (lv_at hl 0 rfl) ?_
  refine m_get (v := .int (I1 0)) X hw_remark hM 0 (by decide) fl_remark_0 rfl dX12_remark_41 ?_
  refine lv_if_le (tgt := 51) hx hb dX12_remark_44 (by decide) (fun cc1 => ?_) (fun cc1 => ?_)
  · replace hf := m_ifT hf cc1
    refine lv_aload_n hx hb dX12_remark_51 rfl (lv_at hl 0 rfl) ?_
    refine m_get (v := .ref (h 15)) X hw_remark hM 15 (by decide) fl_remark_15 rfl dX12_remark_52 ?_
    refine lv_sipush (v := (200 : Int32)) hx hb dX12_remark_55 (by decide) ?_
    refine lv_sipush (v := (301 : Int32)) hx hb dX12_remark_58 (by decide) ?_
    refine lv_aload_n hx hb dX12_remark_61 rfl (lv_at hl 0 rfl) ?_
    refine m_get (v := .int (I1 5)) X hw_remark hM 5 (by decide) fl_remark_5 rfl dX12_remark_62 ?_
    refine lv_imul hx hb dX12_remark_65 ?_
    obtain ⟨v2, ev, hf⟩ := m_bndE hf
    refine m_top ev ?_
    clear ev
    refine lv_iload_n hx hb dX12_remark_66 rfl (lv_at hl 1 rfl) ?_
    refine lv_iadd hx hb dX12_remark_67 ?_
    obtain ⟨v3, ev, hf⟩ := m_bndE hf
    refine m_top ev ?_
    clear ev
    refine lv_imul hx hb dX12_remark_68 ?_
    obtain ⟨v4, ev, hf⟩ := m_bndE hf
    refine m_top ev ?_
    clear ev
    refine lv_iload_n hx hb dX12_remark_69 rfl (lv_at hl 2 rfl) ?_
    refine lv_iadd hx hb dX12_remark_70 ?_
    obtain ⟨v5, ev, hf⟩ := m_bndE hf
    refine m_top ev ?_
    clear ev
    obtain ⟨cd, hf⟩ := m_chkE hf
    refine m_cald X hM 15 11 120400 rfl cd dX12_remark_71 ?_
    clear cd
    obtain ⟨v6, ev, hf⟩ := m_bndE hf
    refine m_top ev ?_
    clear ev
    exact w_remark_72 X hret hf hM (lv_sub hl [] rfl)
  · replace hf := m_ifF hf cc1
    refine lv_iconst (v := (0 : Int32)) hx hb dX12_remark_47 (by decide) ?_
    refine lv_goto (tgt := 72) hx hb dX12_remark_48 (by decide) ?_
    exact w_remark_72 X hret hf hM (lv_sub hl [] rfl)
def f_remark_32 (x1 : Int32) (x2 : Int32) (I : Nat → Int32) (A : Nat → Nat → Int32) : Option (Int32 × MS) :=
  f_remark_37 x1 x2 (1 : Int32) I A

set_option maxRecDepth 100000 in
set_option maxHeartbeats 4000000 in
theorem w_remark_32 {p : Program} {l : Launch} {e : Env} {s : State} {m : MethodId} {args : Array Value} {below : List Frame} {meth : Method} {c : Code} {Q : State → Prop} {D : va_G} {cy ci : ClassId} {h : Nat → Nat} {A0 : Nat → Prop} {o : Int32 × MS} (X : CallFix p m c cX12_remark 3 s args wsX12_remark RX12) (hret : mRi p l e ({ frames := 1, cells := 0, slots := 0, locals := 21 } : Room) s m args below meth c Q cX12_remark D cy ci h A0 .int o) {x1 : Int32} {x2 : Int32} {I : Nat → Int32} {A : Nat → Nat → Int32} {H : Heap} {locs : List Loc} {ls : Array Slot} (hf : f_remark_32 x1 x2 I A = some o) (hM : mH D cy ci h A0 s H locs I A) (hl : lv_has ls 3 [(0, .ref (h 0)), (1, .int x1), (2, .int x2)]) : W p l e ({ frames := 1, cells := 0, slots := 0, locals := 21 } : Room) s m args below meth c H locs 0 0 Q (F0 m 32 ls [.ref (h 0)]) := by
  obtain ⟨hx, hb, hml, hown, hts⟩ := id X
  unfold f_remark_32 at hf
  refine lv_iconst (v := (1 : Int32)) hx hb dX12_remark_32 (by decide) ?_
  refine lv_goto (tgt := 37) hx hb dX12_remark_33 (by decide) ?_
  exact w_remark_37 X hret hf hM (lv_sub hl [0, 1, 2] rfl)
def f_remark_0 (x1 : Int32) (x2 : Int32) (I : Nat → Int32) (A : Nat → Nat → Int32) : Option (Int32 × MS) :=
  m_cal (f_isNode x1 I A) (fun o1 =>
  m_if (o1.1 = 0) (
  f_remark_32 x1 x2 o1.2.1 o1.2.2
  ) (
  m_if (x2 < 0) (
  f_remark_32 x1 x2 o1.2.1 o1.2.2
  ) (
  m_bnd ((301 : Int32) * (o1.2.1 5)) (fun v2 =>
  m_bnd (v2 + x1) (fun v3 =>
  m_chk (¬ (v3 < 0 ∨ 602 ≤ (v3).toNatClampNeg)) (
  m_bnd (o1.2.2 14 (v3).toNatClampNeg) (fun v4 =>
  m_if (x2 < v4) (
  f_remark_37 x1 x2 (0 : Int32) o1.2.1 o1.2.2
  ) (
  f_remark_32 x1 x2 o1.2.1 o1.2.2
  )))))
  )
  ))

set_option maxRecDepth 100000 in
set_option maxHeartbeats 4000000 in
theorem w_remark_0 {p : Program} {l : Launch} {e : Env} {s : State} {m : MethodId} {args : Array Value} {below : List Frame} {meth : Method} {c : Code} {Q : State → Prop} {D : va_G} {cy ci : ClassId} {h : Nat → Nat} {A0 : Nat → Prop} {o : Int32 × MS} (X : CallFix p m c cX12_remark 3 s args wsX12_remark RX12) (hret : mRi p l e ({ frames := 1, cells := 0, slots := 0, locals := 21 } : Room) s m args below meth c Q cX12_remark D cy ci h A0 .int o) {x1 : Int32} {x2 : Int32} {I : Nat → Int32} {A : Nat → Nat → Int32} {H : Heap} {locs : List Loc} {ls : Array Slot} (hf : f_remark_0 x1 x2 I A = some o) (hM : mH D cy ci h A0 s H locs I A) (hl : lv_has ls 3 [(0, .ref (h 0)), (1, .int x1), (2, .int x2)]) : W p l e ({ frames := 1, cells := 0, slots := 0, locals := 21 } : Room) s m args below meth c H locs 0 0 Q (F0 m 0 ls []) := by
  obtain ⟨hx, hb, hml, hown, hts⟩ := id X
  unfold f_remark_0 at hf
  refine lv_aload_n hx hb dX12_remark_0 rfl (lv_at hl 0 rfl) ?_
  refine lv_aload_n hx hb dX12_remark_1 rfl (lv_at hl 0 rfl) ?_
  refine lv_iload_n hx hb dX12_remark_2 rfl (lv_at hl 1 rfl) ?_
  obtain ⟨o1, ho, hf⟩ := m_calE hf
  refine m_callVi X hM (c_isNode ho) gX12_remark_X12_isNode rfl ⟨rfl, rfl⟩ hd_isNode ⟨Nat.le_of_ble_eq_true rfl, Nat.le_of_ble_eq_true rfl⟩ rfl hl.1 rfl (Nat.le_of_ble_eq_true rfl) dX12_remark_3 (fun H locs hM => ?_)
  clear ho
  refine lv_if_eq (tgt := 32) hx hb dX12_remark_6 (by decide) (fun cc1 => ?_) (fun cc1 => ?_)
  · replace hf := m_ifT hf cc1
    exact w_remark_32 X hret hf hM (lv_sub hl [0, 1, 2] rfl)
  · replace hf := m_ifF hf cc1
    refine lv_iload_n hx hb dX12_remark_9 rfl (lv_at hl 2 rfl) ?_
    refine lv_if_lt (tgt := 32) hx hb dX12_remark_10 (by decide) (fun cc1 => ?_) (fun cc1 => ?_)
    · replace hf := m_ifT hf cc1
      exact w_remark_32 X hret hf hM (lv_sub hl [0, 1, 2] rfl)
    · replace hf := m_ifF hf cc1
      refine lv_iload_n hx hb dX12_remark_13 rfl (lv_at hl 2 rfl) ?_
      refine lv_aload_n hx hb dX12_remark_14 rfl (lv_at hl 0 rfl) ?_
      refine m_get (v := .ref (h 14)) X hw_remark hM 14 (by decide) fl_remark_14 rfl dX12_remark_15 ?_
      refine lv_sipush (v := (301 : Int32)) hx hb dX12_remark_18 (by decide) ?_
      refine lv_aload_n hx hb dX12_remark_21 rfl (lv_at hl 0 rfl) ?_
      refine m_get (v := .int (o1.2.1 5)) X hw_remark hM 5 (by decide) fl_remark_5 rfl dX12_remark_22 ?_
      refine lv_imul hx hb dX12_remark_25 ?_
      obtain ⟨v2, ev, hf⟩ := m_bndE hf
      refine m_top ev ?_
      clear ev
      refine lv_iload_n hx hb dX12_remark_26 rfl (lv_at hl 1 rfl) ?_
      refine lv_iadd hx hb dX12_remark_27 ?_
      obtain ⟨v3, ev, hf⟩ := m_bndE hf
      refine m_top ev ?_
      clear ev
      obtain ⟨cd, hf⟩ := m_chkE hf
      refine m_iald X hM 14 10 602 rfl cd dX12_remark_28 ?_
      clear cd
      obtain ⟨v4, ev, hf⟩ := m_bndE hf
      refine m_top ev ?_
      clear ev
      refine lv_icmp_lt (tgt := 36) hx hb dX12_remark_29 (by decide) (fun cc1 => ?_) (fun cc1 => ?_)
      · replace hf := m_ifT hf cc1
        refine lv_iconst (v := (0 : Int32)) hx hb dX12_remark_36 (by decide) ?_
        exact w_remark_37 X hret hf hM (lv_sub hl [0, 1, 2] rfl)
      · replace hf := m_ifF hf cc1
        exact w_remark_32 X hret hf hM (lv_sub hl [0, 1, 2] rfl)
def f_remark (x1 : Int32) (x2 : Int32) (I : Nat → Int32) (A : Nat → Nat → Int32) : Option (Int32 × MS) := f_remark_0 x1 x2 I A
theorem c_remark {l : Launch} {D : va_G} {cy ci : ClassId} {h : Nat → Nat} {x1 : Int32} {x2 : Int32} {I : Nat → Int32} {A : Nat → Nat → Int32} {o : Int32 × MS} (hf : f_remark x1 x2 I A = some o) : mMi l yX12_remark wsX12_remark ({ frames := 1, cells := 0, slots := 0, locals := 21 } : Room) [.ref (h 0), .int x1, .int x2] D cy ci h I A o :=
  m_entryI (cc := cX12_remark) (maxL := 3) (by decide) rfl rfl (Nat.le_of_ble_eq_true rfl) (fun p e s m args below meth c A0 Q H locs ls X hret hM hl => w_remark_0 X hret hf hM (lv_sub hl [0, 1, 2] rfl))
theorem hd_remark : yX12_remark.cls = RX12 ∧ yX12_remark.cls ≠ "java/lang/invoke/MethodHandle" ∧ yX12_remark.cls ≠ "java/lang/invoke/VarHandle" ∧ (parseMethodDescriptor yX12_remark.desc).map (fun d => d.parameters.length) = some 2 := by decide +kernel
theorem hw_here : ∀ w ∈ wsX120, w ∈ wsX12_here := by decide +kernel
theorem fl_here_0 : Cond.fieldLink RX12 99 "MoveTextsModel" "thrown" "I" ∈ wsX12_here := by decide +kernel
theorem fl_here_6 : Cond.fieldLink RX12 353 "MoveTextsModel" "here" "I" ∈ wsX12_here := by decide +kernel
def f_here_0 (I : Nat → Int32) (A : Nat → Nat → Int32) : Option (Int32 × MS) :=
  m_bnd (upd I 0 (0 : Int32)) (fun I1 =>
  some ((I1 6), (I1, A)))

set_option maxRecDepth 100000 in
set_option maxHeartbeats 4000000 in
theorem w_here_0 {p : Program} {l : Launch} {e : Env} {s : State} {m : MethodId} {args : Array Value} {below : List Frame} {meth : Method} {c : Code} {Q : State → Prop} {D : va_G} {cy ci : ClassId} {h : Nat → Nat} {A0 : Nat → Prop} {o : Int32 × MS} (X : CallFix p m c cX12_here 1 s args wsX12_here RX12) (hret : mRi p l e ({ frames := 0, cells := 0, slots := 0, locals := 0 } : Room) s m args below meth c Q cX12_here D cy ci h A0 .int o) {I : Nat → Int32} {A : Nat → Nat → Int32} {H : Heap} {locs : List Loc} {ls : Array Slot} (hf : f_here_0  I A = some o) (hM : mH D cy ci h A0 s H locs I A) (hl : lv_has ls 1 [(0, .ref (h 0))]) : W p l e ({ frames := 0, cells := 0, slots := 0, locals := 0 } : Room) s m args below meth c H locs 0 0 Q (F0 m 0 ls []) := by
  obtain ⟨hx, hb, hml, hown, hts⟩ := id X
  unfold f_here_0 at hf
  refine lv_aload_n hx hb dX12_here_0 rfl (lv_at hl 0 rfl) ?_
  refine lv_iconst (v := (0 : Int32)) hx hb dX12_here_1 (by decide) ?_
  refine m_put X hw_here hM 0 (by decide) fl_here_0 mi_0 rfl (tyX12_ok 0 (by decide)) dX12_here_2 (fun H locs hM => ?_)
  obtain ⟨I1, ev, hf⟩ := m_bndE hf
  replace hM := m_hI hM ev
  clear ev
  refine lv_aload_n hx hb dX12_here_5 rfl (lv_at hl 0 rfl) ?_
  refine m_get (v := .int (I1 6)) X hw_here hM 6 (by decide) fl_here_6 rfl dX12_here_6 ?_
  cases hf
  exact hret H locs _ ls hM rfl dX12_here_9
def f_here (I : Nat → Int32) (A : Nat → Nat → Int32) : Option (Int32 × MS) := f_here_0  I A
theorem c_here {l : Launch} {D : va_G} {cy ci : ClassId} {h : Nat → Nat} {I : Nat → Int32} {A : Nat → Nat → Int32} {o : Int32 × MS} (hf : f_here  I A = some o) : mMi l yX12_here wsX12_here ({ frames := 0, cells := 0, slots := 0, locals := 0 } : Room) [.ref (h 0)] D cy ci h I A o :=
  m_entryI (cc := cX12_here) (maxL := 1) (by decide) rfl rfl (Nat.le_of_ble_eq_true rfl) (fun p e s m args below meth c A0 Q H locs ls X hret hM hl => w_here_0 X hret hf hM (lv_sub hl [0] rfl))
theorem hd_here : yX12_here.cls = RX12 ∧ yX12_here.cls ≠ "java/lang/invoke/MethodHandle" ∧ yX12_here.cls ≠ "java/lang/invoke/VarHandle" ∧ (parseMethodDescriptor yX12_here.desc).map (fun d => d.parameters.length) = some 0 := by decide +kernel
theorem hw_go : ∀ w ∈ wsX120, w ∈ wsX12_go := by decide +kernel
theorem fl_go_0 : Cond.fieldLink RX12 99 "MoveTextsModel" "thrown" "I" ∈ wsX12_go := by decide +kernel
theorem fl_go_5 : Cond.fieldLink RX12 347 "MoveTextsModel" "game" "I" ∈ wsX12_go := by decide +kernel
theorem fl_go_6 : Cond.fieldLink RX12 353 "MoveTextsModel" "here" "I" ∈ wsX12_go := by decide +kernel
def f_go_41 (I : Nat → Int32) (A : Nat → Nat → Int32) : Option (Int32 × MS) :=
  some (0, (I, A))

set_option maxRecDepth 100000 in
set_option maxHeartbeats 4000000 in
theorem w_go_41 {p : Program} {l : Launch} {e : Env} {s : State} {m : MethodId} {args : Array Value} {below : List Frame} {meth : Method} {c : Code} {Q : State → Prop} {D : va_G} {cy ci : ClassId} {h : Nat → Nat} {A0 : Nat → Prop} {o : Int32 × MS} (X : CallFix p m c cX12_go 2 s args wsX12_go RX12) (hret : mRv p l e ({ frames := 7, cells := 0, slots := 0, locals := 181 } : Room) s m args below meth c Q cX12_go D cy ci h A0 o) {I : Nat → Int32} {A : Nat → Nat → Int32} {H : Heap} {locs : List Loc} {ls : Array Slot} (hf : f_go_41  I A = some o) (hM : mH D cy ci h A0 s H locs I A) (hl : lv_has ls 2 []) : W p l e ({ frames := 7, cells := 0, slots := 0, locals := 181 } : Room) s m args below meth c H locs 0 0 Q (F0 m 41 ls []) := by
  obtain ⟨hx, hb, hml, hown, hts⟩ := id X
  unfold f_go_41 at hf
  cases hf
  exact hret H locs _ ls hM dX12_go_41
def f_go_14 (x1 : Int32) (t0 : Int32) (I : Nat → Int32) (A : Nat → Nat → Int32) : Option (Int32 × MS) :=
  m_bnd (upd I 0 t0) (fun I1 =>
  m_if ((I1 0) = 0) (
  m_bnd (upd I1 6 x1) (fun I2 =>
  m_cal (f_place (I2 5) (I2 6) I2 A) (fun o3 =>
  f_go_41  o3.2.1 o3.2.2))
  ) (
  f_go_41  I1 A
  ))

set_option maxRecDepth 100000 in
set_option maxHeartbeats 4000000 in
theorem w_go_14 {p : Program} {l : Launch} {e : Env} {s : State} {m : MethodId} {args : Array Value} {below : List Frame} {meth : Method} {c : Code} {Q : State → Prop} {D : va_G} {cy ci : ClassId} {h : Nat → Nat} {A0 : Nat → Prop} {o : Int32 × MS} (X : CallFix p m c cX12_go 2 s args wsX12_go RX12) (hret : mRv p l e ({ frames := 7, cells := 0, slots := 0, locals := 181 } : Room) s m args below meth c Q cX12_go D cy ci h A0 o) {x1 : Int32} {t0 : Int32} {I : Nat → Int32} {A : Nat → Nat → Int32} {H : Heap} {locs : List Loc} {ls : Array Slot} (hf : f_go_14 x1 t0 I A = some o) (hM : mH D cy ci h A0 s H locs I A) (hl : lv_has ls 2 [(0, .ref (h 0)), (1, .int x1)]) : W p l e ({ frames := 7, cells := 0, slots := 0, locals := 181 } : Room) s m args below meth c H locs 0 0 Q (F0 m 14 ls [.int t0, .ref (h 0)]) := by
  obtain ⟨hx, hb, hml, hown, hts⟩ := id X
  unfold f_go_14 at hf
  refine m_put X hw_go hM 0 (by decide) fl_go_0 mi_0 rfl (tyX12_ok 0 (by decide)) dX12_go_14 (fun H locs hM => ?_)
  obtain ⟨I1, ev, hf⟩ := m_bndE hf
  replace hM := m_hI hM ev
  clear ev
  refine lv_aload_n hx hb dX12_go_17 rfl (lv_at hl 0 rfl) ?_
  refine m_get (v := .int (I1 0)) X hw_go hM 0 (by decide) fl_go_0 rfl dX12_go_18 ?_
  refine lv_if_ne (tgt := 41) hx hb dX12_go_21 (by decide) (fun cc1 => ?_) (fun cc1 => ?_)
  · replace hf := m_ifF hf cc1
    exact w_go_41 X hret hf hM (lv_sub hl [] rfl)
  · replace hf := m_ifT hf cc1
    refine lv_aload_n hx hb dX12_go_24 rfl (lv_at hl 0 rfl) ?_
    refine lv_iload_n hx hb dX12_go_25 rfl (lv_at hl 1 rfl) ?_
    refine m_put X hw_go hM 6 (by decide) fl_go_6 mi_6 rfl (tyX12_ok 6 (by decide)) dX12_go_26 (fun H locs hM => ?_)
    obtain ⟨I2, ev, hf⟩ := m_bndE hf
    replace hM := m_hI hM ev
    clear ev
    refine lv_aload_n hx hb dX12_go_29 rfl (lv_at hl 0 rfl) ?_
    refine lv_aload_n hx hb dX12_go_30 rfl (lv_at hl 0 rfl) ?_
    refine m_get (v := .int (I2 5)) X hw_go hM 5 (by decide) fl_go_5 rfl dX12_go_31 ?_
    refine lv_aload_n hx hb dX12_go_34 rfl (lv_at hl 0 rfl) ?_
    refine m_get (v := .int (I2 6)) X hw_go hM 6 (by decide) fl_go_6 rfl dX12_go_35 ?_
    obtain ⟨o3, ho, hf⟩ := m_calE hf
    refine m_callVv X hM (c_place ho) gX12_go_X12_place rfl ⟨rfl, rfl⟩ hd_place ⟨Nat.le_of_ble_eq_true rfl, Nat.le_of_ble_eq_true rfl⟩ rfl hl.1 rfl (Nat.le_of_ble_eq_true rfl) dX12_go_38 (fun H locs hM => ?_)
    clear ho
    exact w_go_41 X hret hf hM (lv_sub hl [] rfl)
def f_go_0 (x1 : Int32) (I : Nat → Int32) (A : Nat → Nat → Int32) : Option (Int32 × MS) :=
  m_cal (f_isNode x1 I A) (fun o1 =>
  m_if (o1.1 = 0) (
  f_go_14 x1 (1 : Int32) o1.2.1 o1.2.2
  ) (
  f_go_14 x1 (0 : Int32) o1.2.1 o1.2.2
  ))

set_option maxRecDepth 100000 in
set_option maxHeartbeats 4000000 in
theorem w_go_0 {p : Program} {l : Launch} {e : Env} {s : State} {m : MethodId} {args : Array Value} {below : List Frame} {meth : Method} {c : Code} {Q : State → Prop} {D : va_G} {cy ci : ClassId} {h : Nat → Nat} {A0 : Nat → Prop} {o : Int32 × MS} (X : CallFix p m c cX12_go 2 s args wsX12_go RX12) (hret : mRv p l e ({ frames := 7, cells := 0, slots := 0, locals := 181 } : Room) s m args below meth c Q cX12_go D cy ci h A0 o) {x1 : Int32} {I : Nat → Int32} {A : Nat → Nat → Int32} {H : Heap} {locs : List Loc} {ls : Array Slot} (hf : f_go_0 x1 I A = some o) (hM : mH D cy ci h A0 s H locs I A) (hl : lv_has ls 2 [(0, .ref (h 0)), (1, .int x1)]) : W p l e ({ frames := 7, cells := 0, slots := 0, locals := 181 } : Room) s m args below meth c H locs 0 0 Q (F0 m 0 ls []) := by
  obtain ⟨hx, hb, hml, hown, hts⟩ := id X
  unfold f_go_0 at hf
  refine lv_aload_n hx hb dX12_go_0 rfl (lv_at hl 0 rfl) ?_
  refine lv_aload_n hx hb dX12_go_1 rfl (lv_at hl 0 rfl) ?_
  refine lv_iload_n hx hb dX12_go_2 rfl (lv_at hl 1 rfl) ?_
  obtain ⟨o1, ho, hf⟩ := m_calE hf
  refine m_callVi X hM (c_isNode ho) gX12_go_X12_isNode rfl ⟨rfl, rfl⟩ hd_isNode ⟨Nat.le_of_ble_eq_true rfl, Nat.le_of_ble_eq_true rfl⟩ rfl hl.1 rfl (Nat.le_of_ble_eq_true rfl) dX12_go_3 (fun H locs hM => ?_)
  clear ho
  refine lv_if_eq (tgt := 13) hx hb dX12_go_6 (by decide) (fun cc1 => ?_) (fun cc1 => ?_)
  · replace hf := m_ifT hf cc1
    refine lv_iconst (v := (1 : Int32)) hx hb dX12_go_13 (by decide) ?_
    exact w_go_14 X hret hf hM (lv_sub hl [0, 1] rfl)
  · replace hf := m_ifF hf cc1
    refine lv_iconst (v := (0 : Int32)) hx hb dX12_go_9 (by decide) ?_
    refine lv_goto (tgt := 14) hx hb dX12_go_10 (by decide) ?_
    exact w_go_14 X hret hf hM (lv_sub hl [0, 1] rfl)
def f_go (x1 : Int32) (I : Nat → Int32) (A : Nat → Nat → Int32) : Option (Int32 × MS) := f_go_0 x1 I A
theorem c_go {l : Launch} {D : va_G} {cy ci : ClassId} {h : Nat → Nat} {x1 : Int32} {I : Nat → Int32} {A : Nat → Nat → Int32} {o : Int32 × MS} (hf : f_go x1 I A = some o) : mMv l yX12_go wsX12_go ({ frames := 7, cells := 0, slots := 0, locals := 181 } : Room) [.ref (h 0), .int x1] D cy ci h I A o :=
  m_entryV (cc := cX12_go) (maxL := 2) (by decide) rfl rfl (Nat.le_of_ble_eq_true rfl) (fun p e s m args below meth c A0 Q H locs ls X hret hM hl => w_go_0 X hret hf hM (lv_sub hl [0, 1] rfl))
theorem hd_go : yX12_go.cls = RX12 ∧ yX12_go.cls ≠ "java/lang/invoke/MethodHandle" ∧ yX12_go.cls ≠ "java/lang/invoke/VarHandle" ∧ (parseMethodDescriptor yX12_go.desc).map (fun d => d.parameters.length) = some 1 := by decide +kernel
theorem hw_man : ∀ w ∈ wsX120, w ∈ wsX12_man := by decide +kernel
theorem fl_man_0 : Cond.fieldLink RX12 99 "MoveTextsModel" "thrown" "I" ∈ wsX12_man := by decide +kernel
theorem fl_man_24 : Cond.fieldLink RX12 70 "MoveTextsModel" "men" "[I" ∈ wsX12_man := by decide +kernel
def f_man_36 (t0 : Int32) (I : Nat → Int32) (A : Nat → Nat → Int32) : Option (Int32 × MS) :=
  some (t0, (I, A))

set_option maxRecDepth 100000 in
set_option maxHeartbeats 4000000 in
theorem w_man_36 {p : Program} {l : Launch} {e : Env} {s : State} {m : MethodId} {args : Array Value} {below : List Frame} {meth : Method} {c : Code} {Q : State → Prop} {D : va_G} {cy ci : ClassId} {h : Nat → Nat} {A0 : Nat → Prop} {o : Int32 × MS} (X : CallFix p m c cX12_man 2 s args wsX12_man RX12) (hret : mRi p l e ({ frames := 0, cells := 0, slots := 0, locals := 0 } : Room) s m args below meth c Q cX12_man D cy ci h A0 .int o) {t0 : Int32} {I : Nat → Int32} {A : Nat → Nat → Int32} {H : Heap} {locs : List Loc} {ls : Array Slot} (hf : f_man_36 t0 I A = some o) (hM : mH D cy ci h A0 s H locs I A) (hl : lv_has ls 2 []) : W p l e ({ frames := 0, cells := 0, slots := 0, locals := 0 } : Room) s m args below meth c H locs 0 0 Q (F0 m 36 ls [.int t0]) := by
  obtain ⟨hx, hb, hml, hown, hts⟩ := id X
  unfold f_man_36 at hf
  cases hf
  exact hret H locs _ ls hM rfl dX12_man_36
def f_man_16 (x1 : Int32) (t0 : Int32) (I : Nat → Int32) (A : Nat → Nat → Int32) : Option (Int32 × MS) :=
  m_bnd (upd I 0 t0) (fun I1 =>
  m_if ((I1 0) ≤ 0) (
  m_chk (¬ (x1 < 0 ∨ 64 ≤ (x1).toNatClampNeg)) (
  m_bnd (A 24 (x1).toNatClampNeg) (fun v2 =>
  f_man_36 v2 I1 A))
  ) (
  f_man_36 (0 : Int32) I1 A
  ))

set_option maxRecDepth 100000 in
set_option maxHeartbeats 4000000 in
theorem w_man_16 {p : Program} {l : Launch} {e : Env} {s : State} {m : MethodId} {args : Array Value} {below : List Frame} {meth : Method} {c : Code} {Q : State → Prop} {D : va_G} {cy ci : ClassId} {h : Nat → Nat} {A0 : Nat → Prop} {o : Int32 × MS} (X : CallFix p m c cX12_man 2 s args wsX12_man RX12) (hret : mRi p l e ({ frames := 0, cells := 0, slots := 0, locals := 0 } : Room) s m args below meth c Q cX12_man D cy ci h A0 .int o) {x1 : Int32} {t0 : Int32} {I : Nat → Int32} {A : Nat → Nat → Int32} {H : Heap} {locs : List Loc} {ls : Array Slot} (hf : f_man_16 x1 t0 I A = some o) (hM : mH D cy ci h A0 s H locs I A) (hl : lv_has ls 2 [(0, .ref (h 0)), (1, .int x1)]) : W p l e ({ frames := 0, cells := 0, slots := 0, locals := 0 } : Room) s m args below meth c H locs 0 0 Q (F0 m 16 ls [.int t0, .ref (h 0)]) := by
  obtain ⟨hx, hb, hml, hown, hts⟩ := id X
  unfold f_man_16 at hf
  refine m_put X hw_man hM 0 (by decide) fl_man_0 mi_0 rfl (tyX12_ok 0 (by decide)) dX12_man_16 (fun H locs hM => ?_)
  obtain ⟨I1, ev, hf⟩ := m_bndE hf
  replace hM := m_hI hM ev
  clear ev
  refine lv_aload_n hx hb dX12_man_19 rfl (lv_at hl 0 rfl) ?_
  refine m_get (v := .int (I1 0)) X hw_man hM 0 (by decide) fl_man_0 rfl dX12_man_20 ?_
  refine lv_if_le (tgt := 30) hx hb dX12_man_23 (by decide) (fun cc1 => ?_) (fun cc1 => ?_)
  · replace hf := m_ifT hf cc1
    refine lv_aload_n hx hb dX12_man_30 rfl (lv_at hl 0 rfl) ?_
    refine m_get (v := .ref (h 24)) X hw_man hM 24 (by decide) fl_man_24 rfl dX12_man_31 ?_
    refine lv_iload_n hx hb dX12_man_34 rfl (lv_at hl 1 rfl) ?_
    obtain ⟨cd, hf⟩ := m_chkE hf
    refine m_iald X hM 24 20 64 rfl cd dX12_man_35 ?_
    clear cd
    obtain ⟨v2, ev, hf⟩ := m_bndE hf
    refine m_top ev ?_
    clear ev
    exact w_man_36 X hret hf hM (lv_sub hl [] rfl)
  · replace hf := m_ifF hf cc1
    refine lv_iconst (v := (0 : Int32)) hx hb dX12_man_26 (by decide) ?_
    refine lv_goto (tgt := 36) hx hb dX12_man_27 (by decide) ?_
    exact w_man_36 X hret hf hM (lv_sub hl [] rfl)
def f_man_11 (x1 : Int32) (I : Nat → Int32) (A : Nat → Nat → Int32) : Option (Int32 × MS) :=
  f_man_16 x1 (1 : Int32) I A

set_option maxRecDepth 100000 in
set_option maxHeartbeats 4000000 in
theorem w_man_11 {p : Program} {l : Launch} {e : Env} {s : State} {m : MethodId} {args : Array Value} {below : List Frame} {meth : Method} {c : Code} {Q : State → Prop} {D : va_G} {cy ci : ClassId} {h : Nat → Nat} {A0 : Nat → Prop} {o : Int32 × MS} (X : CallFix p m c cX12_man 2 s args wsX12_man RX12) (hret : mRi p l e ({ frames := 0, cells := 0, slots := 0, locals := 0 } : Room) s m args below meth c Q cX12_man D cy ci h A0 .int o) {x1 : Int32} {I : Nat → Int32} {A : Nat → Nat → Int32} {H : Heap} {locs : List Loc} {ls : Array Slot} (hf : f_man_11 x1 I A = some o) (hM : mH D cy ci h A0 s H locs I A) (hl : lv_has ls 2 [(0, .ref (h 0)), (1, .int x1)]) : W p l e ({ frames := 0, cells := 0, slots := 0, locals := 0 } : Room) s m args below meth c H locs 0 0 Q (F0 m 11 ls [.ref (h 0)]) := by
  obtain ⟨hx, hb, hml, hown, hts⟩ := id X
  unfold f_man_11 at hf
  refine lv_iconst (v := (1 : Int32)) hx hb dX12_man_11 (by decide) ?_
  refine lv_goto (tgt := 16) hx hb dX12_man_12 (by decide) ?_
  exact w_man_16 X hret hf hM (lv_sub hl [0, 1] rfl)
def f_man_0 (x1 : Int32) (I : Nat → Int32) (A : Nat → Nat → Int32) : Option (Int32 × MS) :=
  m_if (x1 < 0) (
  f_man_11 x1 I A
  ) (
  m_if (x1 ≤ (63 : Int32)) (
  f_man_16 x1 (0 : Int32) I A
  ) (
  f_man_11 x1 I A
  )
  )

set_option maxRecDepth 100000 in
set_option maxHeartbeats 4000000 in
theorem w_man_0 {p : Program} {l : Launch} {e : Env} {s : State} {m : MethodId} {args : Array Value} {below : List Frame} {meth : Method} {c : Code} {Q : State → Prop} {D : va_G} {cy ci : ClassId} {h : Nat → Nat} {A0 : Nat → Prop} {o : Int32 × MS} (X : CallFix p m c cX12_man 2 s args wsX12_man RX12) (hret : mRi p l e ({ frames := 0, cells := 0, slots := 0, locals := 0 } : Room) s m args below meth c Q cX12_man D cy ci h A0 .int o) {x1 : Int32} {I : Nat → Int32} {A : Nat → Nat → Int32} {H : Heap} {locs : List Loc} {ls : Array Slot} (hf : f_man_0 x1 I A = some o) (hM : mH D cy ci h A0 s H locs I A) (hl : lv_has ls 2 [(0, .ref (h 0)), (1, .int x1)]) : W p l e ({ frames := 0, cells := 0, slots := 0, locals := 0 } : Room) s m args below meth c H locs 0 0 Q (F0 m 0 ls []) := by
  obtain ⟨hx, hb, hml, hown, hts⟩ := id X
  unfold f_man_0 at hf
  refine lv_aload_n hx hb dX12_man_0 rfl (lv_at hl 0 rfl) ?_
  refine lv_iload_n hx hb dX12_man_1 rfl (lv_at hl 1 rfl) ?_
  refine lv_if_lt (tgt := 11) hx hb dX12_man_2 (by decide) (fun cc1 => ?_) (fun cc1 => ?_)
  · replace hf := m_ifT hf cc1
    exact w_man_11 X hret hf hM (lv_sub hl [0, 1] rfl)
  · replace hf := m_ifF hf cc1
    refine lv_iload_n hx hb dX12_man_5 rfl (lv_at hl 1 rfl) ?_
    refine lv_bipush (v := (63 : Int32)) hx hb dX12_man_6 (by decide) ?_
    refine lv_icmp_le (tgt := 15) hx hb dX12_man_8 (by decide) (fun cc1 => ?_) (fun cc1 => ?_)
    · replace hf := m_ifT hf cc1
      refine lv_iconst (v := (0 : Int32)) hx hb dX12_man_15 (by decide) ?_
      exact w_man_16 X hret hf hM (lv_sub hl [0, 1] rfl)
    · replace hf := m_ifF hf cc1
      exact w_man_11 X hret hf hM (lv_sub hl [0, 1] rfl)
def f_man (x1 : Int32) (I : Nat → Int32) (A : Nat → Nat → Int32) : Option (Int32 × MS) := f_man_0 x1 I A
theorem c_man {l : Launch} {D : va_G} {cy ci : ClassId} {h : Nat → Nat} {x1 : Int32} {I : Nat → Int32} {A : Nat → Nat → Int32} {o : Int32 × MS} (hf : f_man x1 I A = some o) : mMi l yX12_man wsX12_man ({ frames := 0, cells := 0, slots := 0, locals := 0 } : Room) [.ref (h 0), .int x1] D cy ci h I A o :=
  m_entryI (cc := cX12_man) (maxL := 2) (by decide) rfl rfl (Nat.le_of_ble_eq_true rfl) (fun p e s m args below meth c A0 Q H locs ls X hret hM hl => w_man_0 X hret hf hM (lv_sub hl [0, 1] rfl))
theorem hd_man : yX12_man.cls = RX12 ∧ yX12_man.cls ≠ "java/lang/invoke/MethodHandle" ∧ yX12_man.cls ≠ "java/lang/invoke/VarHandle" ∧ (parseMethodDescriptor yX12_man.desc).map (fun d => d.parameters.length) = some 1 := by decide +kernel
theorem hw_move : ∀ w ∈ wsX120, w ∈ wsX12_move := by decide +kernel
theorem fl_move_0 : Cond.fieldLink RX12 99 "MoveTextsModel" "thrown" "I" ∈ wsX12_move := by decide +kernel
theorem fl_move_32 : Cond.fieldLink RX12 79 "MoveTextsModel" "list" "[I" ∈ wsX12_move := by decide +kernel
theorem fl_move_33 : Cond.fieldLink RX12 170 "MoveTextsModel" "moves" "I" ∈ wsX12_move := by decide +kernel
def f_move_27 (t0 : Int32) (I : Nat → Int32) (A : Nat → Nat → Int32) : Option (Int32 × MS) :=
  some (t0, (I, A))

set_option maxRecDepth 100000 in
set_option maxHeartbeats 4000000 in
theorem w_move_27 {p : Program} {l : Launch} {e : Env} {s : State} {m : MethodId} {args : Array Value} {below : List Frame} {meth : Method} {c : Code} {Q : State → Prop} {D : va_G} {cy ci : ClassId} {h : Nat → Nat} {A0 : Nat → Prop} {o : Int32 × MS} (X : CallFix p m c cX12_move 2 s args wsX12_move RX12) (hret : mRi p l e ({ frames := 0, cells := 0, slots := 0, locals := 0 } : Room) s m args below meth c Q cX12_move D cy ci h A0 .int o) {t0 : Int32} {I : Nat → Int32} {A : Nat → Nat → Int32} {H : Heap} {locs : List Loc} {ls : Array Slot} (hf : f_move_27 t0 I A = some o) (hM : mH D cy ci h A0 s H locs I A) (hl : lv_has ls 2 []) : W p l e ({ frames := 0, cells := 0, slots := 0, locals := 0 } : Room) s m args below meth c H locs 0 0 Q (F0 m 27 ls [.int t0]) := by
  obtain ⟨hx, hb, hml, hown, hts⟩ := id X
  unfold f_move_27 at hf
  cases hf
  exact hret H locs _ ls hM rfl dX12_move_27
def f_move_17 (I : Nat → Int32) (A : Nat → Nat → Int32) : Option (Int32 × MS) :=
  f_move_27 (-1 : Int32) I A

set_option maxRecDepth 100000 in
set_option maxHeartbeats 4000000 in
theorem w_move_17 {p : Program} {l : Launch} {e : Env} {s : State} {m : MethodId} {args : Array Value} {below : List Frame} {meth : Method} {c : Code} {Q : State → Prop} {D : va_G} {cy ci : ClassId} {h : Nat → Nat} {A0 : Nat → Prop} {o : Int32 × MS} (X : CallFix p m c cX12_move 2 s args wsX12_move RX12) (hret : mRi p l e ({ frames := 0, cells := 0, slots := 0, locals := 0 } : Room) s m args below meth c Q cX12_move D cy ci h A0 .int o) {I : Nat → Int32} {A : Nat → Nat → Int32} {H : Heap} {locs : List Loc} {ls : Array Slot} (hf : f_move_17  I A = some o) (hM : mH D cy ci h A0 s H locs I A) (hl : lv_has ls 2 []) : W p l e ({ frames := 0, cells := 0, slots := 0, locals := 0 } : Room) s m args below meth c H locs 0 0 Q (F0 m 17 ls []) := by
  obtain ⟨hx, hb, hml, hown, hts⟩ := id X
  unfold f_move_17 at hf
  refine lv_iconst (v := (-1 : Int32)) hx hb dX12_move_17 (by decide) ?_
  refine lv_goto (tgt := 27) hx hb dX12_move_18 (by decide) ?_
  exact w_move_27 X hret hf hM (lv_sub hl [] rfl)
def f_move_0 (x1 : Int32) (I : Nat → Int32) (A : Nat → Nat → Int32) : Option (Int32 × MS) :=
  m_bnd (upd I 0 (0 : Int32)) (fun I1 =>
  m_if (x1 < 0) (
  f_move_17  I1 A
  ) (
  m_if (x1 < (I1 33)) (
  m_chk (¬ (x1 < 0 ∨ 2048 ≤ (x1).toNatClampNeg)) (
  m_bnd (A 32 (x1).toNatClampNeg) (fun v2 =>
  f_move_27 v2 I1 A))
  ) (
  f_move_17  I1 A
  )
  ))

set_option maxRecDepth 100000 in
set_option maxHeartbeats 4000000 in
theorem w_move_0 {p : Program} {l : Launch} {e : Env} {s : State} {m : MethodId} {args : Array Value} {below : List Frame} {meth : Method} {c : Code} {Q : State → Prop} {D : va_G} {cy ci : ClassId} {h : Nat → Nat} {A0 : Nat → Prop} {o : Int32 × MS} (X : CallFix p m c cX12_move 2 s args wsX12_move RX12) (hret : mRi p l e ({ frames := 0, cells := 0, slots := 0, locals := 0 } : Room) s m args below meth c Q cX12_move D cy ci h A0 .int o) {x1 : Int32} {I : Nat → Int32} {A : Nat → Nat → Int32} {H : Heap} {locs : List Loc} {ls : Array Slot} (hf : f_move_0 x1 I A = some o) (hM : mH D cy ci h A0 s H locs I A) (hl : lv_has ls 2 [(0, .ref (h 0)), (1, .int x1)]) : W p l e ({ frames := 0, cells := 0, slots := 0, locals := 0 } : Room) s m args below meth c H locs 0 0 Q (F0 m 0 ls []) := by
  obtain ⟨hx, hb, hml, hown, hts⟩ := id X
  unfold f_move_0 at hf
  refine lv_aload_n hx hb dX12_move_0 rfl (lv_at hl 0 rfl) ?_
  refine lv_iconst (v := (0 : Int32)) hx hb dX12_move_1 (by decide) ?_
  refine m_put X hw_move hM 0 (by decide) fl_move_0 mi_0 rfl (tyX12_ok 0 (by decide)) dX12_move_2 (fun H locs hM => ?_)
  obtain ⟨I1, ev, hf⟩ := m_bndE hf
  replace hM := m_hI hM ev
  clear ev
  refine lv_iload_n hx hb dX12_move_5 rfl (lv_at hl 1 rfl) ?_
  refine lv_if_lt (tgt := 17) hx hb dX12_move_6 (by decide) (fun cc1 => ?_) (fun cc1 => ?_)
  · replace hf := m_ifT hf cc1
    exact w_move_17 X hret hf hM (lv_sub hl [] rfl)
  · replace hf := m_ifF hf cc1
    refine lv_iload_n hx hb dX12_move_9 rfl (lv_at hl 1 rfl) ?_
    refine lv_aload_n hx hb dX12_move_10 rfl (lv_at hl 0 rfl) ?_
    refine m_get (v := .int (I1 33)) X hw_move hM 33 (by decide) fl_move_33 rfl dX12_move_11 ?_
    refine lv_icmp_lt (tgt := 21) hx hb dX12_move_14 (by decide) (fun cc1 => ?_) (fun cc1 => ?_)
    · replace hf := m_ifT hf cc1
      refine lv_aload_n hx hb dX12_move_21 rfl (lv_at hl 0 rfl) ?_
      refine m_get (v := .ref (h 32)) X hw_move hM 32 (by decide) fl_move_32 rfl dX12_move_22 ?_
      refine lv_iload_n hx hb dX12_move_25 rfl (lv_at hl 1 rfl) ?_
      obtain ⟨cd, hf⟩ := m_chkE hf
      refine m_iald X hM 32 23 2048 rfl cd dX12_move_26 ?_
      clear cd
      obtain ⟨v2, ev, hf⟩ := m_bndE hf
      refine m_top ev ?_
      clear ev
      exact w_move_27 X hret hf hM (lv_sub hl [] rfl)
    · replace hf := m_ifF hf cc1
      exact w_move_17 X hret hf hM (lv_sub hl [] rfl)
def f_move (x1 : Int32) (I : Nat → Int32) (A : Nat → Nat → Int32) : Option (Int32 × MS) := f_move_0 x1 I A
theorem c_move {l : Launch} {D : va_G} {cy ci : ClassId} {h : Nat → Nat} {x1 : Int32} {I : Nat → Int32} {A : Nat → Nat → Int32} {o : Int32 × MS} (hf : f_move x1 I A = some o) : mMi l yX12_move wsX12_move ({ frames := 0, cells := 0, slots := 0, locals := 0 } : Room) [.ref (h 0), .int x1] D cy ci h I A o :=
  m_entryI (cc := cX12_move) (maxL := 2) (by decide) rfl rfl (Nat.le_of_ble_eq_true rfl) (fun p e s m args below meth c A0 Q H locs ls X hret hM hl => w_move_0 X hret hf hM (lv_sub hl [0, 1] rfl))
theorem hd_move : yX12_move.cls = RX12 ∧ yX12_move.cls ≠ "java/lang/invoke/MethodHandle" ∧ yX12_move.cls ≠ "java/lang/invoke/VarHandle" ∧ (parseMethodDescriptor yX12_move.desc).map (fun d => d.parameters.length) = some 1 := by decide +kernel
