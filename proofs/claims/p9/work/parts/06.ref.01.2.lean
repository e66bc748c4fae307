theorem hw_kingOf : ∀ w ∈ wsX120, w ∈ wsX12_kingOf := by decide +kernel
theorem fl_kingOf_24 : Cond.fieldLink RX12 70 "MoveTextsModel" "men" "[I" ∈ wsX12_kingOf := by decide +kernel
theorem hd_kingOf : yX12_kingOf.cls = RX12 ∧ yX12_kingOf.cls ≠ "java/lang/invoke/MethodHandle" ∧ yX12_kingOf.cls ≠ "java/lang/invoke/VarHandle" ∧ (parseMethodDescriptor yX12_kingOf.desc).map (fun d => d.parameters.length) = some 1 := by decide +kernel
def f_kingOf_31 (self4 : Int32 → Int32 → Int32 → (Nat → Int32) → (Nat → Nat → Int32) → Option (Int32 × MS)) (x1 : Int32) (x3 : Int32) (t0 : Int32) (I : Nat → Int32) (A : Nat → Nat → Int32) : Option (Int32 × MS) :=
  m_bnd (x3 + (1 : Int32)) (fun v1 =>
  self4 x1 t0 v1 I A)

set_option maxRecDepth 100000 in
set_option maxHeartbeats 4000000 in
theorem w_kingOf_31 {p : Program} {l : Launch} {e : Env} {s : State} {m : MethodId} {args : Array Value} {below : List Frame} {meth : Method} {c : Code} {Q : State → Prop} {D : va_G} {cy ci : ClassId} {h : Nat → Nat} {A0 : Nat → Prop} {o : Int32 × MS} (X : CallFix p m c cX12_kingOf 4 s args wsX12_kingOf RX12) (hret : mRi p l e ({ frames := 0, cells := 0, slots := 0, locals := 0 } : Room) s m args below meth c Q cX12_kingOf D cy ci h A0 .int o) {self4 : Int32 → Int32 → Int32 → (Nat → Int32) → (Nat → Nat → Int32) → Option (Int32 × MS)} (hself4 : ∀ (x1 : Int32) (x2 : Int32) (x3 : Int32) (I : Nat → Int32) (A : Nat → Nat → Int32) (H : Heap) (locs : List Loc) (ls : Array Slot), self4 x1 x2 x3 I A = some o → mH D cy ci h A0 s H locs I A → lv_has ls 4 [(0, .ref (h 0)), (1, .int x1), (2, .int x2), (3, .int x3)] → W p l e ({ frames := 0, cells := 0, slots := 0, locals := 0 } : Room) s m args below meth c H locs 0 0 Q (F0 m 4 ls [])) {x1 : Int32} {x3 : Int32} {t0 : Int32} {I : Nat → Int32} {A : Nat → Nat → Int32} {H : Heap} {locs : List Loc} {ls : Array Slot} (hf : f_kingOf_31 self4 x1 x3 t0 I A = some o) (hM : mH D cy ci h A0 s H locs I A) (hl : lv_has ls 4 [(0, .ref (h 0)), (1, .int x1), (3, .int x3)]) : W p l e ({ frames := 0, cells := 0, slots := 0, locals := 0 } : Room) s m args below meth c H locs 0 0 Q (F0 m 31 ls [.int t0]) := by
  obtain ⟨hx, hb, hml, hown, hts⟩ := id X
  unfold f_kingOf_31 at hf
  refine lv_istore_n (lv' := [(2, .int t0), (0, .ref (h 0)), (1, .int x1), (3, .int x3)]) hx hb dX12_kingOf_31 rfl hl (by decide) rfl (fun ls hl => ?_)
  obtain ⟨v1, ev, hf⟩ := m_bndE hf
  refine lv_iinc (v := v1) (lv' := [(3, .int v1), (2, .int t0), (0, .ref (h 0)), (1, .int x1)]) hx hb dX12_kingOf_32 hl (k := 3) rfl (by rw [ev]; rfl) (by decide) rfl (fun ls hl => ?_)
  clear ev
  refine lv_goto (tgt := 4) hx hb dX12_kingOf_35 (by decide) ?_
  exact hself4 _ _ _ _ _ _ _ _ hf hM (lv_sub hl [2, 3, 1, 0] rfl)
def f_kingOf_4s (self4 : Int32 → Int32 → Int32 → (Nat → Int32) → (Nat → Nat → Int32) → Option (Int32 × MS)) (x1 : Int32) (x2 : Int32) (x3 : Int32) (I : Nat → Int32) (A : Nat → Nat → Int32) : Option (Int32 × MS) :=
  m_if ((64 : Int32) ≤ x3) (
  some (x2, (I, A))
  ) (
  m_chk (¬ (x3 < 0 ∨ 64 ≤ (x3).toNatClampNeg)) (
  m_bnd (A 24 (x3).toNatClampNeg) (fun v1 =>
  m_bnd ((8 : Int32) * x1) (fun v2 =>
  m_bnd ((6 : Int32) + v2) (fun v3 =>
  m_if (v1 = v3) (
  f_kingOf_31 self4 x1 x3 x3 I A
  ) (
  f_kingOf_31 self4 x1 x3 x2 I A
  )))))
  )

set_option maxRecDepth 100000 in
set_option maxHeartbeats 4000000 in
theorem ws_kingOf_4 {p : Program} {l : Launch} {e : Env} {s : State} {m : MethodId} {args : Array Value} {below : List Frame} {meth : Method} {c : Code} {Q : State → Prop} {D : va_G} {cy ci : ClassId} {h : Nat → Nat} {A0 : Nat → Prop} {o : Int32 × MS} (X : CallFix p m c cX12_kingOf 4 s args wsX12_kingOf RX12) (hret : mRi p l e ({ frames := 0, cells := 0, slots := 0, locals := 0 } : Room) s m args below meth c Q cX12_kingOf D cy ci h A0 .int o) {self4 : Int32 → Int32 → Int32 → (Nat → Int32) → (Nat → Nat → Int32) → Option (Int32 × MS)} (hself4 : ∀ (x1 : Int32) (x2 : Int32) (x3 : Int32) (I : Nat → Int32) (A : Nat → Nat → Int32) (H : Heap) (locs : List Loc) (ls : Array Slot), self4 x1 x2 x3 I A = some o → mH D cy ci h A0 s H locs I A → lv_has ls 4 [(0, .ref (h 0)), (1, .int x1), (2, .int x2), (3, .int x3)] → W p l e ({ frames := 0, cells := 0, slots := 0, locals := 0 } : Room) s m args below meth c H locs 0 0 Q (F0 m 4 ls [])) {x1 : Int32} {x2 : Int32} {x3 : Int32} {I : Nat → Int32} {A : Nat → Nat → Int32} {H : Heap} {locs : List Loc} {ls : Array Slot} (hf : f_kingOf_4s self4 x1 x2 x3 I A = some o) (hM : mH D cy ci h A0 s H locs I A) (hl : lv_has ls 4 [(0, .ref (h 0)), (1, .int x1), (2, .int x2), (3, .int x3)]) : W p l e ({ frames := 0, cells := 0, slots := 0, locals := 0 } : Room) s m args below meth c H locs 0 0 Q (F0 m 4 ls []) := by
  obtain ⟨hx, hb, hml, hown, hts⟩ := id X
  unfold f_kingOf_4s at hf
  refine lv_iload_n hx hb dX12_kingOf_4 rfl (lv_at hl 3 rfl) ?_
  refine lv_bipush (v := (64 : Int32)) hx hb dX12_kingOf_5 (by decide) ?_
  refine lv_icmp_ge (tgt := 38) hx hb dX12_kingOf_7 (by decide) (fun cc1 => ?_) (fun cc1 => ?_)
  · replace hf := m_ifT hf cc1
    refine lv_iload_n hx hb dX12_kingOf_38 rfl (lv_at hl 2 rfl) ?_
    cases hf
    exact hret H locs _ ls hM rfl dX12_kingOf_39
  · replace hf := m_ifF hf cc1
    refine lv_aload_n hx hb dX12_kingOf_10 rfl (lv_at hl 0 rfl) ?_
    refine m_get (v := .ref (h 24)) X hw_kingOf hM 24 (by decide) fl_kingOf_24 rfl dX12_kingOf_11 ?_
    refine lv_iload_n hx hb dX12_kingOf_14 rfl (lv_at hl 3 rfl) ?_
    obtain ⟨cd, hf⟩ := m_chkE hf
    refine m_iald X hM 24 20 64 rfl cd dX12_kingOf_15 ?_
    clear cd
    obtain ⟨v1, ev, hf⟩ := m_bndE hf
    refine m_top ev ?_
    clear ev
    refine lv_bipush (v := (6 : Int32)) hx hb dX12_kingOf_16 (by decide) ?_
    refine lv_bipush (v := (8 : Int32)) hx hb dX12_kingOf_18 (by decide) ?_
    refine lv_iload_n hx hb dX12_kingOf_20 rfl (lv_at hl 1 rfl) ?_
    refine lv_imul hx hb dX12_kingOf_21 ?_
    obtain ⟨v2, ev, hf⟩ := m_bndE hf
    refine m_top ev ?_
    clear ev
    refine lv_iadd hx hb dX12_kingOf_22 ?_
    obtain ⟨v3, ev, hf⟩ := m_bndE hf
    refine m_top ev ?_
    clear ev
    refine lv_icmp_ne (tgt := 30) hx hb dX12_kingOf_23 (by decide) (fun cc1 => ?_) (fun cc1 => ?_)
    · replace hf := m_ifF hf cc1
      refine lv_iload_n hx hb dX12_kingOf_30 rfl (lv_at hl 2 rfl) ?_
      exact w_kingOf_31 X hret hself4 hf hM (lv_sub hl [0, 1, 3] rfl)
    · replace hf := m_ifT hf cc1
      refine lv_iload_n hx hb dX12_kingOf_26 rfl (lv_at hl 3 rfl) ?_
      refine lv_goto (tgt := 31) hx hb dX12_kingOf_27 (by decide) ?_
      exact w_kingOf_31 X hret hself4 hf hM (lv_sub hl [0, 1, 3] rfl)
def f_kingOf_4 : Nat → Int32 → Int32 → Int32 → (Nat → Int32) → (Nat → Nat → Int32) → Option (Int32 × MS)
  | 0 => fun _ _ _ _ _ => none
  | n + 1 => f_kingOf_4s (f_kingOf_4 n)
theorem w_kingOf_4 {p : Program} {l : Launch} {e : Env} {s : State} {m : MethodId} {args : Array Value} {below : List Frame} {meth : Method} {c : Code} {Q : State → Prop} {D : va_G} {cy ci : ClassId} {h : Nat → Nat} {A0 : Nat → Prop} {o : Int32 × MS} (X : CallFix p m c cX12_kingOf 4 s args wsX12_kingOf RX12) (hret : mRi p l e ({ frames := 0, cells := 0, slots := 0, locals := 0 } : Room) s m args below meth c Q cX12_kingOf D cy ci h A0 .int o) (n : Nat) : ∀ (x1 : Int32) (x2 : Int32) (x3 : Int32) (I : Nat → Int32) (A : Nat → Nat → Int32) (H : Heap) (locs : List Loc) (ls : Array Slot), f_kingOf_4 n x1 x2 x3 I A = some o → mH D cy ci h A0 s H locs I A → lv_has ls 4 [(0, .ref (h 0)), (1, .int x1), (2, .int x2), (3, .int x3)] → W p l e ({ frames := 0, cells := 0, slots := 0, locals := 0 } : Room) s m args below meth c H locs 0 0 Q (F0 m 4 ls []) := by
  induction n with
  | zero => intro x1 x2 x3 I A H locs ls hf; cases hf
  | succ n ih => intro x1 x2 x3 I A H locs ls hf hM hl; exact ws_kingOf_4 X hret (self4 := f_kingOf_4 n) ih hf hM hl
def f_kingOf_0 (x1 : Int32) (I : Nat → Int32) (A : Nat → Nat → Int32) : Option (Int32 × MS) :=
  f_kingOf_4 mFuel x1 (0 : Int32) (0 : Int32) I A

set_option maxRecDepth 100000 in
set_option maxHeartbeats 4000000 in
theorem w_kingOf_0 {p : Program} {l : Launch} {e : Env} {s : State} {m : MethodId} {args : Array Value} {below : List Frame} {meth : Method} {c : Code} {Q : State → Prop} {D : va_G} {cy ci : ClassId} {h : Nat → Nat} {A0 : Nat → Prop} {o : Int32 × MS} (X : CallFix p m c cX12_kingOf 4 s args wsX12_kingOf RX12) (hret : mRi p l e ({ frames := 0, cells := 0, slots := 0, locals := 0 } : Room) s m args below meth c Q cX12_kingOf D cy ci h A0 .int o) {x1 : Int32} {I : Nat → Int32} {A : Nat → Nat → Int32} {H : Heap} {locs : List Loc} {ls : Array Slot} (hf : f_kingOf_0 x1 I A = some o) (hM : mH D cy ci h A0 s H locs I A) (hl : lv_has ls 4 [(0, .ref (h 0)), (1, .int x1)]) : W p l e ({ frames := 0, cells := 0, slots := 0, locals := 0 } : Room) s m args below meth c H locs 0 0 Q (F0 m 0 ls []) := by
  obtain ⟨hx, hb, hml, hown, hts⟩ := id X
  unfold f_kingOf_0 at hf
  refine lv_iconst (v := (0 : Int32)) hx hb dX12_kingOf_0 (by decide) ?_
  refine lv_istore_n (lv' := [(2, .int (0 : Int32)), (0, .ref (h 0)), (1, .int x1)]) hx hb dX12_kingOf_1 rfl hl (by decide) rfl (fun ls hl => ?_)
  refine lv_iconst (v := (0 : Int32)) hx hb dX12_kingOf_2 (by decide) ?_
  refine lv_istore_n (lv' := [(3, .int (0 : Int32)), (2, .int (0 : Int32)), (0, .ref (h 0)), (1, .int x1)]) hx hb dX12_kingOf_3 rfl hl (by decide) rfl (fun ls hl => ?_)
  exact w_kingOf_4 X hret _ _ _ _ _ _ _ _ _ hf hM (lv_sub hl [2, 3, 1, 0] rfl)
def f_kingOf (x1 : Int32) (I : Nat → Int32) (A : Nat → Nat → Int32) : Option (Int32 × MS) := f_kingOf_0 x1 I A
theorem c_kingOf {l : Launch} {D : va_G} {cy ci : ClassId} {h : Nat → Nat} {x1 : Int32} {I : Nat → Int32} {A : Nat → Nat → Int32} {o : Int32 × MS} (hf : f_kingOf x1 I A = some o) : mMi l yX12_kingOf wsX12_kingOf ({ frames := 0, cells := 0, slots := 0, locals := 0 } : Room) [.ref (h 0), .int x1] D cy ci h I A o :=
  m_entryI (cc := cX12_kingOf) (maxL := 4) (by decide) rfl rfl (Nat.le_of_ble_eq_true rfl) (fun p e s m args below meth c A0 Q H locs ls X hret hM hl => w_kingOf_0 X hret hf hM (lv_sub hl [0, 1] rfl))
theorem hd_isInCheck : yX12_isInCheck.cls = RX12 ∧ yX12_isInCheck.cls ≠ "java/lang/invoke/MethodHandle" ∧ yX12_isInCheck.cls ≠ "java/lang/invoke/VarHandle" ∧ (parseMethodDescriptor yX12_isInCheck.desc).map (fun d => d.parameters.length) = some 1 := by decide +kernel
def f_isInCheck_0 (x1 : Int32) (I : Nat → Int32) (A : Nat → Nat → Int32) : Option (Int32 × MS) :=
  m_cl (f_kingOf x1 I A) (fun r1 Ic1 Ac1 =>
  m_bnd ((1 : Int32) - x1) (fun v2 =>
  m_cl (f_isAttacked r1 v2 Ic1 Ac1) (fun r3 Ic3 Ac3 =>
  m_chk (vp_nar .boolean r3 = r3) (some (r3, (Ic3, Ac3))))))

set_option maxRecDepth 100000 in
set_option maxHeartbeats 4000000 in
theorem w_isInCheck_0 {p : Program} {l : Launch} {e : Env} {s : State} {m : MethodId} {args : Array Value} {below : List Frame} {meth : Method} {c : Code} {Q : State → Prop} {D : va_G} {cy ci : ClassId} {h : Nat → Nat} {A0 : Nat → Prop} {o : Int32 × MS} (X : CallFix p m c cX12_isInCheck 2 s args wsX12_isInCheck RX12) (hret : mRi p l e ({ frames := 3, cells := 0, slots := 0, locals := 77 } : Room) s m args below meth c Q cX12_isInCheck D cy ci h A0 .boolean o) {x1 : Int32} {I : Nat → Int32} {A : Nat → Nat → Int32} {H : Heap} {locs : List Loc} {ls : Array Slot} (hf : f_isInCheck_0 x1 I A = some o) (hM : mH D cy ci h A0 s H locs I A) (hl : lv_has ls 2 [(0, .ref (h 0)), (1, .int x1)]) : W p l e ({ frames := 3, cells := 0, slots := 0, locals := 77 } : Room) s m args below meth c H locs 0 0 Q (F0 m 0 ls []) := by
  obtain ⟨hx, hb, hml, hown, hts⟩ := id X
  unfold f_isInCheck_0 at hf
  refine lv_aload_n hx hb dX12_isInCheck_0 rfl (lv_at hl 0 rfl) ?_
  refine lv_aload_n hx hb dX12_isInCheck_1 rfl (lv_at hl 0 rfl) ?_
  refine lv_iload_n hx hb dX12_isInCheck_2 rfl (lv_at hl 1 rfl) ?_
  obtain ⟨o1, ho, hf⟩ := m_clE hf
  refine m_callVi X hM (c_kingOf ho) gX12_isInCheck_X12_kingOf rfl ⟨rfl, rfl⟩ hd_kingOf ⟨Nat.le_of_ble_eq_true rfl, Nat.le_of_ble_eq_true rfl⟩ rfl hl.1 rfl (Nat.le_of_ble_eq_true rfl) dX12_isInCheck_3 (fun H locs hM => ?_)
  clear ho
  refine lv_iconst (v := (1 : Int32)) hx hb dX12_isInCheck_6 (by decide) ?_
  refine lv_iload_n hx hb dX12_isInCheck_7 rfl (lv_at hl 1 rfl) ?_
  refine lv_isub hx hb dX12_isInCheck_8 ?_
  obtain ⟨v2, ev, hf⟩ := m_bndE hf
  refine m_top ev ?_
  clear ev
  obtain ⟨o3, ho, hf⟩ := m_clE hf
  refine m_callVi X hM (c_isAttacked ho) gX12_isInCheck_X12_isAttacked rfl ⟨rfl, rfl⟩ hd_isAttacked ⟨Nat.le_of_ble_eq_true rfl, Nat.le_of_ble_eq_true rfl⟩ rfl hl.1 rfl (Nat.le_of_ble_eq_true rfl) dX12_isInCheck_9 (fun H locs hM => ?_)
  clear ho
  obtain ⟨cd, hf⟩ := m_chkE hf
  cases hf
  exact hret H locs _ ls hM (m_nb cd) dX12_isInCheck_12
def f_isInCheck (x1 : Int32) (I : Nat → Int32) (A : Nat → Nat → Int32) : Option (Int32 × MS) := f_isInCheck_0 x1 I A
theorem c_isInCheck {l : Launch} {D : va_G} {cy ci : ClassId} {h : Nat → Nat} {x1 : Int32} {I : Nat → Int32} {A : Nat → Nat → Int32} {o : Int32 × MS} (hf : f_isInCheck x1 I A = some o) : mMi l yX12_isInCheck wsX12_isInCheck ({ frames := 3, cells := 0, slots := 0, locals := 77 } : Room) [.ref (h 0), .int x1] D cy ci h I A o :=
  m_entryI (cc := cX12_isInCheck) (maxL := 2) (by decide) rfl rfl (Nat.le_of_ble_eq_true rfl) (fun p e s m args below meth c A0 Q H locs ls X hret hM hl => w_isInCheck_0 X hret hf hM (lv_sub hl [0, 1] rfl))
theorem hw_bringBack : ∀ w ∈ wsX120, w ∈ wsX12_bringBack := by decide +kernel
theorem fl_bringBack_24 : Cond.fieldLink RX12 70 "MoveTextsModel" "men" "[I" ∈ wsX12_bringBack := by decide +kernel
theorem fl_bringBack_25 : Cond.fieldLink RX12 121 "MoveTextsModel" "side" "I" ∈ wsX12_bringBack := by decide +kernel
theorem fl_bringBack_26 : Cond.fieldLink RX12 124 "MoveTextsModel" "rights" "I" ∈ wsX12_bringBack := by decide +kernel
theorem fl_bringBack_27 : Cond.fieldLink RX12 127 "MoveTextsModel" "passed" "I" ∈ wsX12_bringBack := by decide +kernel
theorem fl_bringBack_28 : Cond.fieldLink RX12 130 "MoveTextsModel" "clock" "I" ∈ wsX12_bringBack := by decide +kernel
theorem fl_bringBack_29 : Cond.fieldLink RX12 133 "MoveTextsModel" "number" "I" ∈ wsX12_bringBack := by decide +kernel
theorem fl_bringBack_30 : Cond.fieldLink RX12 73 "MoveTextsModel" "keptMen" "[I" ∈ wsX12_bringBack := by decide +kernel
theorem fl_bringBack_31 : Cond.fieldLink RX12 76 "MoveTextsModel" "keptRest" "[I" ∈ wsX12_bringBack := by decide +kernel
theorem hd_bringBack : yX12_bringBack.cls = RX12 ∧ yX12_bringBack.cls ≠ "java/lang/invoke/MethodHandle" ∧ yX12_bringBack.cls ≠ "java/lang/invoke/VarHandle" ∧ (parseMethodDescriptor yX12_bringBack.desc).map (fun d => d.parameters.length) = some 0 := by decide +kernel
def f_bringBack_2s (self2 : Int32 → (Nat → Int32) → (Nat → Nat → Int32) → Option (Int32 × MS)) (x1 : Int32) (I : Nat → Int32) (A : Nat → Nat → Int32) : Option (Int32 × MS) :=
  m_if ((64 : Int32) ≤ x1) (
  m_chk (¬ ((0 : Int32) < 0 ∨ 5 ≤ ((0 : Int32)).toNatClampNeg)) (
  m_bnd (A 31 ((0 : Int32)).toNatClampNeg) (fun v1 =>
  m_bnd (upd I 25 v1) (fun I2 =>
  m_chk (¬ ((1 : Int32) < 0 ∨ 5 ≤ ((1 : Int32)).toNatClampNeg)) (
  m_bnd (A 31 ((1 : Int32)).toNatClampNeg) (fun v3 =>
  m_bnd (upd I2 26 v3) (fun I4 =>
  m_chk (¬ ((2 : Int32) < 0 ∨ 5 ≤ ((2 : Int32)).toNatClampNeg)) (
  m_bnd (A 31 ((2 : Int32)).toNatClampNeg) (fun v5 =>
  m_bnd (upd I4 27 v5) (fun I6 =>
  m_chk (¬ ((3 : Int32) < 0 ∨ 5 ≤ ((3 : Int32)).toNatClampNeg)) (
  m_bnd (A 31 ((3 : Int32)).toNatClampNeg) (fun v7 =>
  m_bnd (upd I6 28 v7) (fun I8 =>
  m_chk (¬ ((4 : Int32) < 0 ∨ 5 ≤ ((4 : Int32)).toNatClampNeg)) (
  m_bnd (A 31 ((4 : Int32)).toNatClampNeg) (fun v9 =>
  m_bnd (upd I8 29 v9) (fun I10 =>
  some (0, (I10, A)))))))))))))))))
  ) (
  m_chk (¬ (x1 < 0 ∨ 64 ≤ (x1).toNatClampNeg)) (
  m_bnd (A 30 (x1).toNatClampNeg) (fun v11 =>
  m_chk (¬ (x1 < 0 ∨ 64 ≤ (x1).toNatClampNeg)) (
  m_bnd (va_up A 24 (upd (A 24) (x1).toNatClampNeg v11)) (fun A12 =>
  m_bnd (x1 + (1 : Int32)) (fun v13 =>
  self2 v13 I A12)))))
  )

set_option maxRecDepth 100000 in
set_option maxHeartbeats 4000000 in
theorem ws_bringBack_2 {p : Program} {l : Launch} {e : Env} {s : State} {m : MethodId} {args : Array Value} {below : List Frame} {meth : Method} {c : Code} {Q : State → Prop} {D : va_G} {cy ci : ClassId} {h : Nat → Nat} {A0 : Nat → Prop} {o : Int32 × MS} (X : CallFix p m c cX12_bringBack 2 s args wsX12_bringBack RX12) (hret : mRv p l e ({ frames := 0, cells := 0, slots := 0, locals := 0 } : Room) s m args below meth c Q cX12_bringBack D cy ci h A0 o) {self2 : Int32 → (Nat → Int32) → (Nat → Nat → Int32) → Option (Int32 × MS)} (hself2 : ∀ (x1 : Int32) (I : Nat → Int32) (A : Nat → Nat → Int32) (H : Heap) (locs : List Loc) (ls : Array Slot), self2 x1 I A = some o → mH D cy ci h A0 s H locs I A → lv_has ls 2 [(0, .ref (h 0)), (1, .int x1)] → W p l e ({ frames := 0, cells := 0, slots := 0, locals := 0 } : Room) s m args below meth c H locs 0 0 Q (F0 m 2 ls [])) {x1 : Int32} {I : Nat → Int32} {A : Nat → Nat → Int32} {H : Heap} {locs : List Loc} {ls : Array Slot} (hf : f_bringBack_2s self2 x1 I A = some o) (hM : mH D cy ci h A0 s H locs I A) (hl : lv_has ls 2 [(0, .ref (h 0)), (1, .int x1)]) : W p l e ({ frames := 0, cells := 0, slots := 0, locals := 0 } : Room) s m args below meth c H locs 0 0 Q (F0 m 2 ls []) := by
  obtain ⟨hx, hb, hml, hown, hts⟩ := id X
  unfold f_bringBack_2s at hf
  refine lv_iload_n hx hb dX12_bringBack_2 rfl (lv_at hl 1 rfl) ?_
  refine lv_bipush (v := (64 : Int32)) hx hb dX12_bringBack_3 (by decide) ?_
  refine lv_icmp_ge (tgt := 26) hx hb dX12_bringBack_5 (by decide) (fun cc1 => ?_) (fun cc1 => ?_)
  · replace hf := m_ifT hf cc1
    refine lv_aload_n hx hb dX12_bringBack_26 rfl (lv_at hl 0 rfl) ?_
    refine lv_aload_n hx hb dX12_bringBack_27 rfl (lv_at hl 0 rfl) ?_
    refine m_get (v := .ref (h 31)) X hw_bringBack hM 31 (by decide) fl_bringBack_31 rfl dX12_bringBack_28 ?_
    refine lv_iconst (v := (0 : Int32)) hx hb dX12_bringBack_31 (by decide) ?_
    obtain ⟨cd, hf⟩ := m_chkE hf
    refine m_iald X hM 31 22 5 rfl cd dX12_bringBack_32 ?_
    clear cd
    obtain ⟨v1, ev, hf⟩ := m_bndE hf
    refine m_top ev ?_
    clear ev
    refine m_put X hw_bringBack hM 25 (by decide) fl_bringBack_25 mi_25 rfl (tyX12_ok 25 (by decide)) dX12_bringBack_33 (fun H locs hM => ?_)
    obtain ⟨I2, ev, hf⟩ := m_bndE hf
    replace hM := m_hI hM ev
    clear ev
    refine lv_aload_n hx hb dX12_bringBack_36 rfl (lv_at hl 0 rfl) ?_
    refine lv_aload_n hx hb dX12_bringBack_37 rfl (lv_at hl 0 rfl) ?_
    refine m_get (v := .ref (h 31)) X hw_bringBack hM 31 (by decide) fl_bringBack_31 rfl dX12_bringBack_38 ?_
    refine lv_iconst (v := (1 : Int32)) hx hb dX12_bringBack_41 (by decide) ?_
    obtain ⟨cd, hf⟩ := m_chkE hf
    refine m_iald X hM 31 22 5 rfl cd dX12_bringBack_42 ?_
    clear cd
    obtain ⟨v3, ev, hf⟩ := m_bndE hf
    refine m_top ev ?_
    clear ev
    refine m_put X hw_bringBack hM 26 (by decide) fl_bringBack_26 mi_26 rfl (tyX12_ok 26 (by decide)) dX12_bringBack_43 (fun H locs hM => ?_)
    obtain ⟨I4, ev, hf⟩ := m_bndE hf
    replace hM := m_hI hM ev
    clear ev
    refine lv_aload_n hx hb dX12_bringBack_46 rfl (lv_at hl 0 rfl) ?_
    refine lv_aload_n hx hb dX12_bringBack_47 rfl (lv_at hl 0 rfl) ?_
    refine m_get (v := .ref (h 31)) X hw_bringBack hM 31 (by decide) fl_bringBack_31 rfl dX12_bringBack_48 ?_
    refine lv_iconst (v := (2 : Int32)) hx hb dX12_bringBack_51 (by decide) ?_
    obtain ⟨cd, hf⟩ := m_chkE hf
    refine m_iald X hM 31 22 5 rfl cd dX12_bringBack_52 ?_
    clear cd
    obtain ⟨v5, ev, hf⟩ := m_bndE hf
    refine m_top ev ?_
    clear ev
    refine m_put X hw_bringBack hM 27 (by decide) fl_bringBack_27 mi_27 rfl (tyX12_ok 27 (by decide)) dX12_bringBack_53 (fun H locs hM => ?_)
    obtain ⟨I6, ev, hf⟩ := m_bndE hf
    replace hM := m_hI hM ev
    clear ev
    refine lv_aload_n hx hb dX12_bringBack_56 rfl (lv_at hl 0 rfl) ?_
    refine lv_aload_n hx hb dX12_bringBack_57 rfl (lv_at hl 0 rfl) ?_
    refine m_get (v := .ref (h 31)) X hw_bringBack hM 31 (by decide) fl_bringBack_31 rfl dX12_bringBack_58 ?_
    refine lv_iconst (v := (3 : Int32)) hx hb dX12_bringBack_61 (by decide) ?_
    obtain ⟨cd, hf⟩ := m_chkE hf
    refine m_iald X hM 31 22 5 rfl cd dX12_bringBack_62 ?_
    clear cd
    obtain ⟨v7, ev, hf⟩ := m_bndE hf
    refine m_top ev ?_
    clear ev
    refine m_put X hw_bringBack hM 28 (by decide) fl_bringBack_28 mi_28 rfl (tyX12_ok 28 (by decide)) dX12_bringBack_63 (fun H locs hM => ?_)
    obtain ⟨I8, ev, hf⟩ := m_bndE hf
    replace hM := m_hI hM ev
    clear ev
    refine lv_aload_n hx hb dX12_bringBack_66 rfl (lv_at hl 0 rfl) ?_
    refine lv_aload_n hx hb dX12_bringBack_67 rfl (lv_at hl 0 rfl) ?_
    refine m_get (v := .ref (h 31)) X hw_bringBack hM 31 (by decide) fl_bringBack_31 rfl dX12_bringBack_68 ?_
    refine lv_iconst (v := (4 : Int32)) hx hb dX12_bringBack_71 (by decide) ?_
    obtain ⟨cd, hf⟩ := m_chkE hf
    refine m_iald X hM 31 22 5 rfl cd dX12_bringBack_72 ?_
    clear cd
    obtain ⟨v9, ev, hf⟩ := m_bndE hf
    refine m_top ev ?_
    clear ev
    refine m_put X hw_bringBack hM 29 (by decide) fl_bringBack_29 mi_29 rfl (tyX12_ok 29 (by decide)) dX12_bringBack_73 (fun H locs hM => ?_)
    obtain ⟨I10, ev, hf⟩ := m_bndE hf
    replace hM := m_hI hM ev
    clear ev
    cases hf
    exact hret H locs _ ls hM dX12_bringBack_76
  · replace hf := m_ifF hf cc1
    refine lv_aload_n hx hb dX12_bringBack_8 rfl (lv_at hl 0 rfl) ?_
    refine m_get (v := .ref (h 24)) X hw_bringBack hM 24 (by decide) fl_bringBack_24 rfl dX12_bringBack_9 ?_
    refine lv_iload_n hx hb dX12_bringBack_12 rfl (lv_at hl 1 rfl) ?_
    refine lv_aload_n hx hb dX12_bringBack_13 rfl (lv_at hl 0 rfl) ?_
    refine m_get (v := .ref (h 30)) X hw_bringBack hM 30 (by decide) fl_bringBack_30 rfl dX12_bringBack_14 ?_
    refine lv_iload_n hx hb dX12_bringBack_17 rfl (lv_at hl 1 rfl) ?_
    obtain ⟨cd, hf⟩ := m_chkE hf
    refine m_iald X hM 30 21 64 rfl cd dX12_bringBack_18 ?_
    clear cd
    obtain ⟨v11, ev, hf⟩ := m_bndE hf
    refine m_top ev ?_
    clear ev
    obtain ⟨cd, hf⟩ := m_chkE hf
    refine m_iast X hM 24 20 64 rfl ma_24 cd dX12_bringBack_19 (fun H locs hM => ?_)
    clear cd
    obtain ⟨A12, ev, hf⟩ := m_bndE hf
    replace hM := m_hA hM ev
    clear ev
    obtain ⟨v13, ev, hf⟩ := m_bndE hf
    refine lv_iinc (v := v13) (lv' := [(1, .int v13), (0, .ref (h 0))]) hx hb dX12_bringBack_20 hl (k := 1) rfl (by rw [ev]; rfl) (by decide) rfl (fun ls hl => ?_)
    clear ev
    refine lv_goto (tgt := 2) hx hb dX12_bringBack_23 (by decide) ?_
    exact hself2 _ _ _ _ _ _ hf hM (lv_sub hl [1, 0] rfl)
def f_bringBack_2 : Nat → Int32 → (Nat → Int32) → (Nat → Nat → Int32) → Option (Int32 × MS)
  | 0 => fun _ _ _ => none
  | n + 1 => f_bringBack_2s (f_bringBack_2 n)
theorem w_bringBack_2 {p : Program} {l : Launch} {e : Env} {s : State} {m : MethodId} {args : Array Value} {below : List Frame} {meth : Method} {c : Code} {Q : State → Prop} {D : va_G} {cy ci : ClassId} {h : Nat → Nat} {A0 : Nat → Prop} {o : Int32 × MS} (X : CallFix p m c cX12_bringBack 2 s args wsX12_bringBack RX12) (hret : mRv p l e ({ frames := 0, cells := 0, slots := 0, locals := 0 } : Room) s m args below meth c Q cX12_bringBack D cy ci h A0 o) (n : Nat) : ∀ (x1 : Int32) (I : Nat → Int32) (A : Nat → Nat → Int32) (H : Heap) (locs : List Loc) (ls : Array Slot), f_bringBack_2 n x1 I A = some o → mH D cy ci h A0 s H locs I A → lv_has ls 2 [(0, .ref (h 0)), (1, .int x1)] → W p l e ({ frames := 0, cells := 0, slots := 0, locals := 0 } : Room) s m args below meth c H locs 0 0 Q (F0 m 2 ls []) := by
  induction n with
  | zero => intro x1 I A H locs ls hf; cases hf
  | succ n ih => intro x1 I A H locs ls hf hM hl; exact ws_bringBack_2 X hret (self2 := f_bringBack_2 n) ih hf hM hl
def f_bringBack_0 (I : Nat → Int32) (A : Nat → Nat → Int32) : Option (Int32 × MS) :=
  f_bringBack_2 mFuel (0 : Int32) I A

set_option maxRecDepth 100000 in
set_option maxHeartbeats 4000000 in
theorem w_bringBack_0 {p : Program} {l : Launch} {e : Env} {s : State} {m : MethodId} {args : Array Value} {below : List Frame} {meth : Method} {c : Code} {Q : State → Prop} {D : va_G} {cy ci : ClassId} {h : Nat → Nat} {A0 : Nat → Prop} {o : Int32 × MS} (X : CallFix p m c cX12_bringBack 2 s args wsX12_bringBack RX12) (hret : mRv p l e ({ frames := 0, cells := 0, slots := 0, locals := 0 } : Room) s m args below meth c Q cX12_bringBack D cy ci h A0 o) {I : Nat → Int32} {A : Nat → Nat → Int32} {H : Heap} {locs : List Loc} {ls : Array Slot} (hf : f_bringBack_0  I A = some o) (hM : mH D cy ci h A0 s H locs I A) (hl : lv_has ls 2 [(0, .ref (h 0))]) : W p l e ({ frames := 0, cells := 0, slots := 0, locals := 0 } : Room) s m args below meth c H locs 0 0 Q (F0 m 0 ls []) := by
  obtain ⟨hx, hb, hml, hown, hts⟩ := id X
  unfold f_bringBack_0 at hf
  refine lv_iconst (v := (0 : Int32)) hx hb dX12_bringBack_0 (by decide) ?_
  refine lv_istore_n (lv' := [(1, .int (0 : Int32)), (0, .ref (h 0))]) hx hb dX12_bringBack_1 rfl hl (by decide) rfl (fun ls hl => ?_)
  exact w_bringBack_2 X hret _ _ _ _ _ _ _ hf hM (lv_sub hl [1, 0] rfl)
def f0_bringBack (I : Nat → Int32) (A : Nat → Nat → Int32) : Option (Int32 × MS) := f_bringBack_0  I A
theorem c0_bringBack {l : Launch} {D : va_G} {cy ci : ClassId} {h : Nat → Nat} {I : Nat → Int32} {A : Nat → Nat → Int32} {o : Int32 × MS} (hf : f0_bringBack  I A = some o) : mMv l yX12_bringBack wsX12_bringBack ({ frames := 0, cells := 0, slots := 0, locals := 0 } : Room) [.ref (h 0)] D cy ci h I A o :=
  m_entryV (cc := cX12_bringBack) (maxL := 2) (by decide) rfl rfl (Nat.le_of_ble_eq_true rfl) (fun p e s m args below meth c A0 Q H locs ls X hret hM hl => w_bringBack_0 X hret hf hM (lv_sub hl [0] rfl))
