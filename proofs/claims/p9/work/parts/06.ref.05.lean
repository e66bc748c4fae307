theorem hw_readTag : ∀ w ∈ wsX120, w ∈ wsX12_readTag := by decide +kernel
theorem fl_readTag_1 : Cond.fieldLink RX12 270 "MoveTextsModel" "typed" "I" ∈ wsX12_readTag := by decide +kernel
theorem fl_readTag_18 : Cond.fieldLink RX12 52 "MoveTextsModel" "tagCount" "[I" ∈ wsX12_readTag := by decide +kernel
theorem fl_readTag_19 : Cond.fieldLink RX12 55 "MoveTextsModel" "nameSize" "[I" ∈ wsX12_readTag := by decide +kernel
theorem fl_readTag_20 : Cond.fieldLink RX12 58 "MoveTextsModel" "names" "[C" ∈ wsX12_readTag := by decide +kernel
theorem fl_readTag_21 : Cond.fieldLink RX12 61 "MoveTextsModel" "valueSize" "[I" ∈ wsX12_readTag := by decide +kernel
theorem fl_readTag_22 : Cond.fieldLink RX12 64 "MoveTextsModel" "values" "[C" ∈ wsX12_readTag := by decide +kernel
theorem fl_readTag_37 : Cond.fieldLink RX12 267 "MoveTextsModel" "at" "I" ∈ wsX12_readTag := by decide +kernel
theorem hd_readTag : yX12_readTag.cls = RX12 ∧ yX12_readTag.cls ≠ "java/lang/invoke/MethodHandle" ∧ yX12_readTag.cls ≠ "java/lang/invoke/VarHandle" ∧ (parseMethodDescriptor yX12_readTag.desc).map (fun d => d.parameters.length) = some 1 := by decide +kernel
def f_readTag_124 (self71 : Int32 → Int32 → Int32 → Int32 → Int32 → (Nat → Int32) → (Nat → Nat → Int32) → Option (Int32 × MS)) (x1 : Int32) (x2 : Int32) (x3 : Int32) (x4 : Int32) (x5 : Int32) (I : Nat → Int32) (A : Nat → Nat → Int32) : Option (Int32 × MS) :=
  m_bnd (x5 + (1 : Int32)) (fun v1 =>
  m_bnd ((I 37) + (1 : Int32)) (fun v2 =>
  m_bnd (upd I 37 v2) (fun I3 =>
  self71 x1 x2 x3 x4 v1 I3 A)))

set_option maxRecDepth 100000 in
set_option maxHeartbeats 4000000 in
theorem w_readTag_124 {p : Program} {l : Launch} {e : Env} {s : State} {m : MethodId} {args : Array Value} {below : List Frame} {meth : Method} {c : Code} {Q : State → Prop} {D : va_G} {cy ci : ClassId} {h : Nat → Nat} {A0 : Nat → Prop} {o : Int32 × MS} (X : CallFix p m c cX12_readTag 7 s args wsX12_readTag RX12) (hret : mRi p l e ({ frames := 6, cells := 0, slots := 0, locals := 146 } : Room) s m args below meth c Q cX12_readTag D cy ci h A0 .int o) {self71 : Int32 → Int32 → Int32 → Int32 → Int32 → (Nat → Int32) → (Nat → Nat → Int32) → Option (Int32 × MS)} (hself71 : ∀ (x1 : Int32) (x2 : Int32) (x3 : Int32) (x4 : Int32) (x5 : Int32) (I : Nat → Int32) (A : Nat → Nat → Int32) (H : Heap) (locs : List Loc) (ls : Array Slot), self71 x1 x2 x3 x4 x5 I A = some o → mH D cy ci h A0 s H locs I A → lv_has ls 7 [(0, .ref (h 0)), (1, .int x1), (2, .int x2), (3, .int x3), (4, .int x4), (5, .int x5)] → W p l e ({ frames := 6, cells := 0, slots := 0, locals := 146 } : Room) s m args below meth c H locs 0 0 Q (F0 m 71 ls [])) {x1 : Int32} {x2 : Int32} {x3 : Int32} {x4 : Int32} {x5 : Int32} {I : Nat → Int32} {A : Nat → Nat → Int32} {H : Heap} {locs : List Loc} {ls : Array Slot} (hf : f_readTag_124 self71 x1 x2 x3 x4 x5 I A = some o) (hM : mH D cy ci h A0 s H locs I A) (hl : lv_has ls 7 [(0, .ref (h 0)), (1, .int x1), (2, .int x2), (3, .int x3), (4, .int x4), (5, .int x5)]) : W p l e ({ frames := 6, cells := 0, slots := 0, locals := 146 } : Room) s m args below meth c H locs 0 0 Q (F0 m 124 ls []) := by
  obtain ⟨hx, hb, hml, hown, hts⟩ := id X
  unfold f_readTag_124 at hf
  obtain ⟨v1, ev, hf⟩ := m_bndE hf
  refine lv_iinc (v := v1) (lv' := [(5, .int v1), (0, .ref (h 0)), (1, .int x1), (2, .int x2), (3, .int x3), (4, .int x4)]) hx hb dX12_readTag_124 hl (k := 5) rfl (by rw [ev]; rfl) (by decide) rfl (fun ls hl => ?_)
  clear ev
  refine lv_aload_n hx hb dX12_readTag_127 rfl (lv_at hl 1 rfl) ?_
  refine lv_dup hx hb dX12_readTag_128 rfl ?_
  refine m_get (v := .int (I 37)) X hw_readTag hM 37 (by decide) fl_readTag_37 rfl dX12_readTag_129 ?_
  refine lv_iconst (v := (1 : Int32)) hx hb dX12_readTag_132 (by decide) ?_
  refine lv_iadd hx hb dX12_readTag_133 ?_
  obtain ⟨v2, ev, hf⟩ := m_bndE hf
  refine m_top ev ?_
  clear ev
  refine m_put X hw_readTag hM 37 (by decide) fl_readTag_37 mi_37 rfl (tyX12_ok 37 (by decide)) dX12_readTag_134 (fun H locs hM => ?_)
  obtain ⟨I3, ev, hf⟩ := m_bndE hf
  replace hM := m_hI hM ev
  clear ev
  refine lv_goto (tgt := 71) hx hb dX12_readTag_137 (by decide) ?_
  exact hself71 _ _ _ _ _ _ _ _ _ _ hf hM (lv_sub hl [1, 2, 3, 4, 5, 0] rfl)
def f_readTag_91 (self71 : Int32 → Int32 → Int32 → Int32 → Int32 → (Nat → Int32) → (Nat → Nat → Int32) → Option (Int32 × MS)) (x1 : Int32) (x2 : Int32) (x3 : Int32) (x4 : Int32) (x5 : Int32) (I : Nat → Int32) (A : Nat → Nat → Int32) : Option (Int32 × MS) :=
  m_if ((12 : Int32) ≤ x5) (
  f_readTag_124 self71 x1 x2 x3 x4 x5 I A
  ) (
  m_if (x4 = 0) (
  m_bnd ((96 : Int32) * x1) (fun v1 =>
  m_bnd ((12 : Int32) * x3) (fun v2 =>
  m_bnd (v1 + v2) (fun v3 =>
  m_bnd (v3 + x5) (fun v4 =>
  m_cl (f_look  I A) (fun r5 Ic5 Ac5 =>
  m_chk (¬ (v4 < 0 ∨ 192 ≤ (v4).toNatClampNeg)) (
  m_bnd (va_up Ac5 20 (upd (Ac5 20) (v4).toNatClampNeg (vp_nar .char r5))) (fun A6 =>
  f_readTag_124 self71 x1 x2 x3 x4 x5 Ic5 A6)))))))
  ) (
  f_readTag_124 self71 x1 x2 x3 x4 x5 I A
  )
  )

set_option maxRecDepth 100000 in
set_option maxHeartbeats 4000000 in
theorem w_readTag_91 {p : Program} {l : Launch} {e : Env} {s : State} {m : MethodId} {args : Array Value} {below : List Frame} {meth : Method} {c : Code} {Q : State → Prop} {D : va_G} {cy ci : ClassId} {h : Nat → Nat} {A0 : Nat → Prop} {o : Int32 × MS} (X : CallFix p m c cX12_readTag 7 s args wsX12_readTag RX12) (hret : mRi p l e ({ frames := 6, cells := 0, slots := 0, locals := 146 } : Room) s m args below meth c Q cX12_readTag D cy ci h A0 .int o) {self71 : Int32 → Int32 → Int32 → Int32 → Int32 → (Nat → Int32) → (Nat → Nat → Int32) → Option (Int32 × MS)} (hself71 : ∀ (x1 : Int32) (x2 : Int32) (x3 : Int32) (x4 : Int32) (x5 : Int32) (I : Nat → Int32) (A : Nat → Nat → Int32) (H : Heap) (locs : List Loc) (ls : Array Slot), self71 x1 x2 x3 x4 x5 I A = some o → mH D cy ci h A0 s H locs I A → lv_has ls 7 [(0, .ref (h 0)), (1, .int x1), (2, .int x2), (3, .int x3), (4, .int x4), (5, .int x5)] → W p l e ({ frames := 6, cells := 0, slots := 0, locals := 146 } : Room) s m args below meth c H locs 0 0 Q (F0 m 71 ls [])) {x1 : Int32} {x2 : Int32} {x3 : Int32} {x4 : Int32} {x5 : Int32} {I : Nat → Int32} {A : Nat → Nat → Int32} {H : Heap} {locs : List Loc} {ls : Array Slot} (hf : f_readTag_91 self71 x1 x2 x3 x4 x5 I A = some o) (hM : mH D cy ci h A0 s H locs I A) (hl : lv_has ls 7 [(0, .ref (h 0)), (1, .int x1), (2, .int x2), (3, .int x3), (4, .int x4), (5, .int x5)]) : W p l e ({ frames := 6, cells := 0, slots := 0, locals := 146 } : Room) s m args below meth c H locs 0 0 Q (F0 m 91 ls []) := by
  obtain ⟨hx, hb, hml, hown, hts⟩ := id X
  unfold f_readTag_91 at hf
  refine lv_iload hx hb dX12_readTag_91 (lv_at hl 5 rfl) ?_
  refine lv_bipush (v := (12 : Int32)) hx hb dX12_readTag_93 (by decide) ?_
  refine lv_icmp_ge (tgt := 124) hx hb dX12_readTag_95 (by decide) (fun cc1 => ?_) (fun cc1 => ?_)
  · replace hf := m_ifT hf cc1
    exact w_readTag_124 X hret hself71 hf hM (lv_sub hl [0, 1, 2, 3, 4, 5] rfl)
  · replace hf := m_ifF hf cc1
    refine lv_iload hx hb dX12_readTag_98 (lv_at hl 4 rfl) ?_
    refine lv_if_ne (tgt := 124) hx hb dX12_readTag_100 (by decide) (fun cc1 => ?_) (fun cc1 => ?_)
    · replace hf := m_ifF hf cc1
      exact w_readTag_124 X hret hself71 hf hM (lv_sub hl [0, 1, 2, 3, 4, 5] rfl)
    · replace hf := m_ifT hf cc1
      refine lv_aload_n hx hb dX12_readTag_103 rfl (lv_at hl 0 rfl) ?_
      refine m_get (v := .ref (h 20)) X hw_readTag hM 20 (by decide) fl_readTag_20 rfl dX12_readTag_104 ?_
      refine lv_bipush (v := (96 : Int32)) hx hb dX12_readTag_107 (by decide) ?_
      refine lv_iload_n hx hb dX12_readTag_109 rfl (lv_at hl 1 rfl) ?_
      refine lv_imul hx hb dX12_readTag_110 ?_
      obtain ⟨v1, ev, hf⟩ := m_bndE hf
      refine m_top ev ?_
      clear ev
      refine lv_bipush (v := (12 : Int32)) hx hb dX12_readTag_111 (by decide) ?_
      refine lv_iload_n hx hb dX12_readTag_113 rfl (lv_at hl 3 rfl) ?_
      refine lv_imul hx hb dX12_readTag_114 ?_
      obtain ⟨v2, ev, hf⟩ := m_bndE hf
      refine m_top ev ?_
      clear ev
      refine lv_iadd hx hb dX12_readTag_115 ?_
      obtain ⟨v3, ev, hf⟩ := m_bndE hf
      refine m_top ev ?_
      clear ev
      refine lv_iload hx hb dX12_readTag_116 (lv_at hl 5 rfl) ?_
      refine lv_iadd hx hb dX12_readTag_118 ?_
      obtain ⟨v4, ev, hf⟩ := m_bndE hf
      refine m_top ev ?_
      clear ev
      refine lv_aload_n hx hb dX12_readTag_119 rfl (lv_at hl 0 rfl) ?_
      obtain ⟨o5, ho, hf⟩ := m_clE hf
      refine m_callVi X hM (c_look ho) gX12_readTag_X12_look rfl ⟨rfl, rfl⟩ hd_look ⟨Nat.le_of_ble_eq_true rfl, Nat.le_of_ble_eq_true rfl⟩ rfl hl.1 rfl (Nat.le_of_ble_eq_true rfl) dX12_readTag_120 (fun H locs hM => ?_)
      clear ho
      obtain ⟨cd, hf⟩ := m_chkE hf
      refine m_cast X hM 20 16 192 rfl ma_20 cd dX12_readTag_123 (fun H locs hM => ?_)
      clear cd
      obtain ⟨A6, ev, hf⟩ := m_bndE hf
      replace hM := m_hA hM ev
      clear ev
      exact w_readTag_124 X hret hself71 hf hM (lv_sub hl [0, 1, 2, 3, 4, 5] rfl)
def f_readTag_370 (x2 : Int32) (I : Nat → Int32) (A : Nat → Nat → Int32) : Option (Int32 × MS) :=
  m_cl (f_fault (2 : Int32) x2 I A) (fun r1 Ic1 Ac1 =>
  some (r1, (Ic1, Ac1)))

set_option maxRecDepth 100000 in
set_option maxHeartbeats 4000000 in
theorem w_readTag_370 {p : Program} {l : Launch} {e : Env} {s : State} {m : MethodId} {args : Array Value} {below : List Frame} {meth : Method} {c : Code} {Q : State → Prop} {D : va_G} {cy ci : ClassId} {h : Nat → Nat} {A0 : Nat → Prop} {o : Int32 × MS} (X : CallFix p m c cX12_readTag 7 s args wsX12_readTag RX12) (hret : mRi p l e ({ frames := 6, cells := 0, slots := 0, locals := 146 } : Room) s m args below meth c Q cX12_readTag D cy ci h A0 .int o) {x2 : Int32} {I : Nat → Int32} {A : Nat → Nat → Int32} {H : Heap} {locs : List Loc} {ls : Array Slot} (hf : f_readTag_370 x2 I A = some o) (hM : mH D cy ci h A0 s H locs I A) (hl : lv_has ls 7 [(2, .int x2)]) : W p l e ({ frames := 6, cells := 0, slots := 0, locals := 146 } : Room) s m args below meth c H locs 0 0 Q (F0 m 370 ls []) := by
  obtain ⟨hx, hb, hml, hown, hts⟩ := id X
  unfold f_readTag_370 at hf
  refine lv_iconst (v := (2 : Int32)) hx hb dX12_readTag_370 (by decide) ?_
  refine lv_iload_n hx hb dX12_readTag_371 rfl (lv_at hl 0 rfl) ?_
  obtain ⟨o1, ho, hf⟩ := m_clE hf
  refine m_callSi X hM (c_fault ho) gX12_readTag_X12_fault rfl ⟨rfl, rfl⟩ hd_fault ⟨Nat.le_of_ble_eq_true rfl, Nat.le_of_ble_eq_true rfl⟩ rfl hl.1 rfl (Nat.le_of_ble_eq_true rfl) dX12_readTag_372 (fun H locs hM => ?_)
  clear ho
  cases hf
  exact hret H locs _ ls hM rfl dX12_readTag_375
def f_readTag_457 (x1 : Int32) (I : Nat → Int32) (A : Nat → Nat → Int32) : Option (Int32 × MS) :=
  m_chk (¬ (x1 < 0 ∨ 2 ≤ (x1).toNatClampNeg)) (
  m_bnd (A 18 (x1).toNatClampNeg) (fun v1 =>
  m_bnd (v1 + (1 : Int32)) (fun v2 =>
  m_chk (¬ (x1 < 0 ∨ 2 ≤ (x1).toNatClampNeg)) (
  m_bnd (va_up A 18 (upd (A 18) (x1).toNatClampNeg v2)) (fun A3 =>
  some ((0 : Int32), (I, A3)))))))

set_option maxRecDepth 100000 in
set_option maxHeartbeats 4000000 in
theorem w_readTag_457 {p : Program} {l : Launch} {e : Env} {s : State} {m : MethodId} {args : Array Value} {below : List Frame} {meth : Method} {c : Code} {Q : State → Prop} {D : va_G} {cy ci : ClassId} {h : Nat → Nat} {A0 : Nat → Prop} {o : Int32 × MS} (X : CallFix p m c cX12_readTag 7 s args wsX12_readTag RX12) (hret : mRi p l e ({ frames := 6, cells := 0, slots := 0, locals := 146 } : Room) s m args below meth c Q cX12_readTag D cy ci h A0 .int o) {x1 : Int32} {I : Nat → Int32} {A : Nat → Nat → Int32} {H : Heap} {locs : List Loc} {ls : Array Slot} (hf : f_readTag_457 x1 I A = some o) (hM : mH D cy ci h A0 s H locs I A) (hl : lv_has ls 7 [(0, .ref (h 0)), (1, .int x1)]) : W p l e ({ frames := 6, cells := 0, slots := 0, locals := 146 } : Room) s m args below meth c H locs 0 0 Q (F0 m 457 ls []) := by
  obtain ⟨hx, hb, hml, hown, hts⟩ := id X
  unfold f_readTag_457 at hf
  refine lv_aload_n hx hb dX12_readTag_457 rfl (lv_at hl 0 rfl) ?_
  refine m_get (v := .ref (h 18)) X hw_readTag hM 18 (by decide) fl_readTag_18 rfl dX12_readTag_458 ?_
  refine lv_iload_n hx hb dX12_readTag_461 rfl (lv_at hl 1 rfl) ?_
  refine lv_dup2_11 hx hb dX12_readTag_462 rfl rfl ?_
  obtain ⟨cd, hf⟩ := m_chkE hf
  refine m_iald X hM 18 14 2 rfl cd dX12_readTag_463 ?_
  clear cd
  obtain ⟨v1, ev, hf⟩ := m_bndE hf
  refine m_top ev ?_
  clear ev
  refine lv_iconst (v := (1 : Int32)) hx hb dX12_readTag_464 (by decide) ?_
  refine lv_iadd hx hb dX12_readTag_465 ?_
  obtain ⟨v2, ev, hf⟩ := m_bndE hf
  refine m_top ev ?_
  clear ev
  obtain ⟨cd, hf⟩ := m_chkE hf
  refine m_iast X hM 18 14 2 rfl ma_18 cd dX12_readTag_466 (fun H locs hM => ?_)
  clear cd
  obtain ⟨A3, ev, hf⟩ := m_bndE hf
  replace hM := m_hA hM ev
  clear ev
  refine lv_iconst (v := (0 : Int32)) hx hb dX12_readTag_467 (by decide) ?_
  cases hf
  exact hret H locs _ ls hM rfl dX12_readTag_468
def f_readTag_250 (I : Nat → Int32) (A : Nat → Nat → Int32) : Option (Int32 × MS) :=
  m_cl (f_fault (1 : Int32) (I 37) I A) (fun r1 Ic1 Ac1 =>
  some (r1, (Ic1, Ac1)))

set_option maxRecDepth 100000 in
set_option maxHeartbeats 4000000 in
theorem w_readTag_250 {p : Program} {l : Launch} {e : Env} {s : State} {m : MethodId} {args : Array Value} {below : List Frame} {meth : Method} {c : Code} {Q : State → Prop} {D : va_G} {cy ci : ClassId} {h : Nat → Nat} {A0 : Nat → Prop} {o : Int32 × MS} (X : CallFix p m c cX12_readTag 7 s args wsX12_readTag RX12) (hret : mRi p l e ({ frames := 6, cells := 0, slots := 0, locals := 146 } : Room) s m args below meth c Q cX12_readTag D cy ci h A0 .int o) {I : Nat → Int32} {A : Nat → Nat → Int32} {H : Heap} {locs : List Loc} {ls : Array Slot} (hf : f_readTag_250  I A = some o) (hM : mH D cy ci h A0 s H locs I A) (hl : lv_has ls 7 [(0, .ref (h 0))]) : W p l e ({ frames := 6, cells := 0, slots := 0, locals := 146 } : Room) s m args below meth c H locs 0 0 Q (F0 m 250 ls []) := by
  obtain ⟨hx, hb, hml, hown, hts⟩ := id X
  unfold f_readTag_250 at hf
  refine lv_iconst (v := (1 : Int32)) hx hb dX12_readTag_250 (by decide) ?_
  refine lv_aload_n hx hb dX12_readTag_251 rfl (lv_at hl 0 rfl) ?_
  refine m_get (v := .int (I 37)) X hw_readTag hM 37 (by decide) fl_readTag_37 rfl dX12_readTag_252 ?_
  obtain ⟨o1, ho, hf⟩ := m_clE hf
  refine m_callSi X hM (c_fault ho) gX12_readTag_X12_fault rfl ⟨rfl, rfl⟩ hd_fault ⟨Nat.le_of_ble_eq_true rfl, Nat.le_of_ble_eq_true rfl⟩ rfl hl.1 rfl (Nat.le_of_ble_eq_true rfl) dX12_readTag_255 (fun H locs hM => ?_)
  clear ho
  cases hf
  exact hret H locs _ ls hM rfl dX12_readTag_258
def f_readTag_293 (self175 : Int32 → Int32 → Int32 → Int32 → Int32 → Int32 → (Nat → Int32) → (Nat → Nat → Int32) → Option (Int32 × MS)) (x1 : Int32) (x2 : Int32) (x3 : Int32) (x4 : Int32) (x5 : Int32) (x6 : Int32) (I : Nat → Int32) (A : Nat → Nat → Int32) : Option (Int32 × MS) :=
  m_bnd (x6 + (1 : Int32)) (fun v1 =>
  m_bnd ((I 37) + (1 : Int32)) (fun v2 =>
  m_bnd (upd I 37 v2) (fun I3 =>
  self175 x1 x2 x3 x4 x5 v1 I3 A)))

set_option maxRecDepth 100000 in
set_option maxHeartbeats 4000000 in
theorem w_readTag_293 {p : Program} {l : Launch} {e : Env} {s : State} {m : MethodId} {args : Array Value} {below : List Frame} {meth : Method} {c : Code} {Q : State → Prop} {D : va_G} {cy ci : ClassId} {h : Nat → Nat} {A0 : Nat → Prop} {o : Int32 × MS} (X : CallFix p m c cX12_readTag 7 s args wsX12_readTag RX12) (hret : mRi p l e ({ frames := 6, cells := 0, slots := 0, locals := 146 } : Room) s m args below meth c Q cX12_readTag D cy ci h A0 .int o) {self175 : Int32 → Int32 → Int32 → Int32 → Int32 → Int32 → (Nat → Int32) → (Nat → Nat → Int32) → Option (Int32 × MS)} (hself175 : ∀ (x1 : Int32) (x2 : Int32) (x3 : Int32) (x4 : Int32) (x5 : Int32) (x6 : Int32) (I : Nat → Int32) (A : Nat → Nat → Int32) (H : Heap) (locs : List Loc) (ls : Array Slot), self175 x1 x2 x3 x4 x5 x6 I A = some o → mH D cy ci h A0 s H locs I A → lv_has ls 7 [(0, .ref (h 0)), (1, .int x1), (2, .int x2), (3, .int x3), (4, .int x4), (5, .int x5), (6, .int x6)] → W p l e ({ frames := 6, cells := 0, slots := 0, locals := 146 } : Room) s m args below meth c H locs 0 0 Q (F0 m 175 ls [])) {x1 : Int32} {x2 : Int32} {x3 : Int32} {x4 : Int32} {x5 : Int32} {x6 : Int32} {I : Nat → Int32} {A : Nat → Nat → Int32} {H : Heap} {locs : List Loc} {ls : Array Slot} (hf : f_readTag_293 self175 x1 x2 x3 x4 x5 x6 I A = some o) (hM : mH D cy ci h A0 s H locs I A) (hl : lv_has ls 7 [(0, .ref (h 0)), (1, .int x1), (2, .int x2), (3, .int x3), (4, .int x4), (5, .int x5), (6, .int x6)]) : W p l e ({ frames := 6, cells := 0, slots := 0, locals := 146 } : Room) s m args below meth c H locs 0 0 Q (F0 m 293 ls []) := by
  obtain ⟨hx, hb, hml, hown, hts⟩ := id X
  unfold f_readTag_293 at hf
  obtain ⟨v1, ev, hf⟩ := m_bndE hf
  refine lv_iinc (v := v1) (lv' := [(6, .int v1), (0, .ref (h 0)), (1, .int x1), (2, .int x2), (3, .int x3), (4, .int x4), (5, .int x5)]) hx hb dX12_readTag_293 hl (k := 6) rfl (by rw [ev]; rfl) (by decide) rfl (fun ls hl => ?_)
  clear ev
  refine lv_aload_n hx hb dX12_readTag_296 rfl (lv_at hl 1 rfl) ?_
  refine lv_dup hx hb dX12_readTag_297 rfl ?_
  refine m_get (v := .int (I 37)) X hw_readTag hM 37 (by decide) fl_readTag_37 rfl dX12_readTag_298 ?_
  refine lv_iconst (v := (1 : Int32)) hx hb dX12_readTag_301 (by decide) ?_
  refine lv_iadd hx hb dX12_readTag_302 ?_
  obtain ⟨v2, ev, hf⟩ := m_bndE hf
  refine m_top ev ?_
  clear ev
  refine m_put X hw_readTag hM 37 (by decide) fl_readTag_37 mi_37 rfl (tyX12_ok 37 (by decide)) dX12_readTag_303 (fun H locs hM => ?_)
  obtain ⟨I3, ev, hf⟩ := m_bndE hf
  replace hM := m_hI hM ev
  clear ev
  refine lv_goto (tgt := 175) hx hb dX12_readTag_306 (by decide) ?_
  exact hself175 _ _ _ _ _ _ _ _ _ _ _ hf hM (lv_sub hl [1, 2, 3, 4, 5, 6, 0] rfl)
def f_readTag_230 (self175 : Int32 → Int32 → Int32 → Int32 → Int32 → Int32 → (Nat → Int32) → (Nat → Nat → Int32) → Option (Int32 × MS)) (x1 : Int32) (x2 : Int32) (x3 : Int32) (x4 : Int32) (x5 : Int32) (x6 : Int32) (I : Nat → Int32) (A : Nat → Nat → Int32) : Option (Int32 × MS) :=
  m_if ((I 37) = (I 1)) (
  f_readTag_250  I A
  ) (
  m_cl (f_look  I A) (fun r1 Ic1 Ac1 =>
  m_if (r1 = (10 : Int32)) (
  f_readTag_250  Ic1 Ac1
  ) (
  m_if ((96 : Int32) ≤ x6) (
  f_readTag_293 self175 x1 x2 x3 x4 x5 x6 Ic1 Ac1
  ) (
  m_if (x4 = 0) (
  m_bnd ((768 : Int32) * x1) (fun v2 =>
  m_bnd ((96 : Int32) * x3) (fun v3 =>
  m_bnd (v2 + v3) (fun v4 =>
  m_bnd (v4 + x6) (fun v5 =>
  m_cl (f_look  Ic1 Ac1) (fun r6 Ic6 Ac6 =>
  m_chk (¬ (v5 < 0 ∨ 1536 ≤ (v5).toNatClampNeg)) (
  m_bnd (va_up Ac6 22 (upd (Ac6 22) (v5).toNatClampNeg (vp_nar .char r6))) (fun A7 =>
  f_readTag_293 self175 x1 x2 x3 x4 x5 x6 Ic6 A7)))))))
  ) (
  f_readTag_293 self175 x1 x2 x3 x4 x5 x6 Ic1 Ac1
  )
  )
  ))
  )

set_option maxRecDepth 100000 in
set_option maxHeartbeats 4000000 in
theorem w_readTag_230 {p : Program} {l : Launch} {e : Env} {s : State} {m : MethodId} {args : Array Value} {below : List Frame} {meth : Method} {c : Code} {Q : State → Prop} {D : va_G} {cy ci : ClassId} {h : Nat → Nat} {A0 : Nat → Prop} {o : Int32 × MS} (X : CallFix p m c cX12_readTag 7 s args wsX12_readTag RX12) (hret : mRi p l e ({ frames := 6, cells := 0, slots := 0, locals := 146 } : Room) s m args below meth c Q cX12_readTag D cy ci h A0 .int o) {self175 : Int32 → Int32 → Int32 → Int32 → Int32 → Int32 → (Nat → Int32) → (Nat → Nat → Int32) → Option (Int32 × MS)} (hself175 : ∀ (x1 : Int32) (x2 : Int32) (x3 : Int32) (x4 : Int32) (x5 : Int32) (x6 : Int32) (I : Nat → Int32) (A : Nat → Nat → Int32) (H : Heap) (locs : List Loc) (ls : Array Slot), self175 x1 x2 x3 x4 x5 x6 I A = some o → mH D cy ci h A0 s H locs I A → lv_has ls 7 [(0, .ref (h 0)), (1, .int x1), (2, .int x2), (3, .int x3), (4, .int x4), (5, .int x5), (6, .int x6)] → W p l e ({ frames := 6, cells := 0, slots := 0, locals := 146 } : Room) s m args below meth c H locs 0 0 Q (F0 m 175 ls [])) {x1 : Int32} {x2 : Int32} {x3 : Int32} {x4 : Int32} {x5 : Int32} {x6 : Int32} {I : Nat → Int32} {A : Nat → Nat → Int32} {H : Heap} {locs : List Loc} {ls : Array Slot} (hf : f_readTag_230 self175 x1 x2 x3 x4 x5 x6 I A = some o) (hM : mH D cy ci h A0 s H locs I A) (hl : lv_has ls 7 [(0, .ref (h 0)), (1, .int x1), (2, .int x2), (3, .int x3), (4, .int x4), (5, .int x5), (6, .int x6)]) : W p l e ({ frames := 6, cells := 0, slots := 0, locals := 146 } : Room) s m args below meth c H locs 0 0 Q (F0 m 230 ls []) := by
  obtain ⟨hx, hb, hml, hown, hts⟩ := id X
  unfold f_readTag_230 at hf
  refine lv_aload_n hx hb dX12_readTag_230 rfl (lv_at hl 0 rfl) ?_
  refine m_get (v := .int (I 37)) X hw_readTag hM 37 (by decide) fl_readTag_37 rfl dX12_readTag_231 ?_
  refine lv_aload_n hx hb dX12_readTag_234 rfl (lv_at hl 0 rfl) ?_
  refine m_get (v := .int (I 1)) X hw_readTag hM 1 (by decide) fl_readTag_1 rfl dX12_readTag_235 ?_
  refine lv_icmp_eq (tgt := 250) hx hb dX12_readTag_238 (by decide) (fun cc1 => ?_) (fun cc1 => ?_)
  · replace hf := m_ifT hf cc1
    exact w_readTag_250 X hret hf hM (lv_sub hl [0] rfl)
  · replace hf := m_ifF hf cc1
    refine lv_aload_n hx hb dX12_readTag_241 rfl (lv_at hl 0 rfl) ?_
    obtain ⟨o1, ho, hf⟩ := m_clE hf
    refine m_callVi X hM (c_look ho) gX12_readTag_X12_look rfl ⟨rfl, rfl⟩ hd_look ⟨Nat.le_of_ble_eq_true rfl, Nat.le_of_ble_eq_true rfl⟩ rfl hl.1 rfl (Nat.le_of_ble_eq_true rfl) dX12_readTag_242 (fun H locs hM => ?_)
    clear ho
    refine lv_bipush (v := (10 : Int32)) hx hb dX12_readTag_245 (by decide) ?_
    refine lv_icmp_ne (tgt := 259) hx hb dX12_readTag_247 (by decide) (fun cc1 => ?_) (fun cc1 => ?_)
    · replace hf := m_ifF hf cc1
      refine lv_iload hx hb dX12_readTag_259 (lv_at hl 6 rfl) ?_
      refine lv_bipush (v := (96 : Int32)) hx hb dX12_readTag_261 (by decide) ?_
      refine lv_icmp_ge (tgt := 293) hx hb dX12_readTag_263 (by decide) (fun cc1 => ?_) (fun cc1 => ?_)
      · replace hf := m_ifT hf cc1
        exact w_readTag_293 X hret hself175 hf hM (lv_sub hl [0, 1, 2, 3, 4, 5, 6] rfl)
      · replace hf := m_ifF hf cc1
        refine lv_iload hx hb dX12_readTag_266 (lv_at hl 4 rfl) ?_
        refine lv_if_ne (tgt := 293) hx hb dX12_readTag_268 (by decide) (fun cc1 => ?_) (fun cc1 => ?_)
        · replace hf := m_ifF hf cc1
          exact w_readTag_293 X hret hself175 hf hM (lv_sub hl [0, 1, 2, 3, 4, 5, 6] rfl)
        · replace hf := m_ifT hf cc1
          refine lv_aload_n hx hb dX12_readTag_271 rfl (lv_at hl 0 rfl) ?_
          refine m_get (v := .ref (h 22)) X hw_readTag hM 22 (by decide) fl_readTag_22 rfl dX12_readTag_272 ?_
          refine lv_sipush (v := (768 : Int32)) hx hb dX12_readTag_275 (by decide) ?_
          refine lv_iload_n hx hb dX12_readTag_278 rfl (lv_at hl 1 rfl) ?_
          refine lv_imul hx hb dX12_readTag_279 ?_
          obtain ⟨v2, ev, hf⟩ := m_bndE hf
          refine m_top ev ?_
          clear ev
          refine lv_bipush (v := (96 : Int32)) hx hb dX12_readTag_280 (by decide) ?_
          refine lv_iload_n hx hb dX12_readTag_282 rfl (lv_at hl 3 rfl) ?_
          refine lv_imul hx hb dX12_readTag_283 ?_
          obtain ⟨v3, ev, hf⟩ := m_bndE hf
          refine m_top ev ?_
          clear ev
          refine lv_iadd hx hb dX12_readTag_284 ?_
          obtain ⟨v4, ev, hf⟩ := m_bndE hf
          refine m_top ev ?_
          clear ev
          refine lv_iload hx hb dX12_readTag_285 (lv_at hl 6 rfl) ?_
          refine lv_iadd hx hb dX12_readTag_287 ?_
          obtain ⟨v5, ev, hf⟩ := m_bndE hf
          refine m_top ev ?_
          clear ev
          refine lv_aload_n hx hb dX12_readTag_288 rfl (lv_at hl 0 rfl) ?_
          obtain ⟨o6, ho, hf⟩ := m_clE hf
          refine m_callVi X hM (c_look ho) gX12_readTag_X12_look rfl ⟨rfl, rfl⟩ hd_look ⟨Nat.le_of_ble_eq_true rfl, Nat.le_of_ble_eq_true rfl⟩ rfl hl.1 rfl (Nat.le_of_ble_eq_true rfl) dX12_readTag_289 (fun H locs hM => ?_)
          clear ho
          obtain ⟨cd, hf⟩ := m_chkE hf
          refine m_cast X hM 22 18 1536 rfl ma_22 cd dX12_readTag_292 (fun H locs hM => ?_)
          clear cd
          obtain ⟨A7, ev, hf⟩ := m_bndE hf
          replace hM := m_hA hM ev
          clear ev
          exact w_readTag_293 X hret hself175 hf hM (lv_sub hl [0, 1, 2, 3, 4, 5, 6] rfl)
    · replace hf := m_ifT hf cc1
      exact w_readTag_250 X hret hf hM (lv_sub hl [0] rfl)
def f_readTag_175s (self175 : Int32 → Int32 → Int32 → Int32 → Int32 → Int32 → (Nat → Int32) → (Nat → Nat → Int32) → Option (Int32 × MS)) (x1 : Int32) (x2 : Int32) (x3 : Int32) (x4 : Int32) (x5 : Int32) (x6 : Int32) (I : Nat → Int32) (A : Nat → Nat → Int32) : Option (Int32 × MS) :=
  m_cl (f_look  I A) (fun r1 Ic1 Ac1 =>
  m_if (r1 = (34 : Int32)) (
  m_bnd ((Ic1 37) + (1 : Int32)) (fun v2 =>
  m_bnd (upd Ic1 37 v2) (fun I3 =>
  m_cl (f_blanks  I3 Ac1) (fun r4 Ic4 Ac4 =>
  m_cl (f_look  Ic4 Ac4) (fun r5 Ic5 Ac5 =>
  m_if (r5 = (93 : Int32)) (
  m_bnd ((Ic5 37) + (1 : Int32)) (fun v6 =>
  m_bnd (upd Ic5 37 v6) (fun I7 =>
  m_if (x4 = 0) (
  m_if ((12 : Int32) < x5) (
  f_readTag_370 x2 I7 Ac5
  ) (
  m_if (x6 ≤ (96 : Int32)) (
  m_bnd ((8 : Int32) * x1) (fun v8 =>
  m_bnd (v8 + x3) (fun v9 =>
  m_chk (¬ (v9 < 0 ∨ 16 ≤ (v9).toNatClampNeg)) (
  m_bnd (va_up Ac5 19 (upd (Ac5 19) (v9).toNatClampNeg x5)) (fun A10 =>
  m_bnd ((8 : Int32) * x1) (fun v11 =>
  m_bnd (v11 + x3) (fun v12 =>
  m_chk (¬ (v12 < 0 ∨ 16 ≤ (v12).toNatClampNeg)) (
  m_bnd (va_up A10 21 (upd (A10 21) (v12).toNatClampNeg x6)) (fun A13 =>
  m_cl (f_isNameThere x1 x3 I7 A13) (fun r14 Ic14 Ac14 =>
  m_if (r14 = 0) (
  m_cl (f_isTag x3 x1 (0 : Int32) Ic14 Ac14) (fun r15 Ic15 Ac15 =>
  m_if (r15 = 0) (
  f_readTag_457 x1 Ic15 Ac15
  ) (
  m_bnd ((768 : Int32) * x1) (fun v16 =>
  m_bnd ((96 : Int32) * x3) (fun v17 =>
  m_bnd (v16 + v17) (fun v18 =>
  m_cl (f_readPosition v18 x6 Ic15 Ac15) (fun r19 Ic19 Ac19 =>
  m_if (r19 = 0) (
  m_cl (f_fault (3 : Int32) x2 Ic19 Ac19) (fun r21 Ic21 Ac21 =>
  some (r21, (Ic21, Ac21)))
  ) (
  m_cl (f_start x1 Ic19 Ac19) (fun r20 Ic20 Ac20 =>
  f_readTag_457 x1 Ic20 Ac20)
  )))))
  ))
  ) (
  m_cl (f_fault (2 : Int32) x2 Ic14 Ac14) (fun r22 Ic22 Ac22 =>
  some (r22, (Ic22, Ac22)))
  ))))))))))
  ) (
  f_readTag_370 x2 I7 Ac5
  )
  )
  ) (
  f_readTag_370 x2 I7 Ac5
  )))
  ) (
  m_cl (f_fault (1 : Int32) (Ic5 37) Ic5 Ac5) (fun r23 Ic23 Ac23 =>
  some (r23, (Ic23, Ac23)))
  )))))
  ) (
  m_cl (f_look  Ic1 Ac1) (fun r24 Ic24 Ac24 =>
  m_if (r24 = (92 : Int32)) (
  m_bnd ((Ic24 37) + (1 : Int32)) (fun v25 =>
  m_bnd (upd Ic24 37 v25) (fun I26 =>
  m_cl (f_look  I26 Ac24) (fun r27 Ic27 Ac27 =>
  m_if (r27 = (34 : Int32)) (
  f_readTag_230 self175 x1 x2 x3 x4 x5 x6 Ic27 Ac27
  ) (
  m_cl (f_look  Ic27 Ac27) (fun r28 Ic28 Ac28 =>
  m_if (r28 = (92 : Int32)) (
  f_readTag_230 self175 x1 x2 x3 x4 x5 x6 Ic28 Ac28
  ) (
  m_cl (f_fault (1 : Int32) (Ic28 37) Ic28 Ac28) (fun r29 Ic29 Ac29 =>
  some (r29, (Ic29, Ac29)))
  ))
  ))))
  ) (
  f_readTag_230 self175 x1 x2 x3 x4 x5 x6 Ic24 Ac24
  ))
  ))

set_option maxRecDepth 100000 in
set_option maxHeartbeats 4000000 in
theorem ws_readTag_175 {p : Program} {l : Launch} {e : Env} {s : State} {m : MethodId} {args : Array Value} {below : List Frame} {meth : Method} {c : Code} {Q : State → Prop} {D : va_G} {cy ci : ClassId} {h : Nat → Nat} {A0 : Nat → Prop} {o : Int32 × MS} (X : CallFix p m c cX12_readTag 7 s args wsX12_readTag RX12) (hret : mRi p l e ({ frames := 6, cells := 0, slots := 0, locals := 146 } : Room) s m args below meth c Q cX12_readTag D cy ci h A0 .int o) {self175 : Int32 → Int32 → Int32 → Int32 → Int32 → Int32 → (Nat → Int32) → (Nat → Nat → Int32) → Option (Int32 × MS)} (hself175 : ∀ (x1 : Int32) (x2 : Int32) (x3 : Int32) (x4 : Int32) (x5 : Int32) (x6 : Int32) (I : Nat → Int32) (A : Nat → Nat → Int32) (H : Heap) (locs : List Loc) (ls : Array Slot), self175 x1 x2 x3 x4 x5 x6 I A = some o → mH D cy ci h A0 s H locs I A → lv_has ls 7 [(0, .ref (h 0)), (1, .int x1), (2, .int x2), (3, .int x3), (4, .int x4), (5, .int x5), (6, .int x6)] → W p l e ({ frames := 6, cells := 0, slots := 0, locals := 146 } : Room) s m args below meth c H locs 0 0 Q (F0 m 175 ls [])) {x1 : Int32} {x2 : Int32} {x3 : Int32} {x4 : Int32} {x5 : Int32} {x6 : Int32} {I : Nat → Int32} {A : Nat → Nat → Int32} {H : Heap} {locs : List Loc} {ls : Array Slot} (hf : f_readTag_175s self175 x1 x2 x3 x4 x5 x6 I A = some o) (hM : mH D cy ci h A0 s H locs I A) (hl : lv_has ls 7 [(0, .ref (h 0)), (1, .int x1), (2, .int x2), (3, .int x3), (4, .int x4), (5, .int x5), (6, .int x6)]) : W p l e ({ frames := 6, cells := 0, slots := 0, locals := 146 } : Room) s m args below meth c H locs 0 0 Q (F0 m 175 ls []) := by
  obtain ⟨hx, hb, hml, hown, hts⟩ := id X
  unfold f_readTag_175s at hf
  refine lv_aload_n hx hb dX12_readTag_175 rfl (lv_at hl 0 rfl) ?_
  obtain ⟨o1, ho, hf⟩ := m_clE hf
  refine m_callVi X hM (c_look ho) gX12_readTag_X12_look rfl ⟨rfl, rfl⟩ hd_look ⟨Nat.le_of_ble_eq_true rfl, Nat.le_of_ble_eq_true rfl⟩ rfl hl.1 rfl (Nat.le_of_ble_eq_true rfl) dX12_readTag_176 (fun H locs hM => ?_)
  clear ho
  refine lv_bipush (v := (34 : Int32)) hx hb dX12_readTag_179 (by decide) ?_
  refine lv_icmp_eq (tgt := 309) hx hb dX12_readTag_181 (by decide) (fun cc1 => ?_) (fun cc1 => ?_)
  · replace hf := m_ifT hf cc1
    refine lv_aload_n hx hb dX12_readTag_309 rfl (lv_at hl 0 rfl) ?_
    refine lv_dup hx hb dX12_readTag_310 rfl ?_
    refine m_get (v := .int (o1.2.1 37)) X hw_readTag hM 37 (by decide) fl_readTag_37 rfl dX12_readTag_311 ?_
    refine lv_iconst (v := (1 : Int32)) hx hb dX12_readTag_314 (by decide) ?_
    refine lv_iadd hx hb dX12_readTag_315 ?_
    obtain ⟨v2, ev, hf⟩ := m_bndE hf
    refine m_top ev ?_
    clear ev
    refine m_put X hw_readTag hM 37 (by decide) fl_readTag_37 mi_37 rfl (tyX12_ok 37 (by decide)) dX12_readTag_316 (fun H locs hM => ?_)
    obtain ⟨I3, ev, hf⟩ := m_bndE hf
    replace hM := m_hI hM ev
    clear ev
    refine lv_aload_n hx hb dX12_readTag_319 rfl (lv_at hl 0 rfl) ?_
    obtain ⟨o4, ho, hf⟩ := m_clE hf
    refine m_callVv X hM (c_blanks ho) gX12_readTag_X12_blanks rfl ⟨rfl, rfl⟩ hd_blanks ⟨Nat.le_of_ble_eq_true rfl, Nat.le_of_ble_eq_true rfl⟩ rfl hl.1 rfl (Nat.le_of_ble_eq_true rfl) dX12_readTag_320 (fun H locs hM => ?_)
    clear ho
    refine lv_aload_n hx hb dX12_readTag_323 rfl (lv_at hl 0 rfl) ?_
    obtain ⟨o5, ho, hf⟩ := m_clE hf
    refine m_callVi X hM (c_look ho) gX12_readTag_X12_look rfl ⟨rfl, rfl⟩ hd_look ⟨Nat.le_of_ble_eq_true rfl, Nat.le_of_ble_eq_true rfl⟩ rfl hl.1 rfl (Nat.le_of_ble_eq_true rfl) dX12_readTag_324 (fun H locs hM => ?_)
    clear ho
    refine lv_bipush (v := (93 : Int32)) hx hb dX12_readTag_327 (by decide) ?_
    refine lv_icmp_eq (tgt := 341) hx hb dX12_readTag_329 (by decide) (fun cc1 => ?_) (fun cc1 => ?_)
    · replace hf := m_ifT hf cc1
      refine lv_aload_n hx hb dX12_readTag_341 rfl (lv_at hl 0 rfl) ?_
      refine lv_dup hx hb dX12_readTag_342 rfl ?_
      refine m_get (v := .int (o5.2.1 37)) X hw_readTag hM 37 (by decide) fl_readTag_37 rfl dX12_readTag_343 ?_
      refine lv_iconst (v := (1 : Int32)) hx hb dX12_readTag_346 (by decide) ?_
      refine lv_iadd hx hb dX12_readTag_347 ?_
      obtain ⟨v6, ev, hf⟩ := m_bndE hf
      refine m_top ev ?_
      clear ev
      refine m_put X hw_readTag hM 37 (by decide) fl_readTag_37 mi_37 rfl (tyX12_ok 37 (by decide)) dX12_readTag_348 (fun H locs hM => ?_)
      obtain ⟨I7, ev, hf⟩ := m_bndE hf
      replace hM := m_hI hM ev
      clear ev
      refine lv_iload hx hb dX12_readTag_351 (lv_at hl 4 rfl) ?_
      refine lv_if_ne (tgt := 370) hx hb dX12_readTag_353 (by decide) (fun cc1 => ?_) (fun cc1 => ?_)
      · replace hf := m_ifF hf cc1
        exact w_readTag_370 X hret hf hM (lv_sub hl [2] rfl)
      · replace hf := m_ifT hf cc1
        refine lv_iload hx hb dX12_readTag_356 (lv_at hl 5 rfl) ?_
        refine lv_bipush (v := (12 : Int32)) hx hb dX12_readTag_358 (by decide) ?_
        refine lv_icmp_gt (tgt := 370) hx hb dX12_readTag_360 (by decide) (fun cc1 => ?_) (fun cc1 => ?_)
        · replace hf := m_ifT hf cc1
          exact w_readTag_370 X hret hf hM (lv_sub hl [2] rfl)
        · replace hf := m_ifF hf cc1
          refine lv_iload hx hb dX12_readTag_363 (lv_at hl 6 rfl) ?_
          refine lv_bipush (v := (96 : Int32)) hx hb dX12_readTag_365 (by decide) ?_
          refine lv_icmp_le (tgt := 376) hx hb dX12_readTag_367 (by decide) (fun cc1 => ?_) (fun cc1 => ?_)
          · replace hf := m_ifT hf cc1
            refine lv_aload_n hx hb dX12_readTag_376 rfl (lv_at hl 0 rfl) ?_
            refine m_get (v := .ref (h 19)) X hw_readTag hM 19 (by decide) fl_readTag_19 rfl dX12_readTag_377 ?_
            refine lv_bipush (v := (8 : Int32)) hx hb dX12_readTag_380 (by decide) ?_
            refine lv_iload_n hx hb dX12_readTag_382 rfl (lv_at hl 1 rfl) ?_
            refine lv_imul hx hb dX12_readTag_383 ?_
            obtain ⟨v8, ev, hf⟩ := m_bndE hf
            refine m_top ev ?_
            clear ev
            refine lv_iload_n hx hb dX12_readTag_384 rfl (lv_at hl 3 rfl) ?_
            refine lv_iadd hx hb dX12_readTag_385 ?_
            obtain ⟨v9, ev, hf⟩ := m_bndE hf
            refine m_top ev ?_
            clear ev
            refine lv_iload hx hb dX12_readTag_386 (lv_at hl 5 rfl) ?_
            obtain ⟨cd, hf⟩ := m_chkE hf
            refine m_iast X hM 19 15 16 rfl ma_19 cd dX12_readTag_388 (fun H locs hM => ?_)
            clear cd
            obtain ⟨A10, ev, hf⟩ := m_bndE hf
            replace hM := m_hA hM ev
            clear ev
            refine lv_aload_n hx hb dX12_readTag_389 rfl (lv_at hl 0 rfl) ?_
            refine m_get (v := .ref (h 21)) X hw_readTag hM 21 (by decide) fl_readTag_21 rfl dX12_readTag_390 ?_
            refine lv_bipush (v := (8 : Int32)) hx hb dX12_readTag_393 (by decide) ?_
            refine lv_iload_n hx hb dX12_readTag_395 rfl (lv_at hl 1 rfl) ?_
            refine lv_imul hx hb dX12_readTag_396 ?_
            obtain ⟨v11, ev, hf⟩ := m_bndE hf
            refine m_top ev ?_
            clear ev
            refine lv_iload_n hx hb dX12_readTag_397 rfl (lv_at hl 3 rfl) ?_
            refine lv_iadd hx hb dX12_readTag_398 ?_
            obtain ⟨v12, ev, hf⟩ := m_bndE hf
            refine m_top ev ?_
            clear ev
            refine lv_iload hx hb dX12_readTag_399 (lv_at hl 6 rfl) ?_
            obtain ⟨cd, hf⟩ := m_chkE hf
            refine m_iast X hM 21 17 16 rfl ma_21 cd dX12_readTag_401 (fun H locs hM => ?_)
            clear cd
            obtain ⟨A13, ev, hf⟩ := m_bndE hf
            replace hM := m_hA hM ev
            clear ev
            refine lv_aload_n hx hb dX12_readTag_402 rfl (lv_at hl 0 rfl) ?_
            refine lv_iload_n hx hb dX12_readTag_403 rfl (lv_at hl 1 rfl) ?_
            refine lv_iload_n hx hb dX12_readTag_404 rfl (lv_at hl 3 rfl) ?_
            obtain ⟨o14, ho, hf⟩ := m_clE hf
            refine m_callVi X hM (c_isNameThere ho) gX12_readTag_X12_isNameThere rfl ⟨rfl, rfl⟩ hd_isNameThere ⟨Nat.le_of_ble_eq_true rfl, Nat.le_of_ble_eq_true rfl⟩ rfl hl.1 rfl (Nat.le_of_ble_eq_true rfl) dX12_readTag_405 (fun H locs hM => ?_)
            clear ho
            refine lv_if_eq (tgt := 417) hx hb dX12_readTag_408 (by decide) (fun cc1 => ?_) (fun cc1 => ?_)
            · replace hf := m_ifT hf cc1
              refine lv_aload_n hx hb dX12_readTag_417 rfl (lv_at hl 0 rfl) ?_
              refine lv_iload_n hx hb dX12_readTag_418 rfl (lv_at hl 3 rfl) ?_
              refine lv_iload_n hx hb dX12_readTag_419 rfl (lv_at hl 1 rfl) ?_
              refine lv_iconst (v := (0 : Int32)) hx hb dX12_readTag_420 (by decide) ?_
              obtain ⟨o15, ho, hf⟩ := m_clE hf
              refine m_callVi X hM (c_isTag ho) gX12_readTag_X12_isTag rfl ⟨rfl, rfl⟩ hd_isTag ⟨Nat.le_of_ble_eq_true rfl, Nat.le_of_ble_eq_true rfl⟩ rfl hl.1 rfl (Nat.le_of_ble_eq_true rfl) dX12_readTag_421 (fun H locs hM => ?_)
              clear ho
              refine lv_if_eq (tgt := 457) hx hb dX12_readTag_424 (by decide) (fun cc1 => ?_) (fun cc1 => ?_)
              · replace hf := m_ifT hf cc1
                exact w_readTag_457 X hret hf hM (lv_sub hl [0, 1] rfl)
              · replace hf := m_ifF hf cc1
                refine lv_aload_n hx hb dX12_readTag_427 rfl (lv_at hl 0 rfl) ?_
                refine lv_sipush (v := (768 : Int32)) hx hb dX12_readTag_428 (by decide) ?_
                refine lv_iload_n hx hb dX12_readTag_431 rfl (lv_at hl 1 rfl) ?_
                refine lv_imul hx hb dX12_readTag_432 ?_
                obtain ⟨v16, ev, hf⟩ := m_bndE hf
                refine m_top ev ?_
                clear ev
                refine lv_bipush (v := (96 : Int32)) hx hb dX12_readTag_433 (by decide) ?_
                refine lv_iload_n hx hb dX12_readTag_435 rfl (lv_at hl 3 rfl) ?_
                refine lv_imul hx hb dX12_readTag_436 ?_
                obtain ⟨v17, ev, hf⟩ := m_bndE hf
                refine m_top ev ?_
                clear ev
                refine lv_iadd hx hb dX12_readTag_437 ?_
                obtain ⟨v18, ev, hf⟩ := m_bndE hf
                refine m_top ev ?_
                clear ev
                refine lv_iload hx hb dX12_readTag_438 (lv_at hl 6 rfl) ?_
                obtain ⟨o19, ho, hf⟩ := m_clE hf
                refine m_callVi X hM (c_readPosition ho) gX12_readTag_X12_readPosition rfl ⟨rfl, rfl⟩ hd_readPosition ⟨Nat.le_of_ble_eq_true rfl, Nat.le_of_ble_eq_true rfl⟩ rfl hl.1 rfl (Nat.le_of_ble_eq_true rfl) dX12_readTag_440 (fun H locs hM => ?_)
                clear ho
                refine lv_if_ne (tgt := 452) hx hb dX12_readTag_443 (by decide) (fun cc1 => ?_) (fun cc1 => ?_)
                · replace hf := m_ifF hf cc1
                  refine lv_aload_n hx hb dX12_readTag_452 rfl (lv_at hl 0 rfl) ?_
                  refine lv_iload_n hx hb dX12_readTag_453 rfl (lv_at hl 1 rfl) ?_
                  obtain ⟨o20, ho, hf⟩ := m_clE hf
                  refine m_callVv X hM (c_start ho) gX12_readTag_X12_start rfl ⟨rfl, rfl⟩ hd_start ⟨Nat.le_of_ble_eq_true rfl, Nat.le_of_ble_eq_true rfl⟩ rfl hl.1 rfl (Nat.le_of_ble_eq_true rfl) dX12_readTag_454 (fun H locs hM => ?_)
                  clear ho
                  exact w_readTag_457 X hret hf hM (lv_sub hl [0, 1] rfl)
                · replace hf := m_ifT hf cc1
                  refine lv_iconst (v := (3 : Int32)) hx hb dX12_readTag_446 (by decide) ?_
                  refine lv_iload_n hx hb dX12_readTag_447 rfl (lv_at hl 2 rfl) ?_
                  obtain ⟨o21, ho, hf⟩ := m_clE hf
                  refine m_callSi X hM (c_fault ho) gX12_readTag_X12_fault rfl ⟨rfl, rfl⟩ hd_fault ⟨Nat.le_of_ble_eq_true rfl, Nat.le_of_ble_eq_true rfl⟩ rfl hl.1 rfl (Nat.le_of_ble_eq_true rfl) dX12_readTag_448 (fun H locs hM => ?_)
                  clear ho
                  cases hf
                  exact hret H locs _ ls hM rfl dX12_readTag_451
            · replace hf := m_ifF hf cc1
              refine lv_iconst (v := (2 : Int32)) hx hb dX12_readTag_411 (by decide) ?_
              refine lv_iload_n hx hb dX12_readTag_412 rfl (lv_at hl 2 rfl) ?_
              obtain ⟨o22, ho, hf⟩ := m_clE hf
              refine m_callSi X hM (c_fault ho) gX12_readTag_X12_fault rfl ⟨rfl, rfl⟩ hd_fault ⟨Nat.le_of_ble_eq_true rfl, Nat.le_of_ble_eq_true rfl⟩ rfl hl.1 rfl (Nat.le_of_ble_eq_true rfl) dX12_readTag_413 (fun H locs hM => ?_)
              clear ho
              cases hf
              exact hret H locs _ ls hM rfl dX12_readTag_416
          · replace hf := m_ifF hf cc1
            exact w_readTag_370 X hret hf hM (lv_sub hl [2] rfl)
    · replace hf := m_ifF hf cc1
      refine lv_iconst (v := (1 : Int32)) hx hb dX12_readTag_332 (by decide) ?_
      refine lv_aload_n hx hb dX12_readTag_333 rfl (lv_at hl 0 rfl) ?_
      refine m_get (v := .int (o5.2.1 37)) X hw_readTag hM 37 (by decide) fl_readTag_37 rfl dX12_readTag_334 ?_
      obtain ⟨o23, ho, hf⟩ := m_clE hf
      refine m_callSi X hM (c_fault ho) gX12_readTag_X12_fault rfl ⟨rfl, rfl⟩ hd_fault ⟨Nat.le_of_ble_eq_true rfl, Nat.le_of_ble_eq_true rfl⟩ rfl hl.1 rfl (Nat.le_of_ble_eq_true rfl) dX12_readTag_337 (fun H locs hM => ?_)
      clear ho
      cases hf
      exact hret H locs _ ls hM rfl dX12_readTag_340
  · replace hf := m_ifF hf cc1
    refine lv_aload_n hx hb dX12_readTag_184 rfl (lv_at hl 0 rfl) ?_
    obtain ⟨o24, ho, hf⟩ := m_clE hf
    refine m_callVi X hM (c_look ho) gX12_readTag_X12_look rfl ⟨rfl, rfl⟩ hd_look ⟨Nat.le_of_ble_eq_true rfl, Nat.le_of_ble_eq_true rfl⟩ rfl hl.1 rfl (Nat.le_of_ble_eq_true rfl) dX12_readTag_185 (fun H locs hM => ?_)
    clear ho
    refine lv_bipush (v := (92 : Int32)) hx hb dX12_readTag_188 (by decide) ?_
    refine lv_icmp_ne (tgt := 230) hx hb dX12_readTag_190 (by decide) (fun cc1 => ?_) (fun cc1 => ?_)
    · replace hf := m_ifF hf cc1
      exact w_readTag_230 X hret hself175 hf hM (lv_sub hl [0, 1, 2, 3, 4, 5, 6] rfl)
    · replace hf := m_ifT hf cc1
      refine lv_aload_n hx hb dX12_readTag_193 rfl (lv_at hl 0 rfl) ?_
      refine lv_dup hx hb dX12_readTag_194 rfl ?_
      refine m_get (v := .int (o24.2.1 37)) X hw_readTag hM 37 (by decide) fl_readTag_37 rfl dX12_readTag_195 ?_
      refine lv_iconst (v := (1 : Int32)) hx hb dX12_readTag_198 (by decide) ?_
      refine lv_iadd hx hb dX12_readTag_199 ?_
      obtain ⟨v25, ev, hf⟩ := m_bndE hf
      refine m_top ev ?_
      clear ev
      refine m_put X hw_readTag hM 37 (by decide) fl_readTag_37 mi_37 rfl (tyX12_ok 37 (by decide)) dX12_readTag_200 (fun H locs hM => ?_)
      obtain ⟨I26, ev, hf⟩ := m_bndE hf
      replace hM := m_hI hM ev
      clear ev
      refine lv_aload_n hx hb dX12_readTag_203 rfl (lv_at hl 0 rfl) ?_
      obtain ⟨o27, ho, hf⟩ := m_clE hf
      refine m_callVi X hM (c_look ho) gX12_readTag_X12_look rfl ⟨rfl, rfl⟩ hd_look ⟨Nat.le_of_ble_eq_true rfl, Nat.le_of_ble_eq_true rfl⟩ rfl hl.1 rfl (Nat.le_of_ble_eq_true rfl) dX12_readTag_204 (fun H locs hM => ?_)
      clear ho
      refine lv_bipush (v := (34 : Int32)) hx hb dX12_readTag_207 (by decide) ?_
      refine lv_icmp_eq (tgt := 230) hx hb dX12_readTag_209 (by decide) (fun cc1 => ?_) (fun cc1 => ?_)
      · replace hf := m_ifT hf cc1
        exact w_readTag_230 X hret hself175 hf hM (lv_sub hl [0, 1, 2, 3, 4, 5, 6] rfl)
      · replace hf := m_ifF hf cc1
        refine lv_aload_n hx hb dX12_readTag_212 rfl (lv_at hl 0 rfl) ?_
        obtain ⟨o28, ho, hf⟩ := m_clE hf
        refine m_callVi X hM (c_look ho) gX12_readTag_X12_look rfl ⟨rfl, rfl⟩ hd_look ⟨Nat.le_of_ble_eq_true rfl, Nat.le_of_ble_eq_true rfl⟩ rfl hl.1 rfl (Nat.le_of_ble_eq_true rfl) dX12_readTag_213 (fun H locs hM => ?_)
        clear ho
        refine lv_bipush (v := (92 : Int32)) hx hb dX12_readTag_216 (by decide) ?_
        refine lv_icmp_eq (tgt := 230) hx hb dX12_readTag_218 (by decide) (fun cc1 => ?_) (fun cc1 => ?_)
        · replace hf := m_ifT hf cc1
          exact w_readTag_230 X hret hself175 hf hM (lv_sub hl [0, 1, 2, 3, 4, 5, 6] rfl)
        · replace hf := m_ifF hf cc1
          refine lv_iconst (v := (1 : Int32)) hx hb dX12_readTag_221 (by decide) ?_
          refine lv_aload_n hx hb dX12_readTag_222 rfl (lv_at hl 0 rfl) ?_
          refine m_get (v := .int (o28.2.1 37)) X hw_readTag hM 37 (by decide) fl_readTag_37 rfl dX12_readTag_223 ?_
          obtain ⟨o29, ho, hf⟩ := m_clE hf
          refine m_callSi X hM (c_fault ho) gX12_readTag_X12_fault rfl ⟨rfl, rfl⟩ hd_fault ⟨Nat.le_of_ble_eq_true rfl, Nat.le_of_ble_eq_true rfl⟩ rfl hl.1 rfl (Nat.le_of_ble_eq_true rfl) dX12_readTag_226 (fun H locs hM => ?_)
          clear ho
          cases hf
          exact hret H locs _ ls hM rfl dX12_readTag_229
def f_readTag_175 : Nat → Int32 → Int32 → Int32 → Int32 → Int32 → Int32 → (Nat → Int32) → (Nat → Nat → Int32) → Option (Int32 × MS)
  | 0 => fun _ _ _ _ _ _ _ _ => none
  | n + 1 => f_readTag_175s (f_readTag_175 n)
theorem w_readTag_175 {p : Program} {l : Launch} {e : Env} {s : State} {m : MethodId} {args : Array Value} {below : List Frame} {meth : Method} {c : Code} {Q : State → Prop} {D : va_G} {cy ci : ClassId} {h : Nat → Nat} {A0 : Nat → Prop} {o : Int32 × MS} (X : CallFix p m c cX12_readTag 7 s args wsX12_readTag RX12) (hret : mRi p l e ({ frames := 6, cells := 0, slots := 0, locals := 146 } : Room) s m args below meth c Q cX12_readTag D cy ci h A0 .int o) (n : Nat) : ∀ (x1 : Int32) (x2 : Int32) (x3 : Int32) (x4 : Int32) (x5 : Int32) (x6 : Int32) (I : Nat → Int32) (A : Nat → Nat → Int32) (H : Heap) (locs : List Loc) (ls : Array Slot), f_readTag_175 n x1 x2 x3 x4 x5 x6 I A = some o → mH D cy ci h A0 s H locs I A → lv_has ls 7 [(0, .ref (h 0)), (1, .int x1), (2, .int x2), (3, .int x3), (4, .int x4), (5, .int x5), (6, .int x6)] → W p l e ({ frames := 6, cells := 0, slots := 0, locals := 146 } : Room) s m args below meth c H locs 0 0 Q (F0 m 175 ls []) := by
  induction n with
  | zero => intro x1 x2 x3 x4 x5 x6 I A H locs ls hf; cases hf
  | succ n ih => intro x1 x2 x3 x4 x5 x6 I A H locs ls hf hM hl; exact ws_readTag_175 X hret (self175 := f_readTag_175 n) ih hf hM hl
def f_readTag_71s (self71 : Int32 → Int32 → Int32 → Int32 → Int32 → (Nat → Int32) → (Nat → Nat → Int32) → Option (Int32 × MS)) (x1 : Int32) (x2 : Int32) (x3 : Int32) (x4 : Int32) (x5 : Int32) (I : Nat → Int32) (A : Nat → Nat → Int32) : Option (Int32 × MS) :=
  m_cl (f_look  I A) (fun r1 Ic1 Ac1 =>
  m_cl (f_isLetter r1 Ic1 Ac1) (fun r2 Ic2 Ac2 =>
  m_if (r2 = 0) (
  m_cl (f_look  Ic2 Ac2) (fun r3 Ic3 Ac3 =>
  m_cl (f_isDigit r3 Ic3 Ac3) (fun r4 Ic4 Ac4 =>
  m_if (r4 = 0) (
  m_cl (f_blanks  Ic4 Ac4) (fun r5 Ic5 Ac5 =>
  m_cl (f_look  Ic5 Ac5) (fun r6 Ic6 Ac6 =>
  m_if (r6 = (34 : Int32)) (
  m_bnd ((Ic6 37) + (1 : Int32)) (fun v7 =>
  m_bnd (upd Ic6 37 v7) (fun I8 =>
  f_readTag_175 mFuel x1 x2 x3 x4 x5 (0 : Int32) I8 Ac6))
  ) (
  m_cl (f_fault (1 : Int32) (Ic6 37) Ic6 Ac6) (fun r9 Ic9 Ac9 =>
  some (r9, (Ic9, Ac9)))
  )))
  ) (
  f_readTag_91 self71 x1 x2 x3 x4 x5 Ic4 Ac4
  )))
  ) (
  f_readTag_91 self71 x1 x2 x3 x4 x5 Ic2 Ac2
  )))

set_option maxRecDepth 100000 in
set_option maxHeartbeats 4000000 in
theorem ws_readTag_71 {p : Program} {l : Launch} {e : Env} {s : State} {m : MethodId} {args : Array Value} {below : List Frame} {meth : Method} {c : Code} {Q : State → Prop} {D : va_G} {cy ci : ClassId} {h : Nat → Nat} {A0 : Nat → Prop} {o : Int32 × MS} (X : CallFix p m c cX12_readTag 7 s args wsX12_readTag RX12) (hret : mRi p l e ({ frames := 6, cells := 0, slots := 0, locals := 146 } : Room) s m args below meth c Q cX12_readTag D cy ci h A0 .int o) {self71 : Int32 → Int32 → Int32 → Int32 → Int32 → (Nat → Int32) → (Nat → Nat → Int32) → Option (Int32 × MS)} (hself71 : ∀ (x1 : Int32) (x2 : Int32) (x3 : Int32) (x4 : Int32) (x5 : Int32) (I : Nat → Int32) (A : Nat → Nat → Int32) (H : Heap) (locs : List Loc) (ls : Array Slot), self71 x1 x2 x3 x4 x5 I A = some o → mH D cy ci h A0 s H locs I A → lv_has ls 7 [(0, .ref (h 0)), (1, .int x1), (2, .int x2), (3, .int x3), (4, .int x4), (5, .int x5)] → W p l e ({ frames := 6, cells := 0, slots := 0, locals := 146 } : Room) s m args below meth c H locs 0 0 Q (F0 m 71 ls [])) {x1 : Int32} {x2 : Int32} {x3 : Int32} {x4 : Int32} {x5 : Int32} {I : Nat → Int32} {A : Nat → Nat → Int32} {H : Heap} {locs : List Loc} {ls : Array Slot} (hf : f_readTag_71s self71 x1 x2 x3 x4 x5 I A = some o) (hM : mH D cy ci h A0 s H locs I A) (hl : lv_has ls 7 [(0, .ref (h 0)), (1, .int x1), (2, .int x2), (3, .int x3), (4, .int x4), (5, .int x5)]) : W p l e ({ frames := 6, cells := 0, slots := 0, locals := 146 } : Room) s m args below meth c H locs 0 0 Q (F0 m 71 ls []) := by
  obtain ⟨hx, hb, hml, hown, hts⟩ := id X
  unfold f_readTag_71s at hf
  refine lv_aload_n hx hb dX12_readTag_71 rfl (lv_at hl 0 rfl) ?_
  obtain ⟨o1, ho, hf⟩ := m_clE hf
  refine m_callVi X hM (c_look ho) gX12_readTag_X12_look rfl ⟨rfl, rfl⟩ hd_look ⟨Nat.le_of_ble_eq_true rfl, Nat.le_of_ble_eq_true rfl⟩ rfl hl.1 rfl (Nat.le_of_ble_eq_true rfl) dX12_readTag_72 (fun H locs hM => ?_)
  clear ho
  obtain ⟨o2, ho, hf⟩ := m_clE hf
  refine m_callSi X hM (c_isLetter ho) gX12_readTag_X12_isLetter rfl ⟨rfl, rfl⟩ hd_isLetter ⟨Nat.le_of_ble_eq_true rfl, Nat.le_of_ble_eq_true rfl⟩ rfl hl.1 rfl (Nat.le_of_ble_eq_true rfl) dX12_readTag_75 (fun H locs hM => ?_)
  clear ho
  refine lv_if_ne (tgt := 91) hx hb dX12_readTag_78 (by decide) (fun cc1 => ?_) (fun cc1 => ?_)
  · replace hf := m_ifF hf cc1
    exact w_readTag_91 X hret hself71 hf hM (lv_sub hl [0, 1, 2, 3, 4, 5] rfl)
  · replace hf := m_ifT hf cc1
    refine lv_aload_n hx hb dX12_readTag_81 rfl (lv_at hl 0 rfl) ?_
    obtain ⟨o3, ho, hf⟩ := m_clE hf
    refine m_callVi X hM (c_look ho) gX12_readTag_X12_look rfl ⟨rfl, rfl⟩ hd_look ⟨Nat.le_of_ble_eq_true rfl, Nat.le_of_ble_eq_true rfl⟩ rfl hl.1 rfl (Nat.le_of_ble_eq_true rfl) dX12_readTag_82 (fun H locs hM => ?_)
    clear ho
    obtain ⟨o4, ho, hf⟩ := m_clE hf
    refine m_callSi X hM (c_isDigit ho) gX12_readTag_X12_isDigit rfl ⟨rfl, rfl⟩ hd_isDigit ⟨Nat.le_of_ble_eq_true rfl, Nat.le_of_ble_eq_true rfl⟩ rfl hl.1 rfl (Nat.le_of_ble_eq_true rfl) dX12_readTag_85 (fun H locs hM => ?_)
    clear ho
    refine lv_if_eq (tgt := 140) hx hb dX12_readTag_88 (by decide) (fun cc1 => ?_) (fun cc1 => ?_)
    · replace hf := m_ifT hf cc1
      refine lv_aload_n hx hb dX12_readTag_140 rfl (lv_at hl 0 rfl) ?_
      obtain ⟨o5, ho, hf⟩ := m_clE hf
      refine m_callVv X hM (c_blanks ho) gX12_readTag_X12_blanks rfl ⟨rfl, rfl⟩ hd_blanks ⟨Nat.le_of_ble_eq_true rfl, Nat.le_of_ble_eq_true rfl⟩ rfl hl.1 rfl (Nat.le_of_ble_eq_true rfl) dX12_readTag_141 (fun H locs hM => ?_)
      clear ho
      refine lv_aload_n hx hb dX12_readTag_144 rfl (lv_at hl 0 rfl) ?_
      obtain ⟨o6, ho, hf⟩ := m_clE hf
      refine m_callVi X hM (c_look ho) gX12_readTag_X12_look rfl ⟨rfl, rfl⟩ hd_look ⟨Nat.le_of_ble_eq_true rfl, Nat.le_of_ble_eq_true rfl⟩ rfl hl.1 rfl (Nat.le_of_ble_eq_true rfl) dX12_readTag_145 (fun H locs hM => ?_)
      clear ho
      refine lv_bipush (v := (34 : Int32)) hx hb dX12_readTag_148 (by decide) ?_
      refine lv_icmp_eq (tgt := 162) hx hb dX12_readTag_150 (by decide) (fun cc1 => ?_) (fun cc1 => ?_)
      · replace hf := m_ifT hf cc1
        refine lv_aload_n hx hb dX12_readTag_162 rfl (lv_at hl 0 rfl) ?_
        refine lv_dup hx hb dX12_readTag_163 rfl ?_
        refine m_get (v := .int (o6.2.1 37)) X hw_readTag hM 37 (by decide) fl_readTag_37 rfl dX12_readTag_164 ?_
        refine lv_iconst (v := (1 : Int32)) hx hb dX12_readTag_167 (by decide) ?_
        refine lv_iadd hx hb dX12_readTag_168 ?_
        obtain ⟨v7, ev, hf⟩ := m_bndE hf
        refine m_top ev ?_
        clear ev
        refine m_put X hw_readTag hM 37 (by decide) fl_readTag_37 mi_37 rfl (tyX12_ok 37 (by decide)) dX12_readTag_169 (fun H locs hM => ?_)
        obtain ⟨I8, ev, hf⟩ := m_bndE hf
        replace hM := m_hI hM ev
        clear ev
        refine lv_iconst (v := (0 : Int32)) hx hb dX12_readTag_172 (by decide) ?_
        refine lv_istore (lv' := [(6, .int (0 : Int32)), (0, .ref (h 0)), (1, .int x1), (2, .int x2), (3, .int x3), (4, .int x4), (5, .int x5)]) hx hb dX12_readTag_173 hl (by decide) rfl (fun ls hl => ?_)
        exact w_readTag_175 X hret _ _ _ _ _ _ _ _ _ _ _ _ hf hM (lv_sub hl [1, 2, 3, 4, 5, 6, 0] rfl)
      · replace hf := m_ifF hf cc1
        refine lv_iconst (v := (1 : Int32)) hx hb dX12_readTag_153 (by decide) ?_
        refine lv_aload_n hx hb dX12_readTag_154 rfl (lv_at hl 0 rfl) ?_
        refine m_get (v := .int (o6.2.1 37)) X hw_readTag hM 37 (by decide) fl_readTag_37 rfl dX12_readTag_155 ?_
        obtain ⟨o9, ho, hf⟩ := m_clE hf
        refine m_callSi X hM (c_fault ho) gX12_readTag_X12_fault rfl ⟨rfl, rfl⟩ hd_fault ⟨Nat.le_of_ble_eq_true rfl, Nat.le_of_ble_eq_true rfl⟩ rfl hl.1 rfl (Nat.le_of_ble_eq_true rfl) dX12_readTag_158 (fun H locs hM => ?_)
        clear ho
        cases hf
        exact hret H locs _ ls hM rfl dX12_readTag_161
    · replace hf := m_ifF hf cc1
      exact w_readTag_91 X hret hself71 hf hM (lv_sub hl [0, 1, 2, 3, 4, 5] rfl)
def f_readTag_71 : Nat → Int32 → Int32 → Int32 → Int32 → Int32 → (Nat → Int32) → (Nat → Nat → Int32) → Option (Int32 × MS)
  | 0 => fun _ _ _ _ _ _ _ => none
  | n + 1 => f_readTag_71s (f_readTag_71 n)
theorem w_readTag_71 {p : Program} {l : Launch} {e : Env} {s : State} {m : MethodId} {args : Array Value} {below : List Frame} {meth : Method} {c : Code} {Q : State → Prop} {D : va_G} {cy ci : ClassId} {h : Nat → Nat} {A0 : Nat → Prop} {o : Int32 × MS} (X : CallFix p m c cX12_readTag 7 s args wsX12_readTag RX12) (hret : mRi p l e ({ frames := 6, cells := 0, slots := 0, locals := 146 } : Room) s m args below meth c Q cX12_readTag D cy ci h A0 .int o) (n : Nat) : ∀ (x1 : Int32) (x2 : Int32) (x3 : Int32) (x4 : Int32) (x5 : Int32) (I : Nat → Int32) (A : Nat → Nat → Int32) (H : Heap) (locs : List Loc) (ls : Array Slot), f_readTag_71 n x1 x2 x3 x4 x5 I A = some o → mH D cy ci h A0 s H locs I A → lv_has ls 7 [(0, .ref (h 0)), (1, .int x1), (2, .int x2), (3, .int x3), (4, .int x4), (5, .int x5)] → W p l e ({ frames := 6, cells := 0, slots := 0, locals := 146 } : Room) s m args below meth c H locs 0 0 Q (F0 m 71 ls []) := by
  induction n with
  | zero => intro x1 x2 x3 x4 x5 I A H locs ls hf; cases hf
  | succ n ih => intro x1 x2 x3 x4 x5 I A H locs ls hf hM hl; exact ws_readTag_71 X hret (self71 := f_readTag_71 n) ih hf hM hl
def f_readTag_23 (x1 : Int32) (x2 : Int32) (x3 : Int32) (t0 : Int32) (I : Nat → Int32) (A : Nat → Nat → Int32) : Option (Int32 × MS) :=
  m_bnd ((I 37) + (1 : Int32)) (fun v1 =>
  m_bnd (upd I 37 v1) (fun I2 =>
  m_cl (f_blanks  I2 A) (fun r3 Ic3 Ac3 =>
  m_cl (f_look  Ic3 Ac3) (fun r4 Ic4 Ac4 =>
  m_cl (f_isLetter r4 Ic4 Ac4) (fun r5 Ic5 Ac5 =>
  m_if (r5 = 0) (
  m_cl (f_look  Ic5 Ac5) (fun r6 Ic6 Ac6 =>
  m_cl (f_isDigit r6 Ic6 Ac6) (fun r7 Ic7 Ac7 =>
  m_if (r7 = 0) (
  m_cl (f_fault (1 : Int32) (Ic7 37) Ic7 Ac7) (fun r8 Ic8 Ac8 =>
  some (r8, (Ic8, Ac8)))
  ) (
  f_readTag_71 mFuel x1 x2 x3 t0 (0 : Int32) Ic7 Ac7
  )))
  ) (
  f_readTag_71 mFuel x1 x2 x3 t0 (0 : Int32) Ic5 Ac5
  ))))))

set_option maxRecDepth 100000 in
set_option maxHeartbeats 4000000 in
theorem w_readTag_23 {p : Program} {l : Launch} {e : Env} {s : State} {m : MethodId} {args : Array Value} {below : List Frame} {meth : Method} {c : Code} {Q : State → Prop} {D : va_G} {cy ci : ClassId} {h : Nat → Nat} {A0 : Nat → Prop} {o : Int32 × MS} (X : CallFix p m c cX12_readTag 7 s args wsX12_readTag RX12) (hret : mRi p l e ({ frames := 6, cells := 0, slots := 0, locals := 146 } : Room) s m args below meth c Q cX12_readTag D cy ci h A0 .int o) {x1 : Int32} {x2 : Int32} {x3 : Int32} {t0 : Int32} {I : Nat → Int32} {A : Nat → Nat → Int32} {H : Heap} {locs : List Loc} {ls : Array Slot} (hf : f_readTag_23 x1 x2 x3 t0 I A = some o) (hM : mH D cy ci h A0 s H locs I A) (hl : lv_has ls 7 [(0, .ref (h 0)), (1, .int x1), (2, .int x2), (3, .int x3)]) : W p l e ({ frames := 6, cells := 0, slots := 0, locals := 146 } : Room) s m args below meth c H locs 0 0 Q (F0 m 23 ls [.int t0]) := by
  obtain ⟨hx, hb, hml, hown, hts⟩ := id X
  unfold f_readTag_23 at hf
  refine lv_istore (lv' := [(4, .int t0), (0, .ref (h 0)), (1, .int x1), (2, .int x2), (3, .int x3)]) hx hb dX12_readTag_23 hl (by decide) rfl (fun ls hl => ?_)
  refine lv_iconst (v := (0 : Int32)) hx hb dX12_readTag_25 (by decide) ?_
  refine lv_istore (lv' := [(5, .int (0 : Int32)), (4, .int t0), (0, .ref (h 0)), (1, .int x1), (2, .int x2), (3, .int x3)]) hx hb dX12_readTag_26 hl (by decide) rfl (fun ls hl => ?_)
  refine lv_aload_n hx hb dX12_readTag_28 rfl (lv_at hl 2 rfl) ?_
  refine lv_dup hx hb dX12_readTag_29 rfl ?_
  refine m_get (v := .int (I 37)) X hw_readTag hM 37 (by decide) fl_readTag_37 rfl dX12_readTag_30 ?_
  refine lv_iconst (v := (1 : Int32)) hx hb dX12_readTag_33 (by decide) ?_
  refine lv_iadd hx hb dX12_readTag_34 ?_
  obtain ⟨v1, ev, hf⟩ := m_bndE hf
  refine m_top ev ?_
  clear ev
  refine m_put X hw_readTag hM 37 (by decide) fl_readTag_37 mi_37 rfl (tyX12_ok 37 (by decide)) dX12_readTag_35 (fun H locs hM => ?_)
  obtain ⟨I2, ev, hf⟩ := m_bndE hf
  replace hM := m_hI hM ev
  clear ev
  refine lv_aload_n hx hb dX12_readTag_38 rfl (lv_at hl 2 rfl) ?_
  obtain ⟨o3, ho, hf⟩ := m_clE hf
  refine m_callVv X hM (c_blanks ho) gX12_readTag_X12_blanks rfl ⟨rfl, rfl⟩ hd_blanks ⟨Nat.le_of_ble_eq_true rfl, Nat.le_of_ble_eq_true rfl⟩ rfl hl.1 rfl (Nat.le_of_ble_eq_true rfl) dX12_readTag_39 (fun H locs hM => ?_)
  clear ho
  refine lv_aload_n hx hb dX12_readTag_42 rfl (lv_at hl 2 rfl) ?_
  obtain ⟨o4, ho, hf⟩ := m_clE hf
  refine m_callVi X hM (c_look ho) gX12_readTag_X12_look rfl ⟨rfl, rfl⟩ hd_look ⟨Nat.le_of_ble_eq_true rfl, Nat.le_of_ble_eq_true rfl⟩ rfl hl.1 rfl (Nat.le_of_ble_eq_true rfl) dX12_readTag_43 (fun H locs hM => ?_)
  clear ho
  obtain ⟨o5, ho, hf⟩ := m_clE hf
  refine m_callSi X hM (c_isLetter ho) gX12_readTag_X12_isLetter rfl ⟨rfl, rfl⟩ hd_isLetter ⟨Nat.le_of_ble_eq_true rfl, Nat.le_of_ble_eq_true rfl⟩ rfl hl.1 rfl (Nat.le_of_ble_eq_true rfl) dX12_readTag_46 (fun H locs hM => ?_)
  clear ho
  refine lv_if_ne (tgt := 71) hx hb dX12_readTag_49 (by decide) (fun cc1 => ?_) (fun cc1 => ?_)
  · replace hf := m_ifF hf cc1
    exact w_readTag_71 X hret _ _ _ _ _ _ _ _ _ _ _ hf hM (lv_sub hl [2, 3, 4, 5, 1, 0] rfl)
  · replace hf := m_ifT hf cc1
    refine lv_aload_n hx hb dX12_readTag_52 rfl (lv_at hl 2 rfl) ?_
    obtain ⟨o6, ho, hf⟩ := m_clE hf
    refine m_callVi X hM (c_look ho) gX12_readTag_X12_look rfl ⟨rfl, rfl⟩ hd_look ⟨Nat.le_of_ble_eq_true rfl, Nat.le_of_ble_eq_true rfl⟩ rfl hl.1 rfl (Nat.le_of_ble_eq_true rfl) dX12_readTag_53 (fun H locs hM => ?_)
    clear ho
    obtain ⟨o7, ho, hf⟩ := m_clE hf
    refine m_callSi X hM (c_isDigit ho) gX12_readTag_X12_isDigit rfl ⟨rfl, rfl⟩ hd_isDigit ⟨Nat.le_of_ble_eq_true rfl, Nat.le_of_ble_eq_true rfl⟩ rfl hl.1 rfl (Nat.le_of_ble_eq_true rfl) dX12_readTag_56 (fun H locs hM => ?_)
    clear ho
    refine lv_if_ne (tgt := 71) hx hb dX12_readTag_59 (by decide) (fun cc1 => ?_) (fun cc1 => ?_)
    · replace hf := m_ifF hf cc1
      exact w_readTag_71 X hret _ _ _ _ _ _ _ _ _ _ _ hf hM (lv_sub hl [2, 3, 4, 5, 1, 0] rfl)
    · replace hf := m_ifT hf cc1
      refine lv_iconst (v := (1 : Int32)) hx hb dX12_readTag_62 (by decide) ?_
      refine lv_aload_n hx hb dX12_readTag_63 rfl (lv_at hl 2 rfl) ?_
      refine m_get (v := .int (o7.2.1 37)) X hw_readTag hM 37 (by decide) fl_readTag_37 rfl dX12_readTag_64 ?_
      obtain ⟨o8, ho, hf⟩ := m_clE hf
      refine m_callSi X hM (c_fault ho) gX12_readTag_X12_fault rfl ⟨rfl, rfl⟩ hd_fault ⟨Nat.le_of_ble_eq_true rfl, Nat.le_of_ble_eq_true rfl⟩ rfl hl.1 rfl (Nat.le_of_ble_eq_true rfl) dX12_readTag_67 (fun H locs hM => ?_)
      clear ho
      cases hf
      exact hret H locs _ ls hM rfl dX12_readTag_70
def f_readTag_0 (x1 : Int32) (I : Nat → Int32) (A : Nat → Nat → Int32) : Option (Int32 × MS) :=
  m_chk (¬ (x1 < 0 ∨ 2 ≤ (x1).toNatClampNeg)) (
  m_bnd (A 18 (x1).toNatClampNeg) (fun v1 =>
  m_if (v1 = (8 : Int32)) (
  f_readTag_23 x1 (I 37) v1 (1 : Int32) I A
  ) (
  f_readTag_23 x1 (I 37) v1 (0 : Int32) I A
  )))

set_option maxRecDepth 100000 in
set_option maxHeartbeats 4000000 in
theorem w_readTag_0 {p : Program} {l : Launch} {e : Env} {s : State} {m : MethodId} {args : Array Value} {below : List Frame} {meth : Method} {c : Code} {Q : State → Prop} {D : va_G} {cy ci : ClassId} {h : Nat → Nat} {A0 : Nat → Prop} {o : Int32 × MS} (X : CallFix p m c cX12_readTag 7 s args wsX12_readTag RX12) (hret : mRi p l e ({ frames := 6, cells := 0, slots := 0, locals := 146 } : Room) s m args below meth c Q cX12_readTag D cy ci h A0 .int o) {x1 : Int32} {I : Nat → Int32} {A : Nat → Nat → Int32} {H : Heap} {locs : List Loc} {ls : Array Slot} (hf : f_readTag_0 x1 I A = some o) (hM : mH D cy ci h A0 s H locs I A) (hl : lv_has ls 7 [(0, .ref (h 0)), (1, .int x1)]) : W p l e ({ frames := 6, cells := 0, slots := 0, locals := 146 } : Room) s m args below meth c H locs 0 0 Q (F0 m 0 ls []) := by
  obtain ⟨hx, hb, hml, hown, hts⟩ := id X
  unfold f_readTag_0 at hf
  refine lv_aload_n hx hb dX12_readTag_0 rfl (lv_at hl 0 rfl) ?_
  refine m_get (v := .int (I 37)) X hw_readTag hM 37 (by decide) fl_readTag_37 rfl dX12_readTag_1 ?_
  refine lv_istore_n (lv' := [(2, .int (I 37)), (0, .ref (h 0)), (1, .int x1)]) hx hb dX12_readTag_4 rfl hl (by decide) rfl (fun ls hl => ?_)
  refine lv_aload_n hx hb dX12_readTag_5 rfl (lv_at hl 1 rfl) ?_
  refine m_get (v := .ref (h 18)) X hw_readTag hM 18 (by decide) fl_readTag_18 rfl dX12_readTag_6 ?_
  refine lv_iload_n hx hb dX12_readTag_9 rfl (lv_at hl 2 rfl) ?_
  obtain ⟨cd, hf⟩ := m_chkE hf
  refine m_iald X hM 18 14 2 rfl cd dX12_readTag_10 ?_
  clear cd
  obtain ⟨v1, ev, hf⟩ := m_bndE hf
  refine m_top ev ?_
  clear ev
  refine lv_istore_n (lv' := [(3, .int v1), (2, .int (I 37)), (0, .ref (h 0)), (1, .int x1)]) hx hb dX12_readTag_11 rfl hl (by decide) rfl (fun ls hl => ?_)
  refine lv_iload_n hx hb dX12_readTag_12 rfl (lv_at hl 0 rfl) ?_
  refine lv_bipush (v := (8 : Int32)) hx hb dX12_readTag_13 (by decide) ?_
  refine lv_icmp_ne (tgt := 22) hx hb dX12_readTag_15 (by decide) (fun cc1 => ?_) (fun cc1 => ?_)
  · replace hf := m_ifF hf cc1
    refine lv_iconst (v := (0 : Int32)) hx hb dX12_readTag_22 (by decide) ?_
    exact w_readTag_23 X hret hf hM (lv_sub hl [2, 3, 1, 0] rfl)
  · replace hf := m_ifT hf cc1
    refine lv_iconst (v := (1 : Int32)) hx hb dX12_readTag_18 (by decide) ?_
    refine lv_goto (tgt := 23) hx hb dX12_readTag_19 (by decide) ?_
    exact w_readTag_23 X hret hf hM (lv_sub hl [2, 3, 1, 0] rfl)
def f_readTag (x1 : Int32) (I : Nat → Int32) (A : Nat → Nat → Int32) : Option (Int32 × MS) := f_readTag_0 x1 I A
theorem c_readTag {l : Launch} {D : va_G} {cy ci : ClassId} {h : Nat → Nat} {x1 : Int32} {I : Nat → Int32} {A : Nat → Nat → Int32} {o : Int32 × MS} (hf : f_readTag x1 I A = some o) : mMi l yX12_readTag wsX12_readTag ({ frames := 6, cells := 0, slots := 0, locals := 146 } : Room) [.ref (h 0), .int x1] D cy ci h I A o :=
  m_entryI (cc := cX12_readTag) (maxL := 7) (by decide) rfl rfl (Nat.le_of_ble_eq_true rfl) (fun p e s m args below meth c A0 Q H locs ls X hret hM hl => w_readTag_0 X hret hf hM (lv_sub hl [0, 1] rfl))
theorem hw_readRemarks : ∀ w ∈ wsX120, w ∈ wsX12_readRemarks := by decide +kernel
theorem fl_readRemarks_1 : Cond.fieldLink RX12 270 "MoveTextsModel" "typed" "I" ∈ wsX12_readRemarks := by decide +kernel
theorem fl_readRemarks_2 : Cond.fieldLink RX12 7 "MoveTextsModel" "text" "[C" ∈ wsX12_readRemarks := by decide +kernel
theorem fl_readRemarks_14 : Cond.fieldLink RX12 39 "MoveTextsModel" "remarkSize" "[I" ∈ wsX12_readRemarks := by decide +kernel
theorem fl_readRemarks_15 : Cond.fieldLink RX12 43 "MoveTextsModel" "remarks" "[C" ∈ wsX12_readRemarks := by decide +kernel
theorem fl_readRemarks_37 : Cond.fieldLink RX12 267 "MoveTextsModel" "at" "I" ∈ wsX12_readRemarks := by decide +kernel
theorem hd_readRemarks : yX12_readRemarks.cls = RX12 ∧ yX12_readRemarks.cls ≠ "java/lang/invoke/MethodHandle" ∧ yX12_readRemarks.cls ≠ "java/lang/invoke/VarHandle" ∧ (parseMethodDescriptor yX12_readRemarks.desc).map (fun d => d.parameters.length) = some 2 := by decide +kernel
def f_readRemarks_344 (self4 : Int32 → Int32 → (Nat → Int32) → (Nat → Nat → Int32) → Option (Int32 × MS)) (x1 : Int32) (x2 : Int32) (t0 : Int32) (I : Nat → Int32) (A : Nat → Nat → Int32) : Option (Int32 × MS) :=
  m_bnd (upd I 37 t0) (fun I1 =>
  m_cl (f_blanks  I1 A) (fun r2 Ic2 Ac2 =>
  self4 x1 x2 Ic2 Ac2))

set_option maxRecDepth 100000 in
set_option maxHeartbeats 4000000 in
theorem w_readRemarks_344 {p : Program} {l : Launch} {e : Env} {s : State} {m : MethodId} {args : Array Value} {below : List Frame} {meth : Method} {c : Code} {Q : State → Prop} {D : va_G} {cy ci : ClassId} {h : Nat → Nat} {A0 : Nat → Prop} {o : Int32 × MS} (X : CallFix p m c cX12_readRemarks 11 s args wsX12_readRemarks RX12) (hret : mRi p l e ({ frames := 1, cells := 0, slots := 0, locals := 21 } : Room) s m args below meth c Q cX12_readRemarks D cy ci h A0 .int o) {self4 : Int32 → Int32 → (Nat → Int32) → (Nat → Nat → Int32) → Option (Int32 × MS)} (hself4 : ∀ (x1 : Int32) (x2 : Int32) (I : Nat → Int32) (A : Nat → Nat → Int32) (H : Heap) (locs : List Loc) (ls : Array Slot), self4 x1 x2 I A = some o → mH D cy ci h A0 s H locs I A → lv_has ls 11 [(0, .ref (h 0)), (1, .int x1), (2, .int x2)] → W p l e ({ frames := 1, cells := 0, slots := 0, locals := 21 } : Room) s m args below meth c H locs 0 0 Q (F0 m 4 ls [])) {x1 : Int32} {x2 : Int32} {t0 : Int32} {I : Nat → Int32} {A : Nat → Nat → Int32} {H : Heap} {locs : List Loc} {ls : Array Slot} (hf : f_readRemarks_344 self4 x1 x2 t0 I A = some o) (hM : mH D cy ci h A0 s H locs I A) (hl : lv_has ls 11 [(0, .ref (h 0)), (1, .int x1), (2, .int x2)]) : W p l e ({ frames := 1, cells := 0, slots := 0, locals := 21 } : Room) s m args below meth c H locs 0 0 Q (F0 m 344 ls [.int t0, .ref (h 0)]) := by
  obtain ⟨hx, hb, hml, hown, hts⟩ := id X
  unfold f_readRemarks_344 at hf
  refine m_put X hw_readRemarks hM 37 (by decide) fl_readRemarks_37 mi_37 rfl (tyX12_ok 37 (by decide)) dX12_readRemarks_344 (fun H locs hM => ?_)
  obtain ⟨I1, ev, hf⟩ := m_bndE hf
  replace hM := m_hI hM ev
  clear ev
  refine lv_aload_n hx hb dX12_readRemarks_347 rfl (lv_at hl 0 rfl) ?_
  obtain ⟨o2, ho, hf⟩ := m_clE hf
  refine m_callVv X hM (c_blanks ho) gX12_readRemarks_X12_blanks rfl ⟨rfl, rfl⟩ hd_blanks ⟨Nat.le_of_ble_eq_true rfl, Nat.le_of_ble_eq_true rfl⟩ rfl hl.1 rfl (Nat.le_of_ble_eq_true rfl) dX12_readRemarks_348 (fun H locs hM => ?_)
  clear ho
  refine lv_goto (tgt := 4) hx hb dX12_readRemarks_351 (by decide) ?_
  exact hself4 _ _ _ _ _ _ _ hf hM (lv_sub hl [0, 1, 2] rfl)
def f_readRemarks_303 (self4 : Int32 → Int32 → (Nat → Int32) → (Nat → Nat → Int32) → Option (Int32 × MS)) (self247 : Int32 → Int32 → Int32 → Int32 → Int32 → Int32 → Int32 → Int32 → Int32 → (Nat → Int32) → (Nat → Nat → Int32) → Option (Int32 × MS)) (x1 : Int32) (x2 : Int32) (x4 : Int32) (x5 : Int32) (x6 : Int32) (x7 : Int32) (x8 : Int32) (x9 : Int32) (x10 : Int32) (t0 : Int32) (t1 : Int32) (I : Nat → Int32) (A : Nat → Nat → Int32) : Option (Int32 × MS) :=
  m_chk (¬ (t1 < 0 ∨ 120400 ≤ (t1).toNatClampNeg)) (
  m_bnd (va_up A 15 (upd (A 15) (t1).toNatClampNeg (vp_nar .char t0))) (fun A1 =>
  m_bnd (x10 + (1 : Int32)) (fun v2 =>
  self247 x1 x2 x4 x5 x6 x7 x8 x9 v2 I A1)))

set_option maxRecDepth 100000 in
set_option maxHeartbeats 4000000 in
theorem w_readRemarks_303 {p : Program} {l : Launch} {e : Env} {s : State} {m : MethodId} {args : Array Value} {below : List Frame} {meth : Method} {c : Code} {Q : State → Prop} {D : va_G} {cy ci : ClassId} {h : Nat → Nat} {A0 : Nat → Prop} {o : Int32 × MS} (X : CallFix p m c cX12_readRemarks 11 s args wsX12_readRemarks RX12) (hret : mRi p l e ({ frames := 1, cells := 0, slots := 0, locals := 21 } : Room) s m args below meth c Q cX12_readRemarks D cy ci h A0 .int o) {self4 : Int32 → Int32 → (Nat → Int32) → (Nat → Nat → Int32) → Option (Int32 × MS)} (hself4 : ∀ (x1 : Int32) (x2 : Int32) (I : Nat → Int32) (A : Nat → Nat → Int32) (H : Heap) (locs : List Loc) (ls : Array Slot), self4 x1 x2 I A = some o → mH D cy ci h A0 s H locs I A → lv_has ls 11 [(0, .ref (h 0)), (1, .int x1), (2, .int x2)] → W p l e ({ frames := 1, cells := 0, slots := 0, locals := 21 } : Room) s m args below meth c H locs 0 0 Q (F0 m 4 ls [])) {self247 : Int32 → Int32 → Int32 → Int32 → Int32 → Int32 → Int32 → Int32 → Int32 → (Nat → Int32) → (Nat → Nat → Int32) → Option (Int32 × MS)} (hself247 : ∀ (x1 : Int32) (x2 : Int32) (x4 : Int32) (x5 : Int32) (x6 : Int32) (x7 : Int32) (x8 : Int32) (x9 : Int32) (x10 : Int32) (I : Nat → Int32) (A : Nat → Nat → Int32) (H : Heap) (locs : List Loc) (ls : Array Slot), self247 x1 x2 x4 x5 x6 x7 x8 x9 x10 I A = some o → mH D cy ci h A0 s H locs I A → lv_has ls 11 [(0, .ref (h 0)), (1, .int x1), (2, .int x2), (4, .int x4), (5, .int x5), (6, .int x6), (7, .int x7), (8, .int x8), (9, .int x9), (10, .int x10)] → W p l e ({ frames := 1, cells := 0, slots := 0, locals := 21 } : Room) s m args below meth c H locs 0 0 Q (F0 m 247 ls [])) {x1 : Int32} {x2 : Int32} {x4 : Int32} {x5 : Int32} {x6 : Int32} {x7 : Int32} {x8 : Int32} {x9 : Int32} {x10 : Int32} {t0 : Int32} {t1 : Int32} {I : Nat → Int32} {A : Nat → Nat → Int32} {H : Heap} {locs : List Loc} {ls : Array Slot} (hf : f_readRemarks_303 self4 self247 x1 x2 x4 x5 x6 x7 x8 x9 x10 t0 t1 I A = some o) (hM : mH D cy ci h A0 s H locs I A) (hl : lv_has ls 11 [(0, .ref (h 0)), (1, .int x1), (2, .int x2), (4, .int x4), (5, .int x5), (6, .int x6), (7, .int x7), (8, .int x8), (9, .int x9), (10, .int x10)]) : W p l e ({ frames := 1, cells := 0, slots := 0, locals := 21 } : Room) s m args below meth c H locs 0 0 Q (F0 m 303 ls [.int t0, .int t1, .ref (h 15)]) := by
  obtain ⟨hx, hb, hml, hown, hts⟩ := id X
  unfold f_readRemarks_303 at hf
  obtain ⟨cd, hf⟩ := m_chkE hf
  refine m_cast X hM 15 11 120400 rfl ma_15 cd dX12_readRemarks_303 (fun H locs hM => ?_)
  clear cd
  obtain ⟨A1, ev, hf⟩ := m_bndE hf
  replace hM := m_hA hM ev
  clear ev
  obtain ⟨v2, ev, hf⟩ := m_bndE hf
  refine lv_iinc (v := v2) (lv' := [(10, .int v2), (0, .ref (h 0)), (1, .int x1), (2, .int x2), (4, .int x4), (5, .int x5), (6, .int x6), (7, .int x7), (8, .int x8), (9, .int x9)]) hx hb dX12_readRemarks_304 hl (k := 9) rfl (by rw [ev]; rfl) (by decide) rfl (fun ls hl => ?_)
  clear ev
  refine lv_goto (tgt := 247) hx hb dX12_readRemarks_307 (by decide) ?_
  exact hself247 _ _ _ _ _ _ _ _ _ _ _ _ _ _ hf hM (lv_sub hl [1, 2, 3, 4, 5, 6, 7, 8, 9, 0] rfl)
def f_readRemarks_247s (self4 : Int32 → Int32 → (Nat → Int32) → (Nat → Nat → Int32) → Option (Int32 × MS)) (self247 : Int32 → Int32 → Int32 → Int32 → Int32 → Int32 → Int32 → Int32 → Int32 → (Nat → Int32) → (Nat → Nat → Int32) → Option (Int32 × MS)) (x1 : Int32) (x2 : Int32) (x4 : Int32) (x5 : Int32) (x6 : Int32) (x7 : Int32) (x8 : Int32) (x9 : Int32) (x10 : Int32) (I : Nat → Int32) (A : Nat → Nat → Int32) : Option (Int32 × MS) :=
  m_if (x6 ≤ x10) (
  m_bnd (x8 + x9) (fun v1 =>
  m_bnd (v1 + x6) (fun v2 =>
  m_chk (¬ (x7 < 0 ∨ 602 ≤ (x7).toNatClampNeg)) (
  m_bnd (va_up A 14 (upd (A 14) (x7).toNatClampNeg v2)) (fun A3 =>
  m_if (x4 = 0) (
  f_readRemarks_344 self4 x1 x2 (I 37) I A3
  ) (
  m_bnd ((I 37) + (1 : Int32)) (fun v4 =>
  f_readRemarks_344 self4 x1 x2 v4 I A3)
  )))))
  ) (
  m_bnd ((200 : Int32) * x7) (fun v5 =>
  m_bnd (v5 + x8) (fun v6 =>
  m_bnd (v6 + x9) (fun v7 =>
  m_bnd (v7 + x10) (fun v8 =>
  m_bnd (x5 + x10) (fun v9 =>
  m_chk (¬ (v9 < 0 ∨ 2000 ≤ (v9).toNatClampNeg)) (
  m_bnd (A 2 (v9).toNatClampNeg) (fun v10 =>
  m_if (v10 = (10 : Int32)) (
  f_readRemarks_303 self4 self247 x1 x2 x4 x5 x6 x7 x8 x9 x10 (32 : Int32) v8 I A
  ) (
  m_bnd (x5 + x10) (fun v11 =>
  m_chk (¬ (v11 < 0 ∨ 2000 ≤ (v11).toNatClampNeg)) (
  m_bnd (A 2 (v11).toNatClampNeg) (fun v12 =>
  f_readRemarks_303 self4 self247 x1 x2 x4 x5 x6 x7 x8 x9 x10 v12 v8 I A)))
  ))))))))
  )

set_option maxRecDepth 100000 in
set_option maxHeartbeats 4000000 in
theorem ws_readRemarks_247 {p : Program} {l : Launch} {e : Env} {s : State} {m : MethodId} {args : Array Value} {below : List Frame} {meth : Method} {c : Code} {Q : State → Prop} {D : va_G} {cy ci : ClassId} {h : Nat → Nat} {A0 : Nat → Prop} {o : Int32 × MS} (X : CallFix p m c cX12_readRemarks 11 s args wsX12_readRemarks RX12) (hret : mRi p l e ({ frames := 1, cells := 0, slots := 0, locals := 21 } : Room) s m args below meth c Q cX12_readRemarks D cy ci h A0 .int o) {self4 : Int32 → Int32 → (Nat → Int32) → (Nat → Nat → Int32) → Option (Int32 × MS)} (hself4 : ∀ (x1 : Int32) (x2 : Int32) (I : Nat → Int32) (A : Nat → Nat → Int32) (H : Heap) (locs : List Loc) (ls : Array Slot), self4 x1 x2 I A = some o → mH D cy ci h A0 s H locs I A → lv_has ls 11 [(0, .ref (h 0)), (1, .int x1), (2, .int x2)] → W p l e ({ frames := 1, cells := 0, slots := 0, locals := 21 } : Room) s m args below meth c H locs 0 0 Q (F0 m 4 ls [])) {self247 : Int32 → Int32 → Int32 → Int32 → Int32 → Int32 → Int32 → Int32 → Int32 → (Nat → Int32) → (Nat → Nat → Int32) → Option (Int32 × MS)} (hself247 : ∀ (x1 : Int32) (x2 : Int32) (x4 : Int32) (x5 : Int32) (x6 : Int32) (x7 : Int32) (x8 : Int32) (x9 : Int32) (x10 : Int32) (I : Nat → Int32) (A : Nat → Nat → Int32) (H : Heap) (locs : List Loc) (ls : Array Slot), self247 x1 x2 x4 x5 x6 x7 x8 x9 x10 I A = some o → mH D cy ci h A0 s H locs I A → lv_has ls 11 [(0, .ref (h 0)), (1, .int x1), (2, .int x2), (4, .int x4), (5, .int x5), (6, .int x6), (7, .int x7), (8, .int x8), (9, .int x9), (10, .int x10)] → W p l e ({ frames := 1, cells := 0, slots := 0, locals := 21 } : Room) s m args below meth c H locs 0 0 Q (F0 m 247 ls [])) {x1 : Int32} {x2 : Int32} {x4 : Int32} {x5 : Int32} {x6 : Int32} {x7 : Int32} {x8 : Int32} {x9 : Int32} {x10 : Int32} {I : Nat → Int32} {A : Nat → Nat → Int32} {H : Heap} {locs : List Loc} {ls : Array Slot} (hf : f_readRemarks_247s self4 self247 x1 x2 x4 x5 x6 x7 x8 x9 x10 I A = some o) (hM : mH D cy ci h A0 s H locs I A) (hl : lv_has ls 11 [(0, .ref (h 0)), (1, .int x1), (2, .int x2), (4, .int x4), (5, .int x5), (6, .int x6), (7, .int x7), (8, .int x8), (9, .int x9), (10, .int x10)]) : W p l e ({ frames := 1, cells := 0, slots := 0, locals := 21 } : Room) s m args below meth c H locs 0 0 Q (F0 m 247 ls []) := by
  obtain ⟨hx, hb, hml, hown, hts⟩ := id X
  unfold f_readRemarks_247s at hf
  refine lv_iload hx hb dX12_readRemarks_247 (lv_at hl 9 rfl) ?_
  refine lv_iload hx hb dX12_readRemarks_249 (lv_at hl 5 rfl) ?_
  refine lv_icmp_ge (tgt := 310) hx hb dX12_readRemarks_251 (by decide) (fun cc1 => ?_) (fun cc1 => ?_)
  · replace hf := m_ifT hf cc1
    refine lv_aload_n hx hb dX12_readRemarks_310 rfl (lv_at hl 0 rfl) ?_
    refine m_get (v := .ref (h 14)) X hw_readRemarks hM 14 (by decide) fl_readRemarks_14 rfl dX12_readRemarks_311 ?_
    refine lv_iload hx hb dX12_readRemarks_314 (lv_at hl 6 rfl) ?_
    refine lv_iload hx hb dX12_readRemarks_316 (lv_at hl 7 rfl) ?_
    refine lv_iload hx hb dX12_readRemarks_318 (lv_at hl 8 rfl) ?_
    refine lv_iadd hx hb dX12_readRemarks_320 ?_
    obtain ⟨v1, ev, hf⟩ := m_bndE hf
    refine m_top ev ?_
    clear ev
    refine lv_iload hx hb dX12_readRemarks_321 (lv_at hl 5 rfl) ?_
    refine lv_iadd hx hb dX12_readRemarks_323 ?_
    obtain ⟨v2, ev, hf⟩ := m_bndE hf
    refine m_top ev ?_
    clear ev
    obtain ⟨cd, hf⟩ := m_chkE hf
    refine m_iast X hM 14 10 602 rfl ma_14 cd dX12_readRemarks_324 (fun H locs hM => ?_)
    clear cd
    obtain ⟨A3, ev, hf⟩ := m_bndE hf
    replace hM := m_hA hM ev
    clear ev
    refine lv_aload_n hx hb dX12_readRemarks_325 rfl (lv_at hl 0 rfl) ?_
    refine lv_iload hx hb dX12_readRemarks_326 (lv_at hl 3 rfl) ?_
    refine lv_if_eq (tgt := 340) hx hb dX12_readRemarks_328 (by decide) (fun cc1 => ?_) (fun cc1 => ?_)
    · replace hf := m_ifT hf cc1
      refine lv_aload_n hx hb dX12_readRemarks_340 rfl (lv_at hl 0 rfl) ?_
      refine m_get (v := .int (I 37)) X hw_readRemarks hM 37 (by decide) fl_readRemarks_37 rfl dX12_readRemarks_341 ?_
      exact w_readRemarks_344 X hret hself4 hf hM (lv_sub hl [0, 1, 2] rfl)
    · replace hf := m_ifF hf cc1
      refine lv_aload_n hx hb dX12_readRemarks_331 rfl (lv_at hl 0 rfl) ?_
      refine m_get (v := .int (I 37)) X hw_readRemarks hM 37 (by decide) fl_readRemarks_37 rfl dX12_readRemarks_332 ?_
      refine lv_iconst (v := (1 : Int32)) hx hb dX12_readRemarks_335 (by decide) ?_
      refine lv_iadd hx hb dX12_readRemarks_336 ?_
      obtain ⟨v4, ev, hf⟩ := m_bndE hf
      refine m_top ev ?_
      clear ev
      refine lv_goto (tgt := 344) hx hb dX12_readRemarks_337 (by decide) ?_
      exact w_readRemarks_344 X hret hself4 hf hM (lv_sub hl [0, 1, 2] rfl)
  · replace hf := m_ifF hf cc1
    refine lv_aload_n hx hb dX12_readRemarks_254 rfl (lv_at hl 0 rfl) ?_
    refine m_get (v := .ref (h 15)) X hw_readRemarks hM 15 (by decide) fl_readRemarks_15 rfl dX12_readRemarks_255 ?_
    refine lv_sipush (v := (200 : Int32)) hx hb dX12_readRemarks_258 (by decide) ?_
    refine lv_iload hx hb dX12_readRemarks_261 (lv_at hl 6 rfl) ?_
    refine lv_imul hx hb dX12_readRemarks_263 ?_
    obtain ⟨v5, ev, hf⟩ := m_bndE hf
    refine m_top ev ?_
    clear ev
    refine lv_iload hx hb dX12_readRemarks_264 (lv_at hl 7 rfl) ?_
    refine lv_iadd hx hb dX12_readRemarks_266 ?_
    obtain ⟨v6, ev, hf⟩ := m_bndE hf
    refine m_top ev ?_
    clear ev
    refine lv_iload hx hb dX12_readRemarks_267 (lv_at hl 8 rfl) ?_
    refine lv_iadd hx hb dX12_readRemarks_269 ?_
    obtain ⟨v7, ev, hf⟩ := m_bndE hf
    refine m_top ev ?_
    clear ev
    refine lv_iload hx hb dX12_readRemarks_270 (lv_at hl 9 rfl) ?_
    refine lv_iadd hx hb dX12_readRemarks_272 ?_
    obtain ⟨v8, ev, hf⟩ := m_bndE hf
    refine m_top ev ?_
    clear ev
    refine lv_aload_n hx hb dX12_readRemarks_273 rfl (lv_at hl 0 rfl) ?_
    refine m_get (v := .ref (h 2)) X hw_readRemarks hM 2 (by decide) fl_readRemarks_2 rfl dX12_readRemarks_274 ?_
    refine lv_iload hx hb dX12_readRemarks_277 (lv_at hl 4 rfl) ?_
    refine lv_iload hx hb dX12_readRemarks_279 (lv_at hl 9 rfl) ?_
    refine lv_iadd hx hb dX12_readRemarks_281 ?_
    obtain ⟨v9, ev, hf⟩ := m_bndE hf
    refine m_top ev ?_
    clear ev
    obtain ⟨cd, hf⟩ := m_chkE hf
    refine m_cald X hM 2 1 2000 rfl cd dX12_readRemarks_282 ?_
    clear cd
    obtain ⟨v10, ev, hf⟩ := m_bndE hf
    refine m_top ev ?_
    clear ev
    refine lv_bipush (v := (10 : Int32)) hx hb dX12_readRemarks_283 (by decide) ?_
    refine lv_icmp_ne (tgt := 293) hx hb dX12_readRemarks_285 (by decide) (fun cc1 => ?_) (fun cc1 => ?_)
    · replace hf := m_ifF hf cc1
      refine lv_aload_n hx hb dX12_readRemarks_293 rfl (lv_at hl 0 rfl) ?_
      refine m_get (v := .ref (h 2)) X hw_readRemarks hM 2 (by decide) fl_readRemarks_2 rfl dX12_readRemarks_294 ?_
      refine lv_iload hx hb dX12_readRemarks_297 (lv_at hl 4 rfl) ?_
      refine lv_iload hx hb dX12_readRemarks_299 (lv_at hl 9 rfl) ?_
      refine lv_iadd hx hb dX12_readRemarks_301 ?_
      obtain ⟨v11, ev, hf⟩ := m_bndE hf
      refine m_top ev ?_
      clear ev
      obtain ⟨cd, hf⟩ := m_chkE hf
      refine m_cald X hM 2 1 2000 rfl cd dX12_readRemarks_302 ?_
      clear cd
      obtain ⟨v12, ev, hf⟩ := m_bndE hf
      refine m_top ev ?_
      clear ev
      exact w_readRemarks_303 X hret hself4 hself247 hf hM (lv_sub hl [0, 1, 2, 3, 4, 5, 6, 7, 8, 9] rfl)
    · replace hf := m_ifT hf cc1
      refine lv_bipush (v := (32 : Int32)) hx hb dX12_readRemarks_288 (by decide) ?_
      refine lv_goto (tgt := 303) hx hb dX12_readRemarks_290 (by decide) ?_
      exact w_readRemarks_303 X hret hself4 hself247 hf hM (lv_sub hl [0, 1, 2, 3, 4, 5, 6, 7, 8, 9] rfl)
def f_readRemarks_247 (self4 : Int32 → Int32 → (Nat → Int32) → (Nat → Nat → Int32) → Option (Int32 × MS)) : Nat → Int32 → Int32 → Int32 → Int32 → Int32 → Int32 → Int32 → Int32 → Int32 → (Nat → Int32) → (Nat → Nat → Int32) → Option (Int32 × MS)
  | 0 => fun _ _ _ _ _ _ _ _ _ _ _ => none
  | n + 1 => f_readRemarks_247s self4 (f_readRemarks_247 self4 n)
theorem w_readRemarks_247 {p : Program} {l : Launch} {e : Env} {s : State} {m : MethodId} {args : Array Value} {below : List Frame} {meth : Method} {c : Code} {Q : State → Prop} {D : va_G} {cy ci : ClassId} {h : Nat → Nat} {A0 : Nat → Prop} {o : Int32 × MS} (X : CallFix p m c cX12_readRemarks 11 s args wsX12_readRemarks RX12) (hret : mRi p l e ({ frames := 1, cells := 0, slots := 0, locals := 21 } : Room) s m args below meth c Q cX12_readRemarks D cy ci h A0 .int o) {self4 : Int32 → Int32 → (Nat → Int32) → (Nat → Nat → Int32) → Option (Int32 × MS)} (hself4 : ∀ (x1 : Int32) (x2 : Int32) (I : Nat → Int32) (A : Nat → Nat → Int32) (H : Heap) (locs : List Loc) (ls : Array Slot), self4 x1 x2 I A = some o → mH D cy ci h A0 s H locs I A → lv_has ls 11 [(0, .ref (h 0)), (1, .int x1), (2, .int x2)] → W p l e ({ frames := 1, cells := 0, slots := 0, locals := 21 } : Room) s m args below meth c H locs 0 0 Q (F0 m 4 ls [])) (n : Nat) : ∀ (x1 : Int32) (x2 : Int32) (x4 : Int32) (x5 : Int32) (x6 : Int32) (x7 : Int32) (x8 : Int32) (x9 : Int32) (x10 : Int32) (I : Nat → Int32) (A : Nat → Nat → Int32) (H : Heap) (locs : List Loc) (ls : Array Slot), f_readRemarks_247 self4 n x1 x2 x4 x5 x6 x7 x8 x9 x10 I A = some o → mH D cy ci h A0 s H locs I A → lv_has ls 11 [(0, .ref (h 0)), (1, .int x1), (2, .int x2), (4, .int x4), (5, .int x5), (6, .int x6), (7, .int x7), (8, .int x8), (9, .int x9), (10, .int x10)] → W p l e ({ frames := 1, cells := 0, slots := 0, locals := 21 } : Room) s m args below meth c H locs 0 0 Q (F0 m 247 ls []) := by
  induction n with
  | zero => intro x1 x2 x4 x5 x6 x7 x8 x9 x10 I A H locs ls hf; cases hf
  | succ n ih => intro x1 x2 x4 x5 x6 x7 x8 x9 x10 I A H locs ls hf hM hl; exact ws_readRemarks_247 X hret hself4 (self247 := f_readRemarks_247 self4 n) ih hf hM hl
def f_readRemarks_244 (self4 : Int32 → Int32 → (Nat → Int32) → (Nat → Nat → Int32) → Option (Int32 × MS)) (x1 : Int32) (x2 : Int32) (x4 : Int32) (x5 : Int32) (x6 : Int32) (x7 : Int32) (x8 : Int32) (x9 : Int32) (I : Nat → Int32) (A : Nat → Nat → Int32) : Option (Int32 × MS) :=
  f_readRemarks_247 self4 mFuel x1 x2 x4 x5 x6 x7 x8 x9 (0 : Int32) I A

set_option maxRecDepth 100000 in
set_option maxHeartbeats 4000000 in
theorem w_readRemarks_244 {p : Program} {l : Launch} {e : Env} {s : State} {m : MethodId} {args : Array Value} {below : List Frame} {meth : Method} {c : Code} {Q : State → Prop} {D : va_G} {cy ci : ClassId} {h : Nat → Nat} {A0 : Nat → Prop} {o : Int32 × MS} (X : CallFix p m c cX12_readRemarks 11 s args wsX12_readRemarks RX12) (hret : mRi p l e ({ frames := 1, cells := 0, slots := 0, locals := 21 } : Room) s m args below meth c Q cX12_readRemarks D cy ci h A0 .int o) {self4 : Int32 → Int32 → (Nat → Int32) → (Nat → Nat → Int32) → Option (Int32 × MS)} (hself4 : ∀ (x1 : Int32) (x2 : Int32) (I : Nat → Int32) (A : Nat → Nat → Int32) (H : Heap) (locs : List Loc) (ls : Array Slot), self4 x1 x2 I A = some o → mH D cy ci h A0 s H locs I A → lv_has ls 11 [(0, .ref (h 0)), (1, .int x1), (2, .int x2)] → W p l e ({ frames := 1, cells := 0, slots := 0, locals := 21 } : Room) s m args below meth c H locs 0 0 Q (F0 m 4 ls [])) {x1 : Int32} {x2 : Int32} {x4 : Int32} {x5 : Int32} {x6 : Int32} {x7 : Int32} {x8 : Int32} {x9 : Int32} {I : Nat → Int32} {A : Nat → Nat → Int32} {H : Heap} {locs : List Loc} {ls : Array Slot} (hf : f_readRemarks_244 self4 x1 x2 x4 x5 x6 x7 x8 x9 I A = some o) (hM : mH D cy ci h A0 s H locs I A) (hl : lv_has ls 11 [(0, .ref (h 0)), (1, .int x1), (2, .int x2), (4, .int x4), (5, .int x5), (6, .int x6), (7, .int x7), (8, .int x8), (9, .int x9)]) : W p l e ({ frames := 1, cells := 0, slots := 0, locals := 21 } : Room) s m args below meth c H locs 0 0 Q (F0 m 244 ls []) := by
  obtain ⟨hx, hb, hml, hown, hts⟩ := id X
  unfold f_readRemarks_244 at hf
  refine lv_iconst (v := (0 : Int32)) hx hb dX12_readRemarks_244 (by decide) ?_
  refine lv_istore (lv' := [(10, .int (0 : Int32)), (0, .ref (h 0)), (1, .int x1), (2, .int x2), (4, .int x4), (5, .int x5), (6, .int x6), (7, .int x7), (8, .int x8), (9, .int x9)]) hx hb dX12_readRemarks_245 hl (by decide) rfl (fun ls hl => ?_)
  exact w_readRemarks_247 X hret hself4 _ _ _ _ _ _ _ _ _ _ _ _ _ _ _ hf hM (lv_sub hl [1, 2, 3, 4, 5, 6, 7, 8, 9, 0] rfl)
def f_readRemarks_199 (self4 : Int32 → Int32 → (Nat → Int32) → (Nat → Nat → Int32) → Option (Int32 × MS)) (x1 : Int32) (x2 : Int32) (x3 : Int32) (x4 : Int32) (x5 : Int32) (x6 : Int32) (x7 : Int32) (x8 : Int32) (t0 : Int32) (I : Nat → Int32) (A : Nat → Nat → Int32) : Option (Int32 × MS) :=
  m_bnd (x8 + t0) (fun v1 =>
  m_bnd (v1 + x6) (fun v2 =>
  m_if (v2 ≤ (200 : Int32)) (
  m_if (t0 = (1 : Int32)) (
  m_bnd ((200 : Int32) * x7) (fun v3 =>
  m_bnd (v3 + x8) (fun v4 =>
  m_chk (¬ (v4 < 0 ∨ 120400 ≤ (v4).toNatClampNeg)) (
  m_bnd (va_up A 15 (upd (A 15) (v4).toNatClampNeg (vp_nar .char (32 : Int32)))) (fun A5 =>
  f_readRemarks_244 self4 x1 x2 x4 x5 x6 x7 x8 t0 I A5))))
  ) (
  f_readRemarks_244 self4 x1 x2 x4 x5 x6 x7 x8 t0 I A
  )
  ) (
  m_cl (f_fault (8 : Int32) x3 I A) (fun r6 Ic6 Ac6 =>
  some (r6, (Ic6, Ac6)))
  )))

set_option maxRecDepth 100000 in
set_option maxHeartbeats 4000000 in
theorem w_readRemarks_199 {p : Program} {l : Launch} {e : Env} {s : State} {m : MethodId} {args : Array Value} {below : List Frame} {meth : Method} {c : Code} {Q : State → Prop} {D : va_G} {cy ci : ClassId} {h : Nat → Nat} {A0 : Nat → Prop} {o : Int32 × MS} (X : CallFix p m c cX12_readRemarks 11 s args wsX12_readRemarks RX12) (hret : mRi p l e ({ frames := 1, cells := 0, slots := 0, locals := 21 } : Room) s m args below meth c Q cX12_readRemarks D cy ci h A0 .int o) {self4 : Int32 → Int32 → (Nat → Int32) → (Nat → Nat → Int32) → Option (Int32 × MS)} (hself4 : ∀ (x1 : Int32) (x2 : Int32) (I : Nat → Int32) (A : Nat → Nat → Int32) (H : Heap) (locs : List Loc) (ls : Array Slot), self4 x1 x2 I A = some o → mH D cy ci h A0 s H locs I A → lv_has ls 11 [(0, .ref (h 0)), (1, .int x1), (2, .int x2)] → W p l e ({ frames := 1, cells := 0, slots := 0, locals := 21 } : Room) s m args below meth c H locs 0 0 Q (F0 m 4 ls [])) {x1 : Int32} {x2 : Int32} {x3 : Int32} {x4 : Int32} {x5 : Int32} {x6 : Int32} {x7 : Int32} {x8 : Int32} {t0 : Int32} {I : Nat → Int32} {A : Nat → Nat → Int32} {H : Heap} {locs : List Loc} {ls : Array Slot} (hf : f_readRemarks_199 self4 x1 x2 x3 x4 x5 x6 x7 x8 t0 I A = some o) (hM : mH D cy ci h A0 s H locs I A) (hl : lv_has ls 11 [(0, .ref (h 0)), (1, .int x1), (2, .int x2), (3, .int x3), (4, .int x4), (5, .int x5), (6, .int x6), (7, .int x7), (8, .int x8)]) : W p l e ({ frames := 1, cells := 0, slots := 0, locals := 21 } : Room) s m args below meth c H locs 0 0 Q (F0 m 199 ls [.int t0]) := by
  obtain ⟨hx, hb, hml, hown, hts⟩ := id X
  unfold f_readRemarks_199 at hf
  refine lv_istore (lv' := [(9, .int t0), (0, .ref (h 0)), (1, .int x1), (2, .int x2), (3, .int x3), (4, .int x4), (5, .int x5), (6, .int x6), (7, .int x7), (8, .int x8)]) hx hb dX12_readRemarks_199 hl (by decide) rfl (fun ls hl => ?_)
  refine lv_iload hx hb dX12_readRemarks_201 (lv_at hl 9 rfl) ?_
  refine lv_iload hx hb dX12_readRemarks_203 (lv_at hl 0 rfl) ?_
  refine lv_iadd hx hb dX12_readRemarks_205 ?_
  obtain ⟨v1, ev, hf⟩ := m_bndE hf
  refine m_top ev ?_
  clear ev
  refine lv_iload hx hb dX12_readRemarks_206 (lv_at hl 7 rfl) ?_
  refine lv_iadd hx hb dX12_readRemarks_208 ?_
  obtain ⟨v2, ev, hf⟩ := m_bndE hf
  refine m_top ev ?_
  clear ev
  refine lv_sipush (v := (200 : Int32)) hx hb dX12_readRemarks_209 (by decide) ?_
  refine lv_icmp_le (tgt := 222) hx hb dX12_readRemarks_212 (by decide) (fun cc1 => ?_) (fun cc1 => ?_)
  · replace hf := m_ifT hf cc1
    refine lv_iload hx hb dX12_readRemarks_222 (lv_at hl 0 rfl) ?_
    refine lv_iconst (v := (1 : Int32)) hx hb dX12_readRemarks_224 (by decide) ?_
    refine lv_icmp_ne (tgt := 244) hx hb dX12_readRemarks_225 (by decide) (fun cc1 => ?_) (fun cc1 => ?_)
    · replace hf := m_ifF hf cc1
      exact w_readRemarks_244 X hret hself4 hf hM (lv_sub hl [1, 2, 3, 5, 6, 7, 8, 9, 0] rfl)
    · replace hf := m_ifT hf cc1
      refine lv_aload_n hx hb dX12_readRemarks_228 rfl (lv_at hl 1 rfl) ?_
      refine m_get (v := .ref (h 15)) X hw_readRemarks hM 15 (by decide) fl_readRemarks_15 rfl dX12_readRemarks_229 ?_
      refine lv_sipush (v := (200 : Int32)) hx hb dX12_readRemarks_232 (by decide) ?_
      refine lv_iload hx hb dX12_readRemarks_235 (lv_at hl 8 rfl) ?_
      refine lv_imul hx hb dX12_readRemarks_237 ?_
      obtain ⟨v3, ev, hf⟩ := m_bndE hf
      refine m_top ev ?_
      clear ev
      refine lv_iload hx hb dX12_readRemarks_238 (lv_at hl 9 rfl) ?_
      refine lv_iadd hx hb dX12_readRemarks_240 ?_
      obtain ⟨v4, ev, hf⟩ := m_bndE hf
      refine m_top ev ?_
      clear ev
      refine lv_bipush (v := (32 : Int32)) hx hb dX12_readRemarks_241 (by decide) ?_
      obtain ⟨cd, hf⟩ := m_chkE hf
      refine m_cast X hM 15 11 120400 rfl ma_15 cd dX12_readRemarks_243 (fun H locs hM => ?_)
      clear cd
      obtain ⟨A5, ev, hf⟩ := m_bndE hf
      replace hM := m_hA hM ev
      clear ev
      exact w_readRemarks_244 X hret hself4 hf hM (lv_sub hl [1, 2, 3, 5, 6, 7, 8, 9, 0] rfl)
  · replace hf := m_ifF hf cc1
    refine lv_bipush (v := (8 : Int32)) hx hb dX12_readRemarks_215 (by decide) ?_
    refine lv_iload_n hx hb dX12_readRemarks_217 rfl (lv_at hl 4 rfl) ?_
    obtain ⟨o6, ho, hf⟩ := m_clE hf
    refine m_callSi X hM (c_fault ho) gX12_readRemarks_X12_fault rfl ⟨rfl, rfl⟩ hd_fault ⟨Nat.le_of_ble_eq_true rfl, Nat.le_of_ble_eq_true rfl⟩ rfl hl.1 rfl (Nat.le_of_ble_eq_true rfl) dX12_readRemarks_218 (fun H locs hM => ?_)
    clear ho
    cases hf
    exact hret H locs _ ls hM rfl dX12_readRemarks_221
def f_readRemarks_198 (self4 : Int32 → Int32 → (Nat → Int32) → (Nat → Nat → Int32) → Option (Int32 × MS)) (x1 : Int32) (x2 : Int32) (x3 : Int32) (x4 : Int32) (x5 : Int32) (x6 : Int32) (x7 : Int32) (x8 : Int32) (I : Nat → Int32) (A : Nat → Nat → Int32) : Option (Int32 × MS) :=
  f_readRemarks_199 self4 x1 x2 x3 x4 x5 x6 x7 x8 (0 : Int32) I A

set_option maxRecDepth 100000 in
set_option maxHeartbeats 4000000 in
theorem w_readRemarks_198 {p : Program} {l : Launch} {e : Env} {s : State} {m : MethodId} {args : Array Value} {below : List Frame} {meth : Method} {c : Code} {Q : State → Prop} {D : va_G} {cy ci : ClassId} {h : Nat → Nat} {A0 : Nat → Prop} {o : Int32 × MS} (X : CallFix p m c cX12_readRemarks 11 s args wsX12_readRemarks RX12) (hret : mRi p l e ({ frames := 1, cells := 0, slots := 0, locals := 21 } : Room) s m args below meth c Q cX12_readRemarks D cy ci h A0 .int o) {self4 : Int32 → Int32 → (Nat → Int32) → (Nat → Nat → Int32) → Option (Int32 × MS)} (hself4 : ∀ (x1 : Int32) (x2 : Int32) (I : Nat → Int32) (A : Nat → Nat → Int32) (H : Heap) (locs : List Loc) (ls : Array Slot), self4 x1 x2 I A = some o → mH D cy ci h A0 s H locs I A → lv_has ls 11 [(0, .ref (h 0)), (1, .int x1), (2, .int x2)] → W p l e ({ frames := 1, cells := 0, slots := 0, locals := 21 } : Room) s m args below meth c H locs 0 0 Q (F0 m 4 ls [])) {x1 : Int32} {x2 : Int32} {x3 : Int32} {x4 : Int32} {x5 : Int32} {x6 : Int32} {x7 : Int32} {x8 : Int32} {I : Nat → Int32} {A : Nat → Nat → Int32} {H : Heap} {locs : List Loc} {ls : Array Slot} (hf : f_readRemarks_198 self4 x1 x2 x3 x4 x5 x6 x7 x8 I A = some o) (hM : mH D cy ci h A0 s H locs I A) (hl : lv_has ls 11 [(0, .ref (h 0)), (1, .int x1), (2, .int x2), (3, .int x3), (4, .int x4), (5, .int x5), (6, .int x6), (7, .int x7), (8, .int x8)]) : W p l e ({ frames := 1, cells := 0, slots := 0, locals := 21 } : Room) s m args below meth c H locs 0 0 Q (F0 m 198 ls []) := by
  obtain ⟨hx, hb, hml, hown, hts⟩ := id X
  unfold f_readRemarks_198 at hf
  refine lv_iconst (v := (0 : Int32)) hx hb dX12_readRemarks_198 (by decide) ?_
  exact w_readRemarks_199 X hret hself4 hf hM (lv_sub hl [0, 1, 2, 3, 4, 5, 6, 7, 8] rfl)
def f_readRemarks_157 (self4 : Int32 → Int32 → (Nat → Int32) → (Nat → Nat → Int32) → Option (Int32 × MS)) (x1 : Int32) (x2 : Int32) (x3 : Int32) (x4 : Int32) (x5 : Int32) (I : Nat → Int32) (A : Nat → Nat → Int32) : Option (Int32 × MS) :=
  m_bnd ((I 37) - x5) (fun v1 =>
  m_bnd ((301 : Int32) * x1) (fun v2 =>
  m_bnd (v2 + x2) (fun v3 =>
  m_chk (¬ (v3 < 0 ∨ 602 ≤ (v3).toNatClampNeg)) (
  m_bnd (A 14 (v3).toNatClampNeg) (fun v4 =>
  m_if (v1 ≤ 0) (
  f_readRemarks_198 self4 x1 x2 x3 x4 x5 v1 v3 v4 I A
  ) (
  m_if (v4 ≤ 0) (
  f_readRemarks_198 self4 x1 x2 x3 x4 x5 v1 v3 v4 I A
  ) (
  f_readRemarks_199 self4 x1 x2 x3 x4 x5 v1 v3 v4 (1 : Int32) I A
  )
  ))))))

set_option maxRecDepth 100000 in
set_option maxHeartbeats 4000000 in
theorem w_readRemarks_157 {p : Program} {l : Launch} {e : Env} {s : State} {m : MethodId} {args : Array Value} {below : List Frame} {meth : Method} {c : Code} {Q : State → Prop} {D : va_G} {cy ci : ClassId} {h : Nat → Nat} {A0 : Nat → Prop} {o : Int32 × MS} (X : CallFix p m c cX12_readRemarks 11 s args wsX12_readRemarks RX12) (hret : mRi p l e ({ frames := 1, cells := 0, slots := 0, locals := 21 } : Room) s m args below meth c Q cX12_readRemarks D cy ci h A0 .int o) {self4 : Int32 → Int32 → (Nat → Int32) → (Nat → Nat → Int32) → Option (Int32 × MS)} (hself4 : ∀ (x1 : Int32) (x2 : Int32) (I : Nat → Int32) (A : Nat → Nat → Int32) (H : Heap) (locs : List Loc) (ls : Array Slot), self4 x1 x2 I A = some o → mH D cy ci h A0 s H locs I A → lv_has ls 11 [(0, .ref (h 0)), (1, .int x1), (2, .int x2)] → W p l e ({ frames := 1, cells := 0, slots := 0, locals := 21 } : Room) s m args below meth c H locs 0 0 Q (F0 m 4 ls [])) {x1 : Int32} {x2 : Int32} {x3 : Int32} {x4 : Int32} {x5 : Int32} {I : Nat → Int32} {A : Nat → Nat → Int32} {H : Heap} {locs : List Loc} {ls : Array Slot} (hf : f_readRemarks_157 self4 x1 x2 x3 x4 x5 I A = some o) (hM : mH D cy ci h A0 s H locs I A) (hl : lv_has ls 11 [(0, .ref (h 0)), (1, .int x1), (2, .int x2), (3, .int x3), (4, .int x4), (5, .int x5)]) : W p l e ({ frames := 1, cells := 0, slots := 0, locals := 21 } : Room) s m args below meth c H locs 0 0 Q (F0 m 157 ls []) := by
  obtain ⟨hx, hb, hml, hown, hts⟩ := id X
  unfold f_readRemarks_157 at hf
  refine lv_aload_n hx hb dX12_readRemarks_157 rfl (lv_at hl 0 rfl) ?_
  refine m_get (v := .int (I 37)) X hw_readRemarks hM 37 (by decide) fl_readRemarks_37 rfl dX12_readRemarks_158 ?_
  refine lv_iload hx hb dX12_readRemarks_161 (lv_at hl 5 rfl) ?_
  refine lv_isub hx hb dX12_readRemarks_163 ?_
  obtain ⟨v1, ev, hf⟩ := m_bndE hf
  refine m_top ev ?_
  clear ev
  refine lv_istore (lv' := [(6, .int v1), (0, .ref (h 0)), (1, .int x1), (2, .int x2), (3, .int x3), (4, .int x4), (5, .int x5)]) hx hb dX12_readRemarks_164 hl (by decide) rfl (fun ls hl => ?_)
  refine lv_sipush (v := (301 : Int32)) hx hb dX12_readRemarks_166 (by decide) ?_
  refine lv_iload_n hx hb dX12_readRemarks_169 rfl (lv_at hl 2 rfl) ?_
  refine lv_imul hx hb dX12_readRemarks_170 ?_
  obtain ⟨v2, ev, hf⟩ := m_bndE hf
  refine m_top ev ?_
  clear ev
  refine lv_iload_n hx hb dX12_readRemarks_171 rfl (lv_at hl 3 rfl) ?_
  refine lv_iadd hx hb dX12_readRemarks_172 ?_
  obtain ⟨v3, ev, hf⟩ := m_bndE hf
  refine m_top ev ?_
  clear ev
  refine lv_istore (lv' := [(7, .int v3), (6, .int v1), (0, .ref (h 0)), (1, .int x1), (2, .int x2), (3, .int x3), (4, .int x4), (5, .int x5)]) hx hb dX12_readRemarks_173 hl (by decide) rfl (fun ls hl => ?_)
  refine lv_aload_n hx hb dX12_readRemarks_175 rfl (lv_at hl 2 rfl) ?_
  refine m_get (v := .ref (h 14)) X hw_readRemarks hM 14 (by decide) fl_readRemarks_14 rfl dX12_readRemarks_176 ?_
  refine lv_iload hx hb dX12_readRemarks_179 (lv_at hl 0 rfl) ?_
  obtain ⟨cd, hf⟩ := m_chkE hf
  refine m_iald X hM 14 10 602 rfl cd dX12_readRemarks_181 ?_
  clear cd
  obtain ⟨v4, ev, hf⟩ := m_bndE hf
  refine m_top ev ?_
  clear ev
  refine lv_istore (lv' := [(8, .int v4), (7, .int v3), (6, .int v1), (0, .ref (h 0)), (1, .int x1), (2, .int x2), (3, .int x3), (4, .int x4), (5, .int x5)]) hx hb dX12_readRemarks_182 hl (by decide) rfl (fun ls hl => ?_)
  refine lv_iload hx hb dX12_readRemarks_184 (lv_at hl 2 rfl) ?_
  refine lv_if_le (tgt := 198) hx hb dX12_readRemarks_186 (by decide) (fun cc1 => ?_) (fun cc1 => ?_)
  · replace hf := m_ifT hf cc1
    exact w_readRemarks_198 X hret hself4 hf hM (lv_sub hl [3, 4, 5, 6, 7, 8, 2, 1, 0] rfl)
  · replace hf := m_ifF hf cc1
    refine lv_iload hx hb dX12_readRemarks_189 (lv_at hl 0 rfl) ?_
    refine lv_if_le (tgt := 198) hx hb dX12_readRemarks_191 (by decide) (fun cc1 => ?_) (fun cc1 => ?_)
    · replace hf := m_ifT hf cc1
      exact w_readRemarks_198 X hret hself4 hf hM (lv_sub hl [3, 4, 5, 6, 7, 8, 2, 1, 0] rfl)
    · replace hf := m_ifF hf cc1
      refine lv_iconst (v := (1 : Int32)) hx hb dX12_readRemarks_194 (by decide) ?_
      refine lv_goto (tgt := 199) hx hb dX12_readRemarks_195 (by decide) ?_
      exact w_readRemarks_199 X hret hself4 hf hM (lv_sub hl [3, 4, 5, 6, 7, 8, 2, 1, 0] rfl)
def f_readRemarks_132 (self4 : Int32 → Int32 → (Nat → Int32) → (Nat → Nat → Int32) → Option (Int32 × MS)) (x1 : Int32) (x2 : Int32) (x3 : Int32) (x4 : Int32) (x5 : Int32) (I : Nat → Int32) (A : Nat → Nat → Int32) : Option (Int32 × MS) :=
  m_if (x4 = 0) (
  f_readRemarks_157 self4 x1 x2 x3 x4 x5 I A
  ) (
  m_if ((I 37) = (I 1)) (
  m_cl (f_fault (1 : Int32) (I 37) I A) (fun r1 Ic1 Ac1 =>
  some (r1, (Ic1, Ac1)))
  ) (
  f_readRemarks_157 self4 x1 x2 x3 x4 x5 I A
  )
  )

set_option maxRecDepth 100000 in
set_option maxHeartbeats 4000000 in
theorem w_readRemarks_132 {p : Program} {l : Launch} {e : Env} {s : State} {m : MethodId} {args : Array Value} {below : List Frame} {meth : Method} {c : Code} {Q : State → Prop} {D : va_G} {cy ci : ClassId} {h : Nat → Nat} {A0 : Nat → Prop} {o : Int32 × MS} (X : CallFix p m c cX12_readRemarks 11 s args wsX12_readRemarks RX12) (hret : mRi p l e ({ frames := 1, cells := 0, slots := 0, locals := 21 } : Room) s m args below meth c Q cX12_readRemarks D cy ci h A0 .int o) {self4 : Int32 → Int32 → (Nat → Int32) → (Nat → Nat → Int32) → Option (Int32 × MS)} (hself4 : ∀ (x1 : Int32) (x2 : Int32) (I : Nat → Int32) (A : Nat → Nat → Int32) (H : Heap) (locs : List Loc) (ls : Array Slot), self4 x1 x2 I A = some o → mH D cy ci h A0 s H locs I A → lv_has ls 11 [(0, .ref (h 0)), (1, .int x1), (2, .int x2)] → W p l e ({ frames := 1, cells := 0, slots := 0, locals := 21 } : Room) s m args below meth c H locs 0 0 Q (F0 m 4 ls [])) {x1 : Int32} {x2 : Int32} {x3 : Int32} {x4 : Int32} {x5 : Int32} {I : Nat → Int32} {A : Nat → Nat → Int32} {H : Heap} {locs : List Loc} {ls : Array Slot} (hf : f_readRemarks_132 self4 x1 x2 x3 x4 x5 I A = some o) (hM : mH D cy ci h A0 s H locs I A) (hl : lv_has ls 11 [(0, .ref (h 0)), (1, .int x1), (2, .int x2), (3, .int x3), (4, .int x4), (5, .int x5)]) : W p l e ({ frames := 1, cells := 0, slots := 0, locals := 21 } : Room) s m args below meth c H locs 0 0 Q (F0 m 132 ls []) := by
  obtain ⟨hx, hb, hml, hown, hts⟩ := id X
  unfold f_readRemarks_132 at hf
  refine lv_iload hx hb dX12_readRemarks_132 (lv_at hl 4 rfl) ?_
  refine lv_if_eq (tgt := 157) hx hb dX12_readRemarks_134 (by decide) (fun cc1 => ?_) (fun cc1 => ?_)
  · replace hf := m_ifT hf cc1
    exact w_readRemarks_157 X hret hself4 hf hM (lv_sub hl [0, 1, 2, 3, 4, 5] rfl)
  · replace hf := m_ifF hf cc1
    refine lv_aload_n hx hb dX12_readRemarks_137 rfl (lv_at hl 0 rfl) ?_
    refine m_get (v := .int (I 37)) X hw_readRemarks hM 37 (by decide) fl_readRemarks_37 rfl dX12_readRemarks_138 ?_
    refine lv_aload_n hx hb dX12_readRemarks_141 rfl (lv_at hl 0 rfl) ?_
    refine m_get (v := .int (I 1)) X hw_readRemarks hM 1 (by decide) fl_readRemarks_1 rfl dX12_readRemarks_142 ?_
    refine lv_icmp_ne (tgt := 157) hx hb dX12_readRemarks_145 (by decide) (fun cc1 => ?_) (fun cc1 => ?_)
    · replace hf := m_ifF hf cc1
      exact w_readRemarks_157 X hret hself4 hf hM (lv_sub hl [0, 1, 2, 3, 4, 5] rfl)
    · replace hf := m_ifT hf cc1
      refine lv_iconst (v := (1 : Int32)) hx hb dX12_readRemarks_148 (by decide) ?_
      refine lv_aload_n hx hb dX12_readRemarks_149 rfl (lv_at hl 0 rfl) ?_
      refine m_get (v := .int (I 37)) X hw_readRemarks hM 37 (by decide) fl_readRemarks_37 rfl dX12_readRemarks_150 ?_
      obtain ⟨o1, ho, hf⟩ := m_clE hf
      refine m_callSi X hM (c_fault ho) gX12_readRemarks_X12_fault rfl ⟨rfl, rfl⟩ hd_fault ⟨Nat.le_of_ble_eq_true rfl, Nat.le_of_ble_eq_true rfl⟩ rfl hl.1 rfl (Nat.le_of_ble_eq_true rfl) dX12_readRemarks_153 (fun H locs hM => ?_)
      clear ho
      cases hf
      exact hret H locs _ ls hM rfl dX12_readRemarks_156
def f_readRemarks_119 (self4 : Int32 → Int32 → (Nat → Int32) → (Nat → Nat → Int32) → Option (Int32 × MS)) (self59 : Int32 → Int32 → Int32 → Int32 → Int32 → (Nat → Int32) → (Nat → Nat → Int32) → Option (Int32 × MS)) (x1 : Int32) (x2 : Int32) (x3 : Int32) (x4 : Int32) (x5 : Int32) (I : Nat → Int32) (A : Nat → Nat → Int32) : Option (Int32 × MS) :=
  m_bnd ((I 37) + (1 : Int32)) (fun v1 =>
  m_bnd (upd I 37 v1) (fun I2 =>
  self59 x1 x2 x3 x4 x5 I2 A))

set_option maxRecDepth 100000 in
set_option maxHeartbeats 4000000 in
theorem w_readRemarks_119 {p : Program} {l : Launch} {e : Env} {s : State} {m : MethodId} {args : Array Value} {below : List Frame} {meth : Method} {c : Code} {Q : State → Prop} {D : va_G} {cy ci : ClassId} {h : Nat → Nat} {A0 : Nat → Prop} {o : Int32 × MS} (X : CallFix p m c cX12_readRemarks 11 s args wsX12_readRemarks RX12) (hret : mRi p l e ({ frames := 1, cells := 0, slots := 0, locals := 21 } : Room) s m args below meth c Q cX12_readRemarks D cy ci h A0 .int o) {self4 : Int32 → Int32 → (Nat → Int32) → (Nat → Nat → Int32) → Option (Int32 × MS)} (hself4 : ∀ (x1 : Int32) (x2 : Int32) (I : Nat → Int32) (A : Nat → Nat → Int32) (H : Heap) (locs : List Loc) (ls : Array Slot), self4 x1 x2 I A = some o → mH D cy ci h A0 s H locs I A → lv_has ls 11 [(0, .ref (h 0)), (1, .int x1), (2, .int x2)] → W p l e ({ frames := 1, cells := 0, slots := 0, locals := 21 } : Room) s m args below meth c H locs 0 0 Q (F0 m 4 ls [])) {self59 : Int32 → Int32 → Int32 → Int32 → Int32 → (Nat → Int32) → (Nat → Nat → Int32) → Option (Int32 × MS)} (hself59 : ∀ (x1 : Int32) (x2 : Int32) (x3 : Int32) (x4 : Int32) (x5 : Int32) (I : Nat → Int32) (A : Nat → Nat → Int32) (H : Heap) (locs : List Loc) (ls : Array Slot), self59 x1 x2 x3 x4 x5 I A = some o → mH D cy ci h A0 s H locs I A → lv_has ls 11 [(0, .ref (h 0)), (1, .int x1), (2, .int x2), (3, .int x3), (4, .int x4), (5, .int x5)] → W p l e ({ frames := 1, cells := 0, slots := 0, locals := 21 } : Room) s m args below meth c H locs 0 0 Q (F0 m 59 ls [])) {x1 : Int32} {x2 : Int32} {x3 : Int32} {x4 : Int32} {x5 : Int32} {I : Nat → Int32} {A : Nat → Nat → Int32} {H : Heap} {locs : List Loc} {ls : Array Slot} (hf : f_readRemarks_119 self4 self59 x1 x2 x3 x4 x5 I A = some o) (hM : mH D cy ci h A0 s H locs I A) (hl : lv_has ls 11 [(0, .ref (h 0)), (1, .int x1), (2, .int x2), (3, .int x3), (4, .int x4), (5, .int x5)]) : W p l e ({ frames := 1, cells := 0, slots := 0, locals := 21 } : Room) s m args below meth c H locs 0 0 Q (F0 m 119 ls []) := by
  obtain ⟨hx, hb, hml, hown, hts⟩ := id X
  unfold f_readRemarks_119 at hf
  refine lv_aload_n hx hb dX12_readRemarks_119 rfl (lv_at hl 0 rfl) ?_
  refine lv_dup hx hb dX12_readRemarks_120 rfl ?_
  refine m_get (v := .int (I 37)) X hw_readRemarks hM 37 (by decide) fl_readRemarks_37 rfl dX12_readRemarks_121 ?_
  refine lv_iconst (v := (1 : Int32)) hx hb dX12_readRemarks_124 (by decide) ?_
  refine lv_iadd hx hb dX12_readRemarks_125 ?_
  obtain ⟨v1, ev, hf⟩ := m_bndE hf
  refine m_top ev ?_
  clear ev
  refine m_put X hw_readRemarks hM 37 (by decide) fl_readRemarks_37 mi_37 rfl (tyX12_ok 37 (by decide)) dX12_readRemarks_126 (fun H locs hM => ?_)
  obtain ⟨I2, ev, hf⟩ := m_bndE hf
  replace hM := m_hI hM ev
  clear ev
  refine lv_goto (tgt := 59) hx hb dX12_readRemarks_129 (by decide) ?_
  exact hself59 _ _ _ _ _ _ _ _ _ _ hf hM (lv_sub hl [0, 1, 2, 3, 4, 5] rfl)
def f_readRemarks_96 (self4 : Int32 → Int32 → (Nat → Int32) → (Nat → Nat → Int32) → Option (Int32 × MS)) (self59 : Int32 → Int32 → Int32 → Int32 → Int32 → (Nat → Int32) → (Nat → Nat → Int32) → Option (Int32 × MS)) (x1 : Int32) (x2 : Int32) (x3 : Int32) (x4 : Int32) (x5 : Int32) (I : Nat → Int32) (A : Nat → Nat → Int32) : Option (Int32 × MS) :=
  m_if (x4 = 0) (
  m_cl (f_look  I A) (fun r1 Ic1 Ac1 =>
  m_if (r1 = (125 : Int32)) (
  m_cl (f_fault (1 : Int32) (Ic1 37) Ic1 Ac1) (fun r2 Ic2 Ac2 =>
  some (r2, (Ic2, Ac2)))
  ) (
  f_readRemarks_119 self4 self59 x1 x2 x3 x4 x5 Ic1 Ac1
  ))
  ) (
  f_readRemarks_119 self4 self59 x1 x2 x3 x4 x5 I A
  )

set_option maxRecDepth 100000 in
set_option maxHeartbeats 4000000 in
theorem w_readRemarks_96 {p : Program} {l : Launch} {e : Env} {s : State} {m : MethodId} {args : Array Value} {below : List Frame} {meth : Method} {c : Code} {Q : State → Prop} {D : va_G} {cy ci : ClassId} {h : Nat → Nat} {A0 : Nat → Prop} {o : Int32 × MS} (X : CallFix p m c cX12_readRemarks 11 s args wsX12_readRemarks RX12) (hret : mRi p l e ({ frames := 1, cells := 0, slots := 0, locals := 21 } : Room) s m args below meth c Q cX12_readRemarks D cy ci h A0 .int o) {self4 : Int32 → Int32 → (Nat → Int32) → (Nat → Nat → Int32) → Option (Int32 × MS)} (hself4 : ∀ (x1 : Int32) (x2 : Int32) (I : Nat → Int32) (A : Nat → Nat → Int32) (H : Heap) (locs : List Loc) (ls : Array Slot), self4 x1 x2 I A = some o → mH D cy ci h A0 s H locs I A → lv_has ls 11 [(0, .ref (h 0)), (1, .int x1), (2, .int x2)] → W p l e ({ frames := 1, cells := 0, slots := 0, locals := 21 } : Room) s m args below meth c H locs 0 0 Q (F0 m 4 ls [])) {self59 : Int32 → Int32 → Int32 → Int32 → Int32 → (Nat → Int32) → (Nat → Nat → Int32) → Option (Int32 × MS)} (hself59 : ∀ (x1 : Int32) (x2 : Int32) (x3 : Int32) (x4 : Int32) (x5 : Int32) (I : Nat → Int32) (A : Nat → Nat → Int32) (H : Heap) (locs : List Loc) (ls : Array Slot), self59 x1 x2 x3 x4 x5 I A = some o → mH D cy ci h A0 s H locs I A → lv_has ls 11 [(0, .ref (h 0)), (1, .int x1), (2, .int x2), (3, .int x3), (4, .int x4), (5, .int x5)] → W p l e ({ frames := 1, cells := 0, slots := 0, locals := 21 } : Room) s m args below meth c H locs 0 0 Q (F0 m 59 ls [])) {x1 : Int32} {x2 : Int32} {x3 : Int32} {x4 : Int32} {x5 : Int32} {I : Nat → Int32} {A : Nat → Nat → Int32} {H : Heap} {locs : List Loc} {ls : Array Slot} (hf : f_readRemarks_96 self4 self59 x1 x2 x3 x4 x5 I A = some o) (hM : mH D cy ci h A0 s H locs I A) (hl : lv_has ls 11 [(0, .ref (h 0)), (1, .int x1), (2, .int x2), (3, .int x3), (4, .int x4), (5, .int x5)]) : W p l e ({ frames := 1, cells := 0, slots := 0, locals := 21 } : Room) s m args below meth c H locs 0 0 Q (F0 m 96 ls []) := by
  obtain ⟨hx, hb, hml, hown, hts⟩ := id X
  unfold f_readRemarks_96 at hf
  refine lv_iload hx hb dX12_readRemarks_96 (lv_at hl 4 rfl) ?_
  refine lv_if_ne (tgt := 119) hx hb dX12_readRemarks_98 (by decide) (fun cc1 => ?_) (fun cc1 => ?_)
  · replace hf := m_ifF hf cc1
    exact w_readRemarks_119 X hret hself4 hself59 hf hM (lv_sub hl [0, 1, 2, 3, 4, 5] rfl)
  · replace hf := m_ifT hf cc1
    refine lv_aload_n hx hb dX12_readRemarks_101 rfl (lv_at hl 0 rfl) ?_
    obtain ⟨o1, ho, hf⟩ := m_clE hf
    refine m_callVi X hM (c_look ho) gX12_readRemarks_X12_look rfl ⟨rfl, rfl⟩ hd_look ⟨Nat.le_of_ble_eq_true rfl, Nat.le_of_ble_eq_true rfl⟩ rfl hl.1 rfl (Nat.le_of_ble_eq_true rfl) dX12_readRemarks_102 (fun H locs hM => ?_)
    clear ho
    refine lv_bipush (v := (125 : Int32)) hx hb dX12_readRemarks_105 (by decide) ?_
    refine lv_icmp_ne (tgt := 119) hx hb dX12_readRemarks_107 (by decide) (fun cc1 => ?_) (fun cc1 => ?_)
    · replace hf := m_ifF hf cc1
      exact w_readRemarks_119 X hret hself4 hself59 hf hM (lv_sub hl [0, 1, 2, 3, 4, 5] rfl)
    · replace hf := m_ifT hf cc1
      refine lv_iconst (v := (1 : Int32)) hx hb dX12_readRemarks_110 (by decide) ?_
      refine lv_aload_n hx hb dX12_readRemarks_111 rfl (lv_at hl 0 rfl) ?_
      refine m_get (v := .int (o1.2.1 37)) X hw_readRemarks hM 37 (by decide) fl_readRemarks_37 rfl dX12_readRemarks_112 ?_
      obtain ⟨o2, ho, hf⟩ := m_clE hf
      refine m_callSi X hM (c_fault ho) gX12_readRemarks_X12_fault rfl ⟨rfl, rfl⟩ hd_fault ⟨Nat.le_of_ble_eq_true rfl, Nat.le_of_ble_eq_true rfl⟩ rfl hl.1 rfl (Nat.le_of_ble_eq_true rfl) dX12_readRemarks_115 (fun H locs hM => ?_)
      clear ho
      cases hf
      exact hret H locs _ ls hM rfl dX12_readRemarks_118
def f_readRemarks_59s (self4 : Int32 → Int32 → (Nat → Int32) → (Nat → Nat → Int32) → Option (Int32 × MS)) (self59 : Int32 → Int32 → Int32 → Int32 → Int32 → (Nat → Int32) → (Nat → Nat → Int32) → Option (Int32 × MS)) (x1 : Int32) (x2 : Int32) (x3 : Int32) (x4 : Int32) (x5 : Int32) (I : Nat → Int32) (A : Nat → Nat → Int32) : Option (Int32 × MS) :=
  m_if ((I 1) ≤ (I 37)) (
  f_readRemarks_132 self4 x1 x2 x3 x4 x5 I A
  ) (
  m_if (x4 = 0) (
  m_cl (f_look  I A) (fun r1 Ic1 Ac1 =>
  m_if (r1 = (10 : Int32)) (
  f_readRemarks_132 self4 x1 x2 x3 x4 x5 Ic1 Ac1
  ) (
  f_readRemarks_96 self4 self59 x1 x2 x3 x4 x5 Ic1 Ac1
  ))
  ) (
  m_cl (f_look  I A) (fun r2 Ic2 Ac2 =>
  m_if (r2 = (125 : Int32)) (
  f_readRemarks_132 self4 x1 x2 x3 x4 x5 Ic2 Ac2
  ) (
  f_readRemarks_96 self4 self59 x1 x2 x3 x4 x5 Ic2 Ac2
  ))
  )
  )

set_option maxRecDepth 100000 in
set_option maxHeartbeats 4000000 in
theorem ws_readRemarks_59 {p : Program} {l : Launch} {e : Env} {s : State} {m : MethodId} {args : Array Value} {below : List Frame} {meth : Method} {c : Code} {Q : State → Prop} {D : va_G} {cy ci : ClassId} {h : Nat → Nat} {A0 : Nat → Prop} {o : Int32 × MS} (X : CallFix p m c cX12_readRemarks 11 s args wsX12_readRemarks RX12) (hret : mRi p l e ({ frames := 1, cells := 0, slots := 0, locals := 21 } : Room) s m args below meth c Q cX12_readRemarks D cy ci h A0 .int o) {self4 : Int32 → Int32 → (Nat → Int32) → (Nat → Nat → Int32) → Option (Int32 × MS)} (hself4 : ∀ (x1 : Int32) (x2 : Int32) (I : Nat → Int32) (A : Nat → Nat → Int32) (H : Heap) (locs : List Loc) (ls : Array Slot), self4 x1 x2 I A = some o → mH D cy ci h A0 s H locs I A → lv_has ls 11 [(0, .ref (h 0)), (1, .int x1), (2, .int x2)] → W p l e ({ frames := 1, cells := 0, slots := 0, locals := 21 } : Room) s m args below meth c H locs 0 0 Q (F0 m 4 ls [])) {self59 : Int32 → Int32 → Int32 → Int32 → Int32 → (Nat → Int32) → (Nat → Nat → Int32) → Option (Int32 × MS)} (hself59 : ∀ (x1 : Int32) (x2 : Int32) (x3 : Int32) (x4 : Int32) (x5 : Int32) (I : Nat → Int32) (A : Nat → Nat → Int32) (H : Heap) (locs : List Loc) (ls : Array Slot), self59 x1 x2 x3 x4 x5 I A = some o → mH D cy ci h A0 s H locs I A → lv_has ls 11 [(0, .ref (h 0)), (1, .int x1), (2, .int x2), (3, .int x3), (4, .int x4), (5, .int x5)] → W p l e ({ frames := 1, cells := 0, slots := 0, locals := 21 } : Room) s m args below meth c H locs 0 0 Q (F0 m 59 ls [])) {x1 : Int32} {x2 : Int32} {x3 : Int32} {x4 : Int32} {x5 : Int32} {I : Nat → Int32} {A : Nat → Nat → Int32} {H : Heap} {locs : List Loc} {ls : Array Slot} (hf : f_readRemarks_59s self4 self59 x1 x2 x3 x4 x5 I A = some o) (hM : mH D cy ci h A0 s H locs I A) (hl : lv_has ls 11 [(0, .ref (h 0)), (1, .int x1), (2, .int x2), (3, .int x3), (4, .int x4), (5, .int x5)]) : W p l e ({ frames := 1, cells := 0, slots := 0, locals := 21 } : Room) s m args below meth c H locs 0 0 Q (F0 m 59 ls []) := by
  obtain ⟨hx, hb, hml, hown, hts⟩ := id X
  unfold f_readRemarks_59s at hf
  refine lv_aload_n hx hb dX12_readRemarks_59 rfl (lv_at hl 0 rfl) ?_
  refine m_get (v := .int (I 37)) X hw_readRemarks hM 37 (by decide) fl_readRemarks_37 rfl dX12_readRemarks_60 ?_
  refine lv_aload_n hx hb dX12_readRemarks_63 rfl (lv_at hl 0 rfl) ?_
  refine m_get (v := .int (I 1)) X hw_readRemarks hM 1 (by decide) fl_readRemarks_1 rfl dX12_readRemarks_64 ?_
  refine lv_icmp_ge (tgt := 132) hx hb dX12_readRemarks_67 (by decide) (fun cc1 => ?_) (fun cc1 => ?_)
  · replace hf := m_ifT hf cc1
    exact w_readRemarks_132 X hret hself4 hf hM (lv_sub hl [0, 1, 2, 3, 4, 5] rfl)
  · replace hf := m_ifF hf cc1
    refine lv_iload hx hb dX12_readRemarks_70 (lv_at hl 4 rfl) ?_
    refine lv_if_eq (tgt := 87) hx hb dX12_readRemarks_72 (by decide) (fun cc1 => ?_) (fun cc1 => ?_)
    · replace hf := m_ifT hf cc1
      refine lv_aload_n hx hb dX12_readRemarks_87 rfl (lv_at hl 0 rfl) ?_
      obtain ⟨o1, ho, hf⟩ := m_clE hf
      refine m_callVi X hM (c_look ho) gX12_readRemarks_X12_look rfl ⟨rfl, rfl⟩ hd_look ⟨Nat.le_of_ble_eq_true rfl, Nat.le_of_ble_eq_true rfl⟩ rfl hl.1 rfl (Nat.le_of_ble_eq_true rfl) dX12_readRemarks_88 (fun H locs hM => ?_)
      clear ho
      refine lv_bipush (v := (10 : Int32)) hx hb dX12_readRemarks_91 (by decide) ?_
      refine lv_icmp_eq (tgt := 132) hx hb dX12_readRemarks_93 (by decide) (fun cc1 => ?_) (fun cc1 => ?_)
      · replace hf := m_ifT hf cc1
        exact w_readRemarks_132 X hret hself4 hf hM (lv_sub hl [0, 1, 2, 3, 4, 5] rfl)
      · replace hf := m_ifF hf cc1
        exact w_readRemarks_96 X hret hself4 hself59 hf hM (lv_sub hl [0, 1, 2, 3, 4, 5] rfl)
    · replace hf := m_ifF hf cc1
      refine lv_aload_n hx hb dX12_readRemarks_75 rfl (lv_at hl 0 rfl) ?_
      obtain ⟨o2, ho, hf⟩ := m_clE hf
      refine m_callVi X hM (c_look ho) gX12_readRemarks_X12_look rfl ⟨rfl, rfl⟩ hd_look ⟨Nat.le_of_ble_eq_true rfl, Nat.le_of_ble_eq_true rfl⟩ rfl hl.1 rfl (Nat.le_of_ble_eq_true rfl) dX12_readRemarks_76 (fun H locs hM => ?_)
      clear ho
      refine lv_bipush (v := (125 : Int32)) hx hb dX12_readRemarks_79 (by decide) ?_
      refine lv_icmp_eq (tgt := 132) hx hb dX12_readRemarks_81 (by decide) (fun cc1 => ?_) (fun cc1 => ?_)
      · replace hf := m_ifT hf cc1
        exact w_readRemarks_132 X hret hself4 hf hM (lv_sub hl [0, 1, 2, 3, 4, 5] rfl)
      · replace hf := m_ifF hf cc1
        refine lv_goto (tgt := 96) hx hb dX12_readRemarks_84 (by decide) ?_
        exact w_readRemarks_96 X hret hself4 hself59 hf hM (lv_sub hl [0, 1, 2, 3, 4, 5] rfl)
def f_readRemarks_59 (self4 : Int32 → Int32 → (Nat → Int32) → (Nat → Nat → Int32) → Option (Int32 × MS)) : Nat → Int32 → Int32 → Int32 → Int32 → Int32 → (Nat → Int32) → (Nat → Nat → Int32) → Option (Int32 × MS)
  | 0 => fun _ _ _ _ _ _ _ => none
  | n + 1 => f_readRemarks_59s self4 (f_readRemarks_59 self4 n)
theorem w_readRemarks_59 {p : Program} {l : Launch} {e : Env} {s : State} {m : MethodId} {args : Array Value} {below : List Frame} {meth : Method} {c : Code} {Q : State → Prop} {D : va_G} {cy ci : ClassId} {h : Nat → Nat} {A0 : Nat → Prop} {o : Int32 × MS} (X : CallFix p m c cX12_readRemarks 11 s args wsX12_readRemarks RX12) (hret : mRi p l e ({ frames := 1, cells := 0, slots := 0, locals := 21 } : Room) s m args below meth c Q cX12_readRemarks D cy ci h A0 .int o) {self4 : Int32 → Int32 → (Nat → Int32) → (Nat → Nat → Int32) → Option (Int32 × MS)} (hself4 : ∀ (x1 : Int32) (x2 : Int32) (I : Nat → Int32) (A : Nat → Nat → Int32) (H : Heap) (locs : List Loc) (ls : Array Slot), self4 x1 x2 I A = some o → mH D cy ci h A0 s H locs I A → lv_has ls 11 [(0, .ref (h 0)), (1, .int x1), (2, .int x2)] → W p l e ({ frames := 1, cells := 0, slots := 0, locals := 21 } : Room) s m args below meth c H locs 0 0 Q (F0 m 4 ls [])) (n : Nat) : ∀ (x1 : Int32) (x2 : Int32) (x3 : Int32) (x4 : Int32) (x5 : Int32) (I : Nat → Int32) (A : Nat → Nat → Int32) (H : Heap) (locs : List Loc) (ls : Array Slot), f_readRemarks_59 self4 n x1 x2 x3 x4 x5 I A = some o → mH D cy ci h A0 s H locs I A → lv_has ls 11 [(0, .ref (h 0)), (1, .int x1), (2, .int x2), (3, .int x3), (4, .int x4), (5, .int x5)] → W p l e ({ frames := 1, cells := 0, slots := 0, locals := 21 } : Room) s m args below meth c H locs 0 0 Q (F0 m 59 ls []) := by
  induction n with
  | zero => intro x1 x2 x3 x4 x5 I A H locs ls hf; cases hf
  | succ n ih => intro x1 x2 x3 x4 x5 I A H locs ls hf hM hl; exact ws_readRemarks_59 X hret hself4 (self59 := f_readRemarks_59 self4 n) ih hf hM hl
def f_readRemarks_41 (self4 : Int32 → Int32 → (Nat → Int32) → (Nat → Nat → Int32) → Option (Int32 × MS)) (x1 : Int32) (x2 : Int32) (x3 : Int32) (t0 : Int32) (I : Nat → Int32) (A : Nat → Nat → Int32) : Option (Int32 × MS) :=
  m_bnd ((I 37) + (1 : Int32)) (fun v1 =>
  m_bnd (upd I 37 v1) (fun I2 =>
  f_readRemarks_59 self4 mFuel x1 x2 x3 t0 (I2 37) I2 A))

set_option maxRecDepth 100000 in
set_option maxHeartbeats 4000000 in
theorem w_readRemarks_41 {p : Program} {l : Launch} {e : Env} {s : State} {m : MethodId} {args : Array Value} {below : List Frame} {meth : Method} {c : Code} {Q : State → Prop} {D : va_G} {cy ci : ClassId} {h : Nat → Nat} {A0 : Nat → Prop} {o : Int32 × MS} (X : CallFix p m c cX12_readRemarks 11 s args wsX12_readRemarks RX12) (hret : mRi p l e ({ frames := 1, cells := 0, slots := 0, locals := 21 } : Room) s m args below meth c Q cX12_readRemarks D cy ci h A0 .int o) {self4 : Int32 → Int32 → (Nat → Int32) → (Nat → Nat → Int32) → Option (Int32 × MS)} (hself4 : ∀ (x1 : Int32) (x2 : Int32) (I : Nat → Int32) (A : Nat → Nat → Int32) (H : Heap) (locs : List Loc) (ls : Array Slot), self4 x1 x2 I A = some o → mH D cy ci h A0 s H locs I A → lv_has ls 11 [(0, .ref (h 0)), (1, .int x1), (2, .int x2)] → W p l e ({ frames := 1, cells := 0, slots := 0, locals := 21 } : Room) s m args below meth c H locs 0 0 Q (F0 m 4 ls [])) {x1 : Int32} {x2 : Int32} {x3 : Int32} {t0 : Int32} {I : Nat → Int32} {A : Nat → Nat → Int32} {H : Heap} {locs : List Loc} {ls : Array Slot} (hf : f_readRemarks_41 self4 x1 x2 x3 t0 I A = some o) (hM : mH D cy ci h A0 s H locs I A) (hl : lv_has ls 11 [(0, .ref (h 0)), (1, .int x1), (2, .int x2), (3, .int x3)]) : W p l e ({ frames := 1, cells := 0, slots := 0, locals := 21 } : Room) s m args below meth c H locs 0 0 Q (F0 m 41 ls [.int t0]) := by
  obtain ⟨hx, hb, hml, hown, hts⟩ := id X
  unfold f_readRemarks_41 at hf
  refine lv_istore (lv' := [(4, .int t0), (0, .ref (h 0)), (1, .int x1), (2, .int x2), (3, .int x3)]) hx hb dX12_readRemarks_41 hl (by decide) rfl (fun ls hl => ?_)
  refine lv_aload_n hx hb dX12_readRemarks_43 rfl (lv_at hl 1 rfl) ?_
  refine lv_dup hx hb dX12_readRemarks_44 rfl ?_
  refine m_get (v := .int (I 37)) X hw_readRemarks hM 37 (by decide) fl_readRemarks_37 rfl dX12_readRemarks_45 ?_
  refine lv_iconst (v := (1 : Int32)) hx hb dX12_readRemarks_48 (by decide) ?_
  refine lv_iadd hx hb dX12_readRemarks_49 ?_
  obtain ⟨v1, ev, hf⟩ := m_bndE hf
  refine m_top ev ?_
  clear ev
  refine m_put X hw_readRemarks hM 37 (by decide) fl_readRemarks_37 mi_37 rfl (tyX12_ok 37 (by decide)) dX12_readRemarks_50 (fun H locs hM => ?_)
  obtain ⟨I2, ev, hf⟩ := m_bndE hf
  replace hM := m_hI hM ev
  clear ev
  refine lv_aload_n hx hb dX12_readRemarks_53 rfl (lv_at hl 1 rfl) ?_
  refine m_get (v := .int (I2 37)) X hw_readRemarks hM 37 (by decide) fl_readRemarks_37 rfl dX12_readRemarks_54 ?_
  refine lv_istore (lv' := [(5, .int (I2 37)), (4, .int t0), (0, .ref (h 0)), (1, .int x1), (2, .int x2), (3, .int x3)]) hx hb dX12_readRemarks_57 hl (by decide) rfl (fun ls hl => ?_)
  exact w_readRemarks_59 X hret hself4 _ _ _ _ _ _ _ _ _ _ _ hf hM (lv_sub hl [2, 3, 4, 5, 1, 0] rfl)
def f_readRemarks_22 (self4 : Int32 → Int32 → (Nat → Int32) → (Nat → Nat → Int32) → Option (Int32 × MS)) (x1 : Int32) (x2 : Int32) (I : Nat → Int32) (A : Nat → Nat → Int32) : Option (Int32 × MS) :=
  m_cl (f_look  I A) (fun r1 Ic1 Ac1 =>
  m_if (r1 = (123 : Int32)) (
  f_readRemarks_41 self4 x1 x2 (I 37) (1 : Int32) Ic1 Ac1
  ) (
  f_readRemarks_41 self4 x1 x2 (I 37) (0 : Int32) Ic1 Ac1
  ))

set_option maxRecDepth 100000 in
set_option maxHeartbeats 4000000 in
theorem w_readRemarks_22 {p : Program} {l : Launch} {e : Env} {s : State} {m : MethodId} {args : Array Value} {below : List Frame} {meth : Method} {c : Code} {Q : State → Prop} {D : va_G} {cy ci : ClassId} {h : Nat → Nat} {A0 : Nat → Prop} {o : Int32 × MS} (X : CallFix p m c cX12_readRemarks 11 s args wsX12_readRemarks RX12) (hret : mRi p l e ({ frames := 1, cells := 0, slots := 0, locals := 21 } : Room) s m args below meth c Q cX12_readRemarks D cy ci h A0 .int o) {self4 : Int32 → Int32 → (Nat → Int32) → (Nat → Nat → Int32) → Option (Int32 × MS)} (hself4 : ∀ (x1 : Int32) (x2 : Int32) (I : Nat → Int32) (A : Nat → Nat → Int32) (H : Heap) (locs : List Loc) (ls : Array Slot), self4 x1 x2 I A = some o → mH D cy ci h A0 s H locs I A → lv_has ls 11 [(0, .ref (h 0)), (1, .int x1), (2, .int x2)] → W p l e ({ frames := 1, cells := 0, slots := 0, locals := 21 } : Room) s m args below meth c H locs 0 0 Q (F0 m 4 ls [])) {x1 : Int32} {x2 : Int32} {I : Nat → Int32} {A : Nat → Nat → Int32} {H : Heap} {locs : List Loc} {ls : Array Slot} (hf : f_readRemarks_22 self4 x1 x2 I A = some o) (hM : mH D cy ci h A0 s H locs I A) (hl : lv_has ls 11 [(0, .ref (h 0)), (1, .int x1), (2, .int x2)]) : W p l e ({ frames := 1, cells := 0, slots := 0, locals := 21 } : Room) s m args below meth c H locs 0 0 Q (F0 m 22 ls []) := by
  obtain ⟨hx, hb, hml, hown, hts⟩ := id X
  unfold f_readRemarks_22 at hf
  refine lv_aload_n hx hb dX12_readRemarks_22 rfl (lv_at hl 0 rfl) ?_
  refine m_get (v := .int (I 37)) X hw_readRemarks hM 37 (by decide) fl_readRemarks_37 rfl dX12_readRemarks_23 ?_
  refine lv_istore_n (lv' := [(3, .int (I 37)), (0, .ref (h 0)), (1, .int x1), (2, .int x2)]) hx hb dX12_readRemarks_26 rfl hl (by decide) rfl (fun ls hl => ?_)
  refine lv_aload_n hx hb dX12_readRemarks_27 rfl (lv_at hl 1 rfl) ?_
  obtain ⟨o1, ho, hf⟩ := m_clE hf
  refine m_callVi X hM (c_look ho) gX12_readRemarks_X12_look rfl ⟨rfl, rfl⟩ hd_look ⟨Nat.le_of_ble_eq_true rfl, Nat.le_of_ble_eq_true rfl⟩ rfl hl.1 rfl (Nat.le_of_ble_eq_true rfl) dX12_readRemarks_28 (fun H locs hM => ?_)
  clear ho
  refine lv_bipush (v := (123 : Int32)) hx hb dX12_readRemarks_31 (by decide) ?_
  refine lv_icmp_ne (tgt := 40) hx hb dX12_readRemarks_33 (by decide) (fun cc1 => ?_) (fun cc1 => ?_)
  · replace hf := m_ifF hf cc1
    refine lv_iconst (v := (0 : Int32)) hx hb dX12_readRemarks_40 (by decide) ?_
    exact w_readRemarks_41 X hret hself4 hf hM (lv_sub hl [1, 2, 3, 0] rfl)
  · replace hf := m_ifT hf cc1
    refine lv_iconst (v := (1 : Int32)) hx hb dX12_readRemarks_36 (by decide) ?_
    refine lv_goto (tgt := 41) hx hb dX12_readRemarks_37 (by decide) ?_
    exact w_readRemarks_41 X hret hself4 hf hM (lv_sub hl [1, 2, 3, 0] rfl)
def f_readRemarks_4s (self4 : Int32 → Int32 → (Nat → Int32) → (Nat → Nat → Int32) → Option (Int32 × MS)) (x1 : Int32) (x2 : Int32) (I : Nat → Int32) (A : Nat → Nat → Int32) : Option (Int32 × MS) :=
  m_cl (f_look  I A) (fun r1 Ic1 Ac1 =>
  m_if (r1 = (123 : Int32)) (
  f_readRemarks_22 self4 x1 x2 Ic1 Ac1
  ) (
  m_cl (f_look  Ic1 Ac1) (fun r2 Ic2 Ac2 =>
  m_if (r2 = (59 : Int32)) (
  f_readRemarks_22 self4 x1 x2 Ic2 Ac2
  ) (
  some ((0 : Int32), (Ic2, Ac2))
  ))
  ))

set_option maxRecDepth 100000 in
set_option maxHeartbeats 4000000 in
theorem ws_readRemarks_4 {p : Program} {l : Launch} {e : Env} {s : State} {m : MethodId} {args : Array Value} {below : List Frame} {meth : Method} {c : Code} {Q : State → Prop} {D : va_G} {cy ci : ClassId} {h : Nat → Nat} {A0 : Nat → Prop} {o : Int32 × MS} (X : CallFix p m c cX12_readRemarks 11 s args wsX12_readRemarks RX12) (hret : mRi p l e ({ frames := 1, cells := 0, slots := 0, locals := 21 } : Room) s m args below meth c Q cX12_readRemarks D cy ci h A0 .int o) {self4 : Int32 → Int32 → (Nat → Int32) → (Nat → Nat → Int32) → Option (Int32 × MS)} (hself4 : ∀ (x1 : Int32) (x2 : Int32) (I : Nat → Int32) (A : Nat → Nat → Int32) (H : Heap) (locs : List Loc) (ls : Array Slot), self4 x1 x2 I A = some o → mH D cy ci h A0 s H locs I A → lv_has ls 11 [(0, .ref (h 0)), (1, .int x1), (2, .int x2)] → W p l e ({ frames := 1, cells := 0, slots := 0, locals := 21 } : Room) s m args below meth c H locs 0 0 Q (F0 m 4 ls [])) {x1 : Int32} {x2 : Int32} {I : Nat → Int32} {A : Nat → Nat → Int32} {H : Heap} {locs : List Loc} {ls : Array Slot} (hf : f_readRemarks_4s self4 x1 x2 I A = some o) (hM : mH D cy ci h A0 s H locs I A) (hl : lv_has ls 11 [(0, .ref (h 0)), (1, .int x1), (2, .int x2)]) : W p l e ({ frames := 1, cells := 0, slots := 0, locals := 21 } : Room) s m args below meth c H locs 0 0 Q (F0 m 4 ls []) := by
  obtain ⟨hx, hb, hml, hown, hts⟩ := id X
  unfold f_readRemarks_4s at hf
  refine lv_aload_n hx hb dX12_readRemarks_4 rfl (lv_at hl 0 rfl) ?_
  obtain ⟨o1, ho, hf⟩ := m_clE hf
  refine m_callVi X hM (c_look ho) gX12_readRemarks_X12_look rfl ⟨rfl, rfl⟩ hd_look ⟨Nat.le_of_ble_eq_true rfl, Nat.le_of_ble_eq_true rfl⟩ rfl hl.1 rfl (Nat.le_of_ble_eq_true rfl) dX12_readRemarks_5 (fun H locs hM => ?_)
  clear ho
  refine lv_bipush (v := (123 : Int32)) hx hb dX12_readRemarks_8 (by decide) ?_
  refine lv_icmp_eq (tgt := 22) hx hb dX12_readRemarks_10 (by decide) (fun cc1 => ?_) (fun cc1 => ?_)
  · replace hf := m_ifT hf cc1
    exact w_readRemarks_22 X hret hself4 hf hM (lv_sub hl [0, 1, 2] rfl)
  · replace hf := m_ifF hf cc1
    refine lv_aload_n hx hb dX12_readRemarks_13 rfl (lv_at hl 0 rfl) ?_
    obtain ⟨o2, ho, hf⟩ := m_clE hf
    refine m_callVi X hM (c_look ho) gX12_readRemarks_X12_look rfl ⟨rfl, rfl⟩ hd_look ⟨Nat.le_of_ble_eq_true rfl, Nat.le_of_ble_eq_true rfl⟩ rfl hl.1 rfl (Nat.le_of_ble_eq_true rfl) dX12_readRemarks_14 (fun H locs hM => ?_)
    clear ho
    refine lv_bipush (v := (59 : Int32)) hx hb dX12_readRemarks_17 (by decide) ?_
    refine lv_icmp_ne (tgt := 354) hx hb dX12_readRemarks_19 (by decide) (fun cc1 => ?_) (fun cc1 => ?_)
    · replace hf := m_ifF hf cc1
      refine lv_iconst (v := (0 : Int32)) hx hb dX12_readRemarks_354 (by decide) ?_
      cases hf
      exact hret H locs _ ls hM rfl dX12_readRemarks_355
    · replace hf := m_ifT hf cc1
      exact w_readRemarks_22 X hret hself4 hf hM (lv_sub hl [0, 1, 2] rfl)
def f_readRemarks_4 : Nat → Int32 → Int32 → (Nat → Int32) → (Nat → Nat → Int32) → Option (Int32 × MS)
  | 0 => fun _ _ _ _ => none
  | n + 1 => f_readRemarks_4s (f_readRemarks_4 n)
theorem w_readRemarks_4 {p : Program} {l : Launch} {e : Env} {s : State} {m : MethodId} {args : Array Value} {below : List Frame} {meth : Method} {c : Code} {Q : State → Prop} {D : va_G} {cy ci : ClassId} {h : Nat → Nat} {A0 : Nat → Prop} {o : Int32 × MS} (X : CallFix p m c cX12_readRemarks 11 s args wsX12_readRemarks RX12) (hret : mRi p l e ({ frames := 1, cells := 0, slots := 0, locals := 21 } : Room) s m args below meth c Q cX12_readRemarks D cy ci h A0 .int o) (n : Nat) : ∀ (x1 : Int32) (x2 : Int32) (I : Nat → Int32) (A : Nat → Nat → Int32) (H : Heap) (locs : List Loc) (ls : Array Slot), f_readRemarks_4 n x1 x2 I A = some o → mH D cy ci h A0 s H locs I A → lv_has ls 11 [(0, .ref (h 0)), (1, .int x1), (2, .int x2)] → W p l e ({ frames := 1, cells := 0, slots := 0, locals := 21 } : Room) s m args below meth c H locs 0 0 Q (F0 m 4 ls []) := by
  induction n with
  | zero => intro x1 x2 I A H locs ls hf; cases hf
  | succ n ih => intro x1 x2 I A H locs ls hf hM hl; exact ws_readRemarks_4 X hret (self4 := f_readRemarks_4 n) ih hf hM hl
def f_readRemarks_0 (x1 : Int32) (x2 : Int32) (I : Nat → Int32) (A : Nat → Nat → Int32) : Option (Int32 × MS) :=
  m_cl (f_blanks  I A) (fun r1 Ic1 Ac1 =>
  f_readRemarks_4 mFuel x1 x2 Ic1 Ac1)

set_option maxRecDepth 100000 in
set_option maxHeartbeats 4000000 in
theorem w_readRemarks_0 {p : Program} {l : Launch} {e : Env} {s : State} {m : MethodId} {args : Array Value} {below : List Frame} {meth : Method} {c : Code} {Q : State → Prop} {D : va_G} {cy ci : ClassId} {h : Nat → Nat} {A0 : Nat → Prop} {o : Int32 × MS} (X : CallFix p m c cX12_readRemarks 11 s args wsX12_readRemarks RX12) (hret : mRi p l e ({ frames := 1, cells := 0, slots := 0, locals := 21 } : Room) s m args below meth c Q cX12_readRemarks D cy ci h A0 .int o) {x1 : Int32} {x2 : Int32} {I : Nat → Int32} {A : Nat → Nat → Int32} {H : Heap} {locs : List Loc} {ls : Array Slot} (hf : f_readRemarks_0 x1 x2 I A = some o) (hM : mH D cy ci h A0 s H locs I A) (hl : lv_has ls 11 [(0, .ref (h 0)), (1, .int x1), (2, .int x2)]) : W p l e ({ frames := 1, cells := 0, slots := 0, locals := 21 } : Room) s m args below meth c H locs 0 0 Q (F0 m 0 ls []) := by
  obtain ⟨hx, hb, hml, hown, hts⟩ := id X
  unfold f_readRemarks_0 at hf
  refine lv_aload_n hx hb dX12_readRemarks_0 rfl (lv_at hl 0 rfl) ?_
  obtain ⟨o1, ho, hf⟩ := m_clE hf
  refine m_callVv X hM (c_blanks ho) gX12_readRemarks_X12_blanks rfl ⟨rfl, rfl⟩ hd_blanks ⟨Nat.le_of_ble_eq_true rfl, Nat.le_of_ble_eq_true rfl⟩ rfl hl.1 rfl (Nat.le_of_ble_eq_true rfl) dX12_readRemarks_1 (fun H locs hM => ?_)
  clear ho
  exact w_readRemarks_4 X hret _ _ _ _ _ _ _ _ hf hM (lv_sub hl [0, 1, 2] rfl)
def f_readRemarks (x1 : Int32) (x2 : Int32) (I : Nat → Int32) (A : Nat → Nat → Int32) : Option (Int32 × MS) := f_readRemarks_0 x1 x2 I A
theorem c_readRemarks {l : Launch} {D : va_G} {cy ci : ClassId} {h : Nat → Nat} {x1 : Int32} {x2 : Int32} {I : Nat → Int32} {A : Nat → Nat → Int32} {o : Int32 × MS} (hf : f_readRemarks x1 x2 I A = some o) : mMi l yX12_readRemarks wsX12_readRemarks ({ frames := 1, cells := 0, slots := 0, locals := 21 } : Room) [.ref (h 0), .int x1, .int x2] D cy ci h I A o :=
  m_entryI (cc := cX12_readRemarks) (maxL := 11) (by decide) rfl rfl (Nat.le_of_ble_eq_true rfl) (fun p e s m args below meth c A0 Q H locs ls X hret hM hl => w_readRemarks_0 X hret hf hM (lv_sub hl [0, 1, 2] rfl))
theorem hw_goesOnWith : ∀ w ∈ wsX120, w ∈ wsX12_goesOnWith := by decide +kernel
theorem fl_goesOnWith_1 : Cond.fieldLink RX12 270 "MoveTextsModel" "typed" "I" ∈ wsX12_goesOnWith := by decide +kernel
theorem fl_goesOnWith_2 : Cond.fieldLink RX12 7 "MoveTextsModel" "text" "[C" ∈ wsX12_goesOnWith := by decide +kernel
theorem fl_goesOnWith_37 : Cond.fieldLink RX12 267 "MoveTextsModel" "at" "I" ∈ wsX12_goesOnWith := by decide +kernel
theorem hd_goesOnWith : yX12_goesOnWith.cls = RX12 ∧ yX12_goesOnWith.cls ≠ "java/lang/invoke/MethodHandle" ∧ yX12_goesOnWith.cls ≠ "java/lang/invoke/VarHandle" ∧ (parseMethodDescriptor yX12_goesOnWith.desc).map (fun d => d.parameters.length) = some 3 := by decide +kernel
def f_goesOnWith_61 (t0 : Int32) (I : Nat → Int32) (A : Nat → Nat → Int32) : Option (Int32 × MS) :=
  m_chk (vp_nar .boolean t0 = t0) (some (t0, (I, A)))

set_option maxRecDepth 100000 in
set_option maxHeartbeats 4000000 in
theorem w_goesOnWith_61 {p : Program} {l : Launch} {e : Env} {s : State} {m : MethodId} {args : Array Value} {below : List Frame} {meth : Method} {c : Code} {Q : State → Prop} {D : va_G} {cy ci : ClassId} {h : Nat → Nat} {A0 : Nat → Prop} {o : Int32 × MS} (X : CallFix p m c cX12_goesOnWith 4 s args wsX12_goesOnWith RX12) (hret : mRi p l e ({ frames := 0, cells := 0, slots := 0, locals := 0 } : Room) s m args below meth c Q cX12_goesOnWith D cy ci h A0 .boolean o) {t0 : Int32} {I : Nat → Int32} {A : Nat → Nat → Int32} {H : Heap} {locs : List Loc} {ls : Array Slot} (hf : f_goesOnWith_61 t0 I A = some o) (hM : mH D cy ci h A0 s H locs I A) (hl : lv_has ls 4 []) : W p l e ({ frames := 0, cells := 0, slots := 0, locals := 0 } : Room) s m args below meth c H locs 0 0 Q (F0 m 61 ls [.int t0]) := by
  obtain ⟨hx, hb, hml, hown, hts⟩ := id X
  unfold f_goesOnWith_61 at hf
  obtain ⟨cd, hf⟩ := m_chkE hf
  cases hf
  exact hret H locs _ ls hM (m_nb cd) dX12_goesOnWith_61
def f_goesOnWith_60 (I : Nat → Int32) (A : Nat → Nat → Int32) : Option (Int32 × MS) :=
  f_goesOnWith_61 (0 : Int32) I A

set_option maxRecDepth 100000 in
set_option maxHeartbeats 4000000 in
theorem w_goesOnWith_60 {p : Program} {l : Launch} {e : Env} {s : State} {m : MethodId} {args : Array Value} {below : List Frame} {meth : Method} {c : Code} {Q : State → Prop} {D : va_G} {cy ci : ClassId} {h : Nat → Nat} {A0 : Nat → Prop} {o : Int32 × MS} (X : CallFix p m c cX12_goesOnWith 4 s args wsX12_goesOnWith RX12) (hret : mRi p l e ({ frames := 0, cells := 0, slots := 0, locals := 0 } : Room) s m args below meth c Q cX12_goesOnWith D cy ci h A0 .boolean o) {I : Nat → Int32} {A : Nat → Nat → Int32} {H : Heap} {locs : List Loc} {ls : Array Slot} (hf : f_goesOnWith_60  I A = some o) (hM : mH D cy ci h A0 s H locs I A) (hl : lv_has ls 4 []) : W p l e ({ frames := 0, cells := 0, slots := 0, locals := 0 } : Room) s m args below meth c H locs 0 0 Q (F0 m 60 ls []) := by
  obtain ⟨hx, hb, hml, hown, hts⟩ := id X
  unfold f_goesOnWith_60 at hf
  refine lv_iconst (v := (0 : Int32)) hx hb dX12_goesOnWith_60 (by decide) ?_
  exact w_goesOnWith_61 X hret hf hM (lv_sub hl [] rfl)
def f_goesOnWith_0 (x1 : Int32) (x2 : Int32) (x3 : Int32) (I : Nat → Int32) (A : Nat → Nat → Int32) : Option (Int32 × MS) :=
  m_bnd ((I 37) + (2 : Int32)) (fun v1 =>
  m_if ((I 1) ≤ v1) (
  f_goesOnWith_60  I A
  ) (
  m_chk (¬ ((I 37) < 0 ∨ 2000 ≤ ((I 37)).toNatClampNeg)) (
  m_bnd (A 2 ((I 37)).toNatClampNeg) (fun v2 =>
  m_if (v2 = x1) (
  m_bnd ((I 37) + (1 : Int32)) (fun v3 =>
  m_chk (¬ (v3 < 0 ∨ 2000 ≤ (v3).toNatClampNeg)) (
  m_bnd (A 2 (v3).toNatClampNeg) (fun v4 =>
  m_if (v4 = x2) (
  m_bnd ((I 37) + (2 : Int32)) (fun v5 =>
  m_chk (¬ (v5 < 0 ∨ 2000 ≤ (v5).toNatClampNeg)) (
  m_bnd (A 2 (v5).toNatClampNeg) (fun v6 =>
  m_if (v6 = x3) (
  f_goesOnWith_61 (1 : Int32) I A
  ) (
  f_goesOnWith_60  I A
  ))))
  ) (
  f_goesOnWith_60  I A
  ))))
  ) (
  f_goesOnWith_60  I A
  )))
  ))

set_option maxRecDepth 100000 in
set_option maxHeartbeats 4000000 in
theorem w_goesOnWith_0 {p : Program} {l : Launch} {e : Env} {s : State} {m : MethodId} {args : Array Value} {below : List Frame} {meth : Method} {c : Code} {Q : State → Prop} {D : va_G} {cy ci : ClassId} {h : Nat → Nat} {A0 : Nat → Prop} {o : Int32 × MS} (X : CallFix p m c cX12_goesOnWith 4 s args wsX12_goesOnWith RX12) (hret : mRi p l e ({ frames := 0, cells := 0, slots := 0, locals := 0 } : Room) s m args below meth c Q cX12_goesOnWith D cy ci h A0 .boolean o) {x1 : Int32} {x2 : Int32} {x3 : Int32} {I : Nat → Int32} {A : Nat → Nat → Int32} {H : Heap} {locs : List Loc} {ls : Array Slot} (hf : f_goesOnWith_0 x1 x2 x3 I A = some o) (hM : mH D cy ci h A0 s H locs I A) (hl : lv_has ls 4 [(0, .ref (h 0)), (1, .int x1), (2, .int x2), (3, .int x3)]) : W p l e ({ frames := 0, cells := 0, slots := 0, locals := 0 } : Room) s m args below meth c H locs 0 0 Q (F0 m 0 ls []) := by
  obtain ⟨hx, hb, hml, hown, hts⟩ := id X
  unfold f_goesOnWith_0 at hf
  refine lv_aload_n hx hb dX12_goesOnWith_0 rfl (lv_at hl 0 rfl) ?_
  refine m_get (v := .int (I 37)) X hw_goesOnWith hM 37 (by decide) fl_goesOnWith_37 rfl dX12_goesOnWith_1 ?_
  refine lv_iconst (v := (2 : Int32)) hx hb dX12_goesOnWith_4 (by decide) ?_
  refine lv_iadd hx hb dX12_goesOnWith_5 ?_
  obtain ⟨v1, ev, hf⟩ := m_bndE hf
  refine m_top ev ?_
  clear ev
  refine lv_aload_n hx hb dX12_goesOnWith_6 rfl (lv_at hl 0 rfl) ?_
  refine m_get (v := .int (I 1)) X hw_goesOnWith hM 1 (by decide) fl_goesOnWith_1 rfl dX12_goesOnWith_7 ?_
  refine lv_icmp_ge (tgt := 60) hx hb dX12_goesOnWith_10 (by decide) (fun cc1 => ?_) (fun cc1 => ?_)
  · replace hf := m_ifT hf cc1
    exact w_goesOnWith_60 X hret hf hM (lv_sub hl [] rfl)
  · replace hf := m_ifF hf cc1
    refine lv_aload_n hx hb dX12_goesOnWith_13 rfl (lv_at hl 0 rfl) ?_
    refine m_get (v := .ref (h 2)) X hw_goesOnWith hM 2 (by decide) fl_goesOnWith_2 rfl dX12_goesOnWith_14 ?_
    refine lv_aload_n hx hb dX12_goesOnWith_17 rfl (lv_at hl 0 rfl) ?_
    refine m_get (v := .int (I 37)) X hw_goesOnWith hM 37 (by decide) fl_goesOnWith_37 rfl dX12_goesOnWith_18 ?_
    obtain ⟨cd, hf⟩ := m_chkE hf
    refine m_cald X hM 2 1 2000 rfl cd dX12_goesOnWith_21 ?_
    clear cd
    obtain ⟨v2, ev, hf⟩ := m_bndE hf
    refine m_top ev ?_
    clear ev
    refine lv_iload_n hx hb dX12_goesOnWith_22 rfl (lv_at hl 1 rfl) ?_
    refine lv_icmp_ne (tgt := 60) hx hb dX12_goesOnWith_23 (by decide) (fun cc1 => ?_) (fun cc1 => ?_)
    · replace hf := m_ifF hf cc1
      exact w_goesOnWith_60 X hret hf hM (lv_sub hl [] rfl)
    · replace hf := m_ifT hf cc1
      refine lv_aload_n hx hb dX12_goesOnWith_26 rfl (lv_at hl 0 rfl) ?_
      refine m_get (v := .ref (h 2)) X hw_goesOnWith hM 2 (by decide) fl_goesOnWith_2 rfl dX12_goesOnWith_27 ?_
      refine lv_aload_n hx hb dX12_goesOnWith_30 rfl (lv_at hl 0 rfl) ?_
      refine m_get (v := .int (I 37)) X hw_goesOnWith hM 37 (by decide) fl_goesOnWith_37 rfl dX12_goesOnWith_31 ?_
      refine lv_iconst (v := (1 : Int32)) hx hb dX12_goesOnWith_34 (by decide) ?_
      refine lv_iadd hx hb dX12_goesOnWith_35 ?_
      obtain ⟨v3, ev, hf⟩ := m_bndE hf
      refine m_top ev ?_
      clear ev
      obtain ⟨cd, hf⟩ := m_chkE hf
      refine m_cald X hM 2 1 2000 rfl cd dX12_goesOnWith_36 ?_
      clear cd
      obtain ⟨v4, ev, hf⟩ := m_bndE hf
      refine m_top ev ?_
      clear ev
      refine lv_iload_n hx hb dX12_goesOnWith_37 rfl (lv_at hl 2 rfl) ?_
      refine lv_icmp_ne (tgt := 60) hx hb dX12_goesOnWith_38 (by decide) (fun cc1 => ?_) (fun cc1 => ?_)
      · replace hf := m_ifF hf cc1
        exact w_goesOnWith_60 X hret hf hM (lv_sub hl [] rfl)
      · replace hf := m_ifT hf cc1
        refine lv_aload_n hx hb dX12_goesOnWith_41 rfl (lv_at hl 0 rfl) ?_
        refine m_get (v := .ref (h 2)) X hw_goesOnWith hM 2 (by decide) fl_goesOnWith_2 rfl dX12_goesOnWith_42 ?_
        refine lv_aload_n hx hb dX12_goesOnWith_45 rfl (lv_at hl 0 rfl) ?_
        refine m_get (v := .int (I 37)) X hw_goesOnWith hM 37 (by decide) fl_goesOnWith_37 rfl dX12_goesOnWith_46 ?_
        refine lv_iconst (v := (2 : Int32)) hx hb dX12_goesOnWith_49 (by decide) ?_
        refine lv_iadd hx hb dX12_goesOnWith_50 ?_
        obtain ⟨v5, ev, hf⟩ := m_bndE hf
        refine m_top ev ?_
        clear ev
        obtain ⟨cd, hf⟩ := m_chkE hf
        refine m_cald X hM 2 1 2000 rfl cd dX12_goesOnWith_51 ?_
        clear cd
        obtain ⟨v6, ev, hf⟩ := m_bndE hf
        refine m_top ev ?_
        clear ev
        refine lv_iload_n hx hb dX12_goesOnWith_52 rfl (lv_at hl 3 rfl) ?_
        refine lv_icmp_ne (tgt := 60) hx hb dX12_goesOnWith_53 (by decide) (fun cc1 => ?_) (fun cc1 => ?_)
        · replace hf := m_ifF hf cc1
          exact w_goesOnWith_60 X hret hf hM (lv_sub hl [] rfl)
        · replace hf := m_ifT hf cc1
          refine lv_iconst (v := (1 : Int32)) hx hb dX12_goesOnWith_56 (by decide) ?_
          refine lv_goto (tgt := 61) hx hb dX12_goesOnWith_57 (by decide) ?_
          exact w_goesOnWith_61 X hret hf hM (lv_sub hl [] rfl)
def f_goesOnWith (x1 : Int32) (x2 : Int32) (x3 : Int32) (I : Nat → Int32) (A : Nat → Nat → Int32) : Option (Int32 × MS) := f_goesOnWith_0 x1 x2 x3 I A
theorem c_goesOnWith {l : Launch} {D : va_G} {cy ci : ClassId} {h : Nat → Nat} {x1 : Int32} {x2 : Int32} {x3 : Int32} {I : Nat → Int32} {A : Nat → Nat → Int32} {o : Int32 × MS} (hf : f_goesOnWith x1 x2 x3 I A = some o) : mMi l yX12_goesOnWith wsX12_goesOnWith ({ frames := 0, cells := 0, slots := 0, locals := 0 } : Room) [.ref (h 0), .int x1, .int x2, .int x3] D cy ci h I A o :=
  m_entryI (cc := cX12_goesOnWith) (maxL := 4) (by decide) rfl rfl (Nat.le_of_ble_eq_true rfl) (fun p e s m args below meth c A0 Q H locs ls X hret hM hl => w_goesOnWith_0 X hret hf hM (lv_sub hl [0, 1, 2, 3] rfl))
theorem hw_resultHere : ∀ w ∈ wsX120, w ∈ wsX12_resultHere := by decide +kernel
theorem fl_resultHere_1 : Cond.fieldLink RX12 270 "MoveTextsModel" "typed" "I" ∈ wsX12_resultHere := by decide +kernel
theorem fl_resultHere_2 : Cond.fieldLink RX12 7 "MoveTextsModel" "text" "[C" ∈ wsX12_resultHere := by decide +kernel
theorem fl_resultHere_37 : Cond.fieldLink RX12 267 "MoveTextsModel" "at" "I" ∈ wsX12_resultHere := by decide +kernel
theorem hd_resultHere : yX12_resultHere.cls = RX12 ∧ yX12_resultHere.cls ≠ "java/lang/invoke/MethodHandle" ∧ yX12_resultHere.cls ≠ "java/lang/invoke/VarHandle" ∧ (parseMethodDescriptor yX12_resultHere.desc).map (fun d => d.parameters.length) = some 0 := by decide +kernel
def f_resultHere_148 (t0 : Int32) (I : Nat → Int32) (A : Nat → Nat → Int32) : Option (Int32 × MS) :=
  some (t0, (I, A))

set_option maxRecDepth 100000 in
set_option maxHeartbeats 4000000 in
theorem w_resultHere_148 {p : Program} {l : Launch} {e : Env} {s : State} {m : MethodId} {args : Array Value} {below : List Frame} {meth : Method} {c : Code} {Q : State → Prop} {D : va_G} {cy ci : ClassId} {h : Nat → Nat} {A0 : Nat → Prop} {o : Int32 × MS} (X : CallFix p m c cX12_resultHere 2 s args wsX12_resultHere RX12) (hret : mRi p l e ({ frames := 1, cells := 0, slots := 0, locals := 23 } : Room) s m args below meth c Q cX12_resultHere D cy ci h A0 .int o) {t0 : Int32} {I : Nat → Int32} {A : Nat → Nat → Int32} {H : Heap} {locs : List Loc} {ls : Array Slot} (hf : f_resultHere_148 t0 I A = some o) (hM : mH D cy ci h A0 s H locs I A) (hl : lv_has ls 2 []) : W p l e ({ frames := 1, cells := 0, slots := 0, locals := 23 } : Room) s m args below meth c H locs 0 0 Q (F0 m 148 ls [.int t0]) := by
  obtain ⟨hx, hb, hml, hown, hts⟩ := id X
  unfold f_resultHere_148 at hf
  cases hf
  exact hret H locs _ ls hM rfl dX12_resultHere_148
def f_resultHere_138 (t0 : Int32) (I : Nat → Int32) (A : Nat → Nat → Int32) : Option (Int32 × MS) :=
  m_if (t0 = 0) (
  f_resultHere_148 (-1 : Int32) I A
  ) (
  f_resultHere_148 (3 : Int32) I A
  )

set_option maxRecDepth 100000 in
set_option maxHeartbeats 4000000 in
theorem w_resultHere_138 {p : Program} {l : Launch} {e : Env} {s : State} {m : MethodId} {args : Array Value} {below : List Frame} {meth : Method} {c : Code} {Q : State → Prop} {D : va_G} {cy ci : ClassId} {h : Nat → Nat} {A0 : Nat → Prop} {o : Int32 × MS} (X : CallFix p m c cX12_resultHere 2 s args wsX12_resultHere RX12) (hret : mRi p l e ({ frames := 1, cells := 0, slots := 0, locals := 23 } : Room) s m args below meth c Q cX12_resultHere D cy ci h A0 .int o) {t0 : Int32} {I : Nat → Int32} {A : Nat → Nat → Int32} {H : Heap} {locs : List Loc} {ls : Array Slot} (hf : f_resultHere_138 t0 I A = some o) (hM : mH D cy ci h A0 s H locs I A) (hl : lv_has ls 2 []) : W p l e ({ frames := 1, cells := 0, slots := 0, locals := 23 } : Room) s m args below meth c H locs 0 0 Q (F0 m 138 ls [.int t0]) := by
  obtain ⟨hx, hb, hml, hown, hts⟩ := id X
  unfold f_resultHere_138 at hf
  refine lv_istore_n (lv' := [(1, .int t0)]) hx hb dX12_resultHere_138 rfl hl (by decide) rfl (fun ls hl => ?_)
  refine lv_iload_n hx hb dX12_resultHere_139 rfl (lv_at hl 0 rfl) ?_
  refine lv_if_eq (tgt := 147) hx hb dX12_resultHere_140 (by decide) (fun cc1 => ?_) (fun cc1 => ?_)
  · replace hf := m_ifT hf cc1
    refine lv_iconst (v := (-1 : Int32)) hx hb dX12_resultHere_147 (by decide) ?_
    exact w_resultHere_148 X hret hf hM (lv_sub hl [] rfl)
  · replace hf := m_ifF hf cc1
    refine lv_iconst (v := (3 : Int32)) hx hb dX12_resultHere_143 (by decide) ?_
    refine lv_goto (tgt := 148) hx hb dX12_resultHere_144 (by decide) ?_
    exact w_resultHere_148 X hret hf hM (lv_sub hl [] rfl)
def f_resultHere_137 (I : Nat → Int32) (A : Nat → Nat → Int32) : Option (Int32 × MS) :=
  f_resultHere_138 (0 : Int32) I A

set_option maxRecDepth 100000 in
set_option maxHeartbeats 4000000 in
theorem w_resultHere_137 {p : Program} {l : Launch} {e : Env} {s : State} {m : MethodId} {args : Array Value} {below : List Frame} {meth : Method} {c : Code} {Q : State → Prop} {D : va_G} {cy ci : ClassId} {h : Nat → Nat} {A0 : Nat → Prop} {o : Int32 × MS} (X : CallFix p m c cX12_resultHere 2 s args wsX12_resultHere RX12) (hret : mRi p l e ({ frames := 1, cells := 0, slots := 0, locals := 23 } : Room) s m args below meth c Q cX12_resultHere D cy ci h A0 .int o) {I : Nat → Int32} {A : Nat → Nat → Int32} {H : Heap} {locs : List Loc} {ls : Array Slot} (hf : f_resultHere_137  I A = some o) (hM : mH D cy ci h A0 s H locs I A) (hl : lv_has ls 2 []) : W p l e ({ frames := 1, cells := 0, slots := 0, locals := 23 } : Room) s m args below meth c H locs 0 0 Q (F0 m 137 ls []) := by
  obtain ⟨hx, hb, hml, hown, hts⟩ := id X
  unfold f_resultHere_137 at hf
  refine lv_iconst (v := (0 : Int32)) hx hb dX12_resultHere_137 (by decide) ?_
  exact w_resultHere_138 X hret hf hM (lv_sub hl [] rfl)
def f_resultHere_0 (I : Nat → Int32) (A : Nat → Nat → Int32) : Option (Int32 × MS) :=
  m_cl (f_look  I A) (fun r1 Ic1 Ac1 =>
  m_if (r1 = (42 : Int32)) (
  some ((0 : Int32), (Ic1, Ac1))
  ) (
  m_cl (f_goesOnWith (49 : Int32) (45 : Int32) (48 : Int32) Ic1 Ac1) (fun r2 Ic2 Ac2 =>
  m_if (r2 = 0) (
  m_cl (f_goesOnWith (48 : Int32) (45 : Int32) (49 : Int32) Ic2 Ac2) (fun r3 Ic3 Ac3 =>
  m_if (r3 = 0) (
  m_cl (f_goesOnWith (49 : Int32) (47 : Int32) (50 : Int32) Ic3 Ac3) (fun r4 Ic4 Ac4 =>
  m_if (r4 = 0) (
  f_resultHere_137  Ic4 Ac4
  ) (
  m_bnd ((Ic4 37) + (6 : Int32)) (fun v5 =>
  m_if ((Ic4 1) ≤ v5) (
  f_resultHere_137  Ic4 Ac4
  ) (
  m_bnd ((Ic4 37) + (3 : Int32)) (fun v6 =>
  m_chk (¬ (v6 < 0 ∨ 2000 ≤ (v6).toNatClampNeg)) (
  m_bnd (Ac4 2 (v6).toNatClampNeg) (fun v7 =>
  m_if (v7 = (45 : Int32)) (
  m_bnd ((Ic4 37) + (4 : Int32)) (fun v8 =>
  m_chk (¬ (v8 < 0 ∨ 2000 ≤ (v8).toNatClampNeg)) (
  m_bnd (Ac4 2 (v8).toNatClampNeg) (fun v9 =>
  m_if (v9 = (49 : Int32)) (
  m_bnd ((Ic4 37) + (5 : Int32)) (fun v10 =>
  m_chk (¬ (v10 < 0 ∨ 2000 ≤ (v10).toNatClampNeg)) (
  m_bnd (Ac4 2 (v10).toNatClampNeg) (fun v11 =>
  m_if (v11 = (47 : Int32)) (
  m_bnd ((Ic4 37) + (6 : Int32)) (fun v12 =>
  m_chk (¬ (v12 < 0 ∨ 2000 ≤ (v12).toNatClampNeg)) (
  m_bnd (Ac4 2 (v12).toNatClampNeg) (fun v13 =>
  m_if (v13 = (50 : Int32)) (
  f_resultHere_138 (1 : Int32) Ic4 Ac4
  ) (
  f_resultHere_137  Ic4 Ac4
  ))))
  ) (
  f_resultHere_137  Ic4 Ac4
  ))))
  ) (
  f_resultHere_137  Ic4 Ac4
  ))))
  ) (
  f_resultHere_137  Ic4 Ac4
  ))))
  ))
  ))
  ) (
  some ((2 : Int32), (Ic3, Ac3))
  ))
  ) (
  some ((1 : Int32), (Ic2, Ac2))
  ))
  ))

set_option maxRecDepth 100000 in
set_option maxHeartbeats 4000000 in
theorem w_resultHere_0 {p : Program} {l : Launch} {e : Env} {s : State} {m : MethodId} {args : Array Value} {below : List Frame} {meth : Method} {c : Code} {Q : State → Prop} {D : va_G} {cy ci : ClassId} {h : Nat → Nat} {A0 : Nat → Prop} {o : Int32 × MS} (X : CallFix p m c cX12_resultHere 2 s args wsX12_resultHere RX12) (hret : mRi p l e ({ frames := 1, cells := 0, slots := 0, locals := 23 } : Room) s m args below meth c Q cX12_resultHere D cy ci h A0 .int o) {I : Nat → Int32} {A : Nat → Nat → Int32} {H : Heap} {locs : List Loc} {ls : Array Slot} (hf : f_resultHere_0  I A = some o) (hM : mH D cy ci h A0 s H locs I A) (hl : lv_has ls 2 [(0, .ref (h 0))]) : W p l e ({ frames := 1, cells := 0, slots := 0, locals := 23 } : Room) s m args below meth c H locs 0 0 Q (F0 m 0 ls []) := by
  obtain ⟨hx, hb, hml, hown, hts⟩ := id X
  unfold f_resultHere_0 at hf
  refine lv_aload_n hx hb dX12_resultHere_0 rfl (lv_at hl 0 rfl) ?_
  obtain ⟨o1, ho, hf⟩ := m_clE hf
  refine m_callVi X hM (c_look ho) gX12_resultHere_X12_look rfl ⟨rfl, rfl⟩ hd_look ⟨Nat.le_of_ble_eq_true rfl, Nat.le_of_ble_eq_true rfl⟩ rfl hl.1 rfl (Nat.le_of_ble_eq_true rfl) dX12_resultHere_1 (fun H locs hM => ?_)
  clear ho
  refine lv_bipush (v := (42 : Int32)) hx hb dX12_resultHere_4 (by decide) ?_
  refine lv_icmp_ne (tgt := 11) hx hb dX12_resultHere_6 (by decide) (fun cc1 => ?_) (fun cc1 => ?_)
  · replace hf := m_ifF hf cc1
    refine lv_aload_n hx hb dX12_resultHere_11 rfl (lv_at hl 0 rfl) ?_
    refine lv_bipush (v := (49 : Int32)) hx hb dX12_resultHere_12 (by decide) ?_
    refine lv_bipush (v := (45 : Int32)) hx hb dX12_resultHere_14 (by decide) ?_
    refine lv_bipush (v := (48 : Int32)) hx hb dX12_resultHere_16 (by decide) ?_
    obtain ⟨o2, ho, hf⟩ := m_clE hf
    refine m_callVi X hM (c_goesOnWith ho) gX12_resultHere_X12_goesOnWith rfl ⟨rfl, rfl⟩ hd_goesOnWith ⟨Nat.le_of_ble_eq_true rfl, Nat.le_of_ble_eq_true rfl⟩ rfl hl.1 rfl (Nat.le_of_ble_eq_true rfl) dX12_resultHere_18 (fun H locs hM => ?_)
    clear ho
    refine lv_if_eq (tgt := 26) hx hb dX12_resultHere_21 (by decide) (fun cc1 => ?_) (fun cc1 => ?_)
    · replace hf := m_ifT hf cc1
      refine lv_aload_n hx hb dX12_resultHere_26 rfl (lv_at hl 0 rfl) ?_
      refine lv_bipush (v := (48 : Int32)) hx hb dX12_resultHere_27 (by decide) ?_
      refine lv_bipush (v := (45 : Int32)) hx hb dX12_resultHere_29 (by decide) ?_
      refine lv_bipush (v := (49 : Int32)) hx hb dX12_resultHere_31 (by decide) ?_
      obtain ⟨o3, ho, hf⟩ := m_clE hf
      refine m_callVi X hM (c_goesOnWith ho) gX12_resultHere_X12_goesOnWith rfl ⟨rfl, rfl⟩ hd_goesOnWith ⟨Nat.le_of_ble_eq_true rfl, Nat.le_of_ble_eq_true rfl⟩ rfl hl.1 rfl (Nat.le_of_ble_eq_true rfl) dX12_resultHere_33 (fun H locs hM => ?_)
      clear ho
      refine lv_if_eq (tgt := 41) hx hb dX12_resultHere_36 (by decide) (fun cc1 => ?_) (fun cc1 => ?_)
      · replace hf := m_ifT hf cc1
        refine lv_aload_n hx hb dX12_resultHere_41 rfl (lv_at hl 0 rfl) ?_
        refine lv_bipush (v := (49 : Int32)) hx hb dX12_resultHere_42 (by decide) ?_
        refine lv_bipush (v := (47 : Int32)) hx hb dX12_resultHere_44 (by decide) ?_
        refine lv_bipush (v := (50 : Int32)) hx hb dX12_resultHere_46 (by decide) ?_
        obtain ⟨o4, ho, hf⟩ := m_clE hf
        refine m_callVi X hM (c_goesOnWith ho) gX12_resultHere_X12_goesOnWith rfl ⟨rfl, rfl⟩ hd_goesOnWith ⟨Nat.le_of_ble_eq_true rfl, Nat.le_of_ble_eq_true rfl⟩ rfl hl.1 rfl (Nat.le_of_ble_eq_true rfl) dX12_resultHere_48 (fun H locs hM => ?_)
        clear ho
        refine lv_if_eq (tgt := 137) hx hb dX12_resultHere_51 (by decide) (fun cc1 => ?_) (fun cc1 => ?_)
        · replace hf := m_ifT hf cc1
          exact w_resultHere_137 X hret hf hM (lv_sub hl [] rfl)
        · replace hf := m_ifF hf cc1
          refine lv_aload_n hx hb dX12_resultHere_54 rfl (lv_at hl 0 rfl) ?_
          refine m_get (v := .int (o4.2.1 37)) X hw_resultHere hM 37 (by decide) fl_resultHere_37 rfl dX12_resultHere_55 ?_
          refine lv_bipush (v := (6 : Int32)) hx hb dX12_resultHere_58 (by decide) ?_
          refine lv_iadd hx hb dX12_resultHere_60 ?_
          obtain ⟨v5, ev, hf⟩ := m_bndE hf
          refine m_top ev ?_
          clear ev
          refine lv_aload_n hx hb dX12_resultHere_61 rfl (lv_at hl 0 rfl) ?_
          refine m_get (v := .int (o4.2.1 1)) X hw_resultHere hM 1 (by decide) fl_resultHere_1 rfl dX12_resultHere_62 ?_
          refine lv_icmp_ge (tgt := 137) hx hb dX12_resultHere_65 (by decide) (fun cc1 => ?_) (fun cc1 => ?_)
          · replace hf := m_ifT hf cc1
            exact w_resultHere_137 X hret hf hM (lv_sub hl [] rfl)
          · replace hf := m_ifF hf cc1
            refine lv_aload_n hx hb dX12_resultHere_68 rfl (lv_at hl 0 rfl) ?_
            refine m_get (v := .ref (h 2)) X hw_resultHere hM 2 (by decide) fl_resultHere_2 rfl dX12_resultHere_69 ?_
            refine lv_aload_n hx hb dX12_resultHere_72 rfl (lv_at hl 0 rfl) ?_
            refine m_get (v := .int (o4.2.1 37)) X hw_resultHere hM 37 (by decide) fl_resultHere_37 rfl dX12_resultHere_73 ?_
            refine lv_iconst (v := (3 : Int32)) hx hb dX12_resultHere_76 (by decide) ?_
            refine lv_iadd hx hb dX12_resultHere_77 ?_
            obtain ⟨v6, ev, hf⟩ := m_bndE hf
            refine m_top ev ?_
            clear ev
            obtain ⟨cd, hf⟩ := m_chkE hf
            refine m_cald X hM 2 1 2000 rfl cd dX12_resultHere_78 ?_
            clear cd
            obtain ⟨v7, ev, hf⟩ := m_bndE hf
            refine m_top ev ?_
            clear ev
            refine lv_bipush (v := (45 : Int32)) hx hb dX12_resultHere_79 (by decide) ?_
            refine lv_icmp_ne (tgt := 137) hx hb dX12_resultHere_81 (by decide) (fun cc1 => ?_) (fun cc1 => ?_)
            · replace hf := m_ifF hf cc1
              exact w_resultHere_137 X hret hf hM (lv_sub hl [] rfl)
            · replace hf := m_ifT hf cc1
              refine lv_aload_n hx hb dX12_resultHere_84 rfl (lv_at hl 0 rfl) ?_
              refine m_get (v := .ref (h 2)) X hw_resultHere hM 2 (by decide) fl_resultHere_2 rfl dX12_resultHere_85 ?_
              refine lv_aload_n hx hb dX12_resultHere_88 rfl (lv_at hl 0 rfl) ?_
              refine m_get (v := .int (o4.2.1 37)) X hw_resultHere hM 37 (by decide) fl_resultHere_37 rfl dX12_resultHere_89 ?_
              refine lv_iconst (v := (4 : Int32)) hx hb dX12_resultHere_92 (by decide) ?_
              refine lv_iadd hx hb dX12_resultHere_93 ?_
              obtain ⟨v8, ev, hf⟩ := m_bndE hf
              refine m_top ev ?_
              clear ev
              obtain ⟨cd, hf⟩ := m_chkE hf
              refine m_cald X hM 2 1 2000 rfl cd dX12_resultHere_94 ?_
              clear cd
              obtain ⟨v9, ev, hf⟩ := m_bndE hf
              refine m_top ev ?_
              clear ev
              refine lv_bipush (v := (49 : Int32)) hx hb dX12_resultHere_95 (by decide) ?_
              refine lv_icmp_ne (tgt := 137) hx hb dX12_resultHere_97 (by decide) (fun cc1 => ?_) (fun cc1 => ?_)
              · replace hf := m_ifF hf cc1
                exact w_resultHere_137 X hret hf hM (lv_sub hl [] rfl)
              · replace hf := m_ifT hf cc1
                refine lv_aload_n hx hb dX12_resultHere_100 rfl (lv_at hl 0 rfl) ?_
                refine m_get (v := .ref (h 2)) X hw_resultHere hM 2 (by decide) fl_resultHere_2 rfl dX12_resultHere_101 ?_
                refine lv_aload_n hx hb dX12_resultHere_104 rfl (lv_at hl 0 rfl) ?_
                refine m_get (v := .int (o4.2.1 37)) X hw_resultHere hM 37 (by decide) fl_resultHere_37 rfl dX12_resultHere_105 ?_
                refine lv_iconst (v := (5 : Int32)) hx hb dX12_resultHere_108 (by decide) ?_
                refine lv_iadd hx hb dX12_resultHere_109 ?_
                obtain ⟨v10, ev, hf⟩ := m_bndE hf
                refine m_top ev ?_
                clear ev
                obtain ⟨cd, hf⟩ := m_chkE hf
                refine m_cald X hM 2 1 2000 rfl cd dX12_resultHere_110 ?_
                clear cd
                obtain ⟨v11, ev, hf⟩ := m_bndE hf
                refine m_top ev ?_
                clear ev
                refine lv_bipush (v := (47 : Int32)) hx hb dX12_resultHere_111 (by decide) ?_
                refine lv_icmp_ne (tgt := 137) hx hb dX12_resultHere_113 (by decide) (fun cc1 => ?_) (fun cc1 => ?_)
                · replace hf := m_ifF hf cc1
                  exact w_resultHere_137 X hret hf hM (lv_sub hl [] rfl)
                · replace hf := m_ifT hf cc1
                  refine lv_aload_n hx hb dX12_resultHere_116 rfl (lv_at hl 0 rfl) ?_
                  refine m_get (v := .ref (h 2)) X hw_resultHere hM 2 (by decide) fl_resultHere_2 rfl dX12_resultHere_117 ?_
                  refine lv_aload_n hx hb dX12_resultHere_120 rfl (lv_at hl 0 rfl) ?_
                  refine m_get (v := .int (o4.2.1 37)) X hw_resultHere hM 37 (by decide) fl_resultHere_37 rfl dX12_resultHere_121 ?_
                  refine lv_bipush (v := (6 : Int32)) hx hb dX12_resultHere_124 (by decide) ?_
                  refine lv_iadd hx hb dX12_resultHere_126 ?_
                  obtain ⟨v12, ev, hf⟩ := m_bndE hf
                  refine m_top ev ?_
                  clear ev
                  obtain ⟨cd, hf⟩ := m_chkE hf
                  refine m_cald X hM 2 1 2000 rfl cd dX12_resultHere_127 ?_
                  clear cd
                  obtain ⟨v13, ev, hf⟩ := m_bndE hf
                  refine m_top ev ?_
                  clear ev
                  refine lv_bipush (v := (50 : Int32)) hx hb dX12_resultHere_128 (by decide) ?_
                  refine lv_icmp_ne (tgt := 137) hx hb dX12_resultHere_130 (by decide) (fun cc1 => ?_) (fun cc1 => ?_)
                  · replace hf := m_ifF hf cc1
                    exact w_resultHere_137 X hret hf hM (lv_sub hl [] rfl)
                  · replace hf := m_ifT hf cc1
                    refine lv_iconst (v := (1 : Int32)) hx hb dX12_resultHere_133 (by decide) ?_
                    refine lv_goto (tgt := 138) hx hb dX12_resultHere_134 (by decide) ?_
                    exact w_resultHere_138 X hret hf hM (lv_sub hl [] rfl)
      · replace hf := m_ifF hf cc1
        refine lv_iconst (v := (2 : Int32)) hx hb dX12_resultHere_39 (by decide) ?_
        cases hf
        exact hret H locs _ ls hM rfl dX12_resultHere_40
    · replace hf := m_ifF hf cc1
      refine lv_iconst (v := (1 : Int32)) hx hb dX12_resultHere_24 (by decide) ?_
      cases hf
      exact hret H locs _ ls hM rfl dX12_resultHere_25
  · replace hf := m_ifT hf cc1
    refine lv_iconst (v := (0 : Int32)) hx hb dX12_resultHere_9 (by decide) ?_
    cases hf
    exact hret H locs _ ls hM rfl dX12_resultHere_10
def f_resultHere (I : Nat → Int32) (A : Nat → Nat → Int32) : Option (Int32 × MS) := f_resultHere_0  I A
theorem c_resultHere {l : Launch} {D : va_G} {cy ci : ClassId} {h : Nat → Nat} {I : Nat → Int32} {A : Nat → Nat → Int32} {o : Int32 × MS} (hf : f_resultHere  I A = some o) : mMi l yX12_resultHere wsX12_resultHere ({ frames := 1, cells := 0, slots := 0, locals := 23 } : Room) [.ref (h 0)] D cy ci h I A o :=
  m_entryI (cc := cX12_resultHere) (maxL := 2) (by decide) rfl rfl (Nat.le_of_ble_eq_true rfl) (fun p e s m args below meth c A0 Q H locs ls X hret hM hl => w_resultHere_0 X hret hf hM (lv_sub hl [0] rfl))
theorem hw_addMarkTo : ∀ w ∈ wsX120, w ∈ wsX12_addMarkTo := by decide +kernel
theorem fl_addMarkTo_12 : Cond.fieldLink RX12 33 "MoveTextsModel" "markCount" "[I" ∈ wsX12_addMarkTo := by decide +kernel
theorem fl_addMarkTo_13 : Cond.fieldLink RX12 36 "MoveTextsModel" "marks" "[I" ∈ wsX12_addMarkTo := by decide +kernel
theorem hd_addMarkTo : yX12_addMarkTo.cls = RX12 ∧ yX12_addMarkTo.cls ≠ "java/lang/invoke/MethodHandle" ∧ yX12_addMarkTo.cls ≠ "java/lang/invoke/VarHandle" ∧ (parseMethodDescriptor yX12_addMarkTo.desc).map (fun d => d.parameters.length) = some 3 := by decide +kernel
def f_addMarkTo_0 (x1 : Int32) (x2 : Int32) (x3 : Int32) (I : Nat → Int32) (A : Nat → Nat → Int32) : Option (Int32 × MS) :=
  m_bnd ((301 : Int32) * x1) (fun v1 =>
  m_bnd (v1 + x2) (fun v2 =>
  m_bnd ((4 : Int32) * v2) (fun v3 =>
  m_chk (¬ (v2 < 0 ∨ 602 ≤ (v2).toNatClampNeg)) (
  m_bnd (A 12 (v2).toNatClampNeg) (fun v4 =>
  m_bnd (v3 + v4) (fun v5 =>
  m_chk (¬ (v5 < 0 ∨ 2408 ≤ (v5).toNatClampNeg)) (
  m_bnd (va_up A 13 (upd (A 13) (v5).toNatClampNeg x3)) (fun A6 =>
  m_chk (¬ (v2 < 0 ∨ 602 ≤ (v2).toNatClampNeg)) (
  m_bnd (A6 12 (v2).toNatClampNeg) (fun v7 =>
  m_bnd (v7 + (1 : Int32)) (fun v8 =>
  m_chk (¬ (v2 < 0 ∨ 602 ≤ (v2).toNatClampNeg)) (
  m_bnd (va_up A6 12 (upd (A6 12) (v2).toNatClampNeg v8)) (fun A9 =>
  some (0, (I, A9)))))))))))))))

set_option maxRecDepth 100000 in
set_option maxHeartbeats 4000000 in
theorem w_addMarkTo_0 {p : Program} {l : Launch} {e : Env} {s : State} {m : MethodId} {args : Array Value} {below : List Frame} {meth : Method} {c : Code} {Q : State → Prop} {D : va_G} {cy ci : ClassId} {h : Nat → Nat} {A0 : Nat → Prop} {o : Int32 × MS} (X : CallFix p m c cX12_addMarkTo 5 s args wsX12_addMarkTo RX12) (hret : mRv p l e ({ frames := 0, cells := 0, slots := 0, locals := 0 } : Room) s m args below meth c Q cX12_addMarkTo D cy ci h A0 o) {x1 : Int32} {x2 : Int32} {x3 : Int32} {I : Nat → Int32} {A : Nat → Nat → Int32} {H : Heap} {locs : List Loc} {ls : Array Slot} (hf : f_addMarkTo_0 x1 x2 x3 I A = some o) (hM : mH D cy ci h A0 s H locs I A) (hl : lv_has ls 5 [(0, .ref (h 0)), (1, .int x1), (2, .int x2), (3, .int x3)]) : W p l e ({ frames := 0, cells := 0, slots := 0, locals := 0 } : Room) s m args below meth c H locs 0 0 Q (F0 m 0 ls []) := by
  obtain ⟨hx, hb, hml, hown, hts⟩ := id X
  unfold f_addMarkTo_0 at hf
  refine lv_sipush (v := (301 : Int32)) hx hb dX12_addMarkTo_0 (by decide) ?_
  refine lv_iload_n hx hb dX12_addMarkTo_3 rfl (lv_at hl 1 rfl) ?_
  refine lv_imul hx hb dX12_addMarkTo_4 ?_
  obtain ⟨v1, ev, hf⟩ := m_bndE hf
  refine m_top ev ?_
  clear ev
  refine lv_iload_n hx hb dX12_addMarkTo_5 rfl (lv_at hl 2 rfl) ?_
  refine lv_iadd hx hb dX12_addMarkTo_6 ?_
  obtain ⟨v2, ev, hf⟩ := m_bndE hf
  refine m_top ev ?_
  clear ev
  refine lv_istore (lv' := [(4, .int v2), (0, .ref (h 0)), (1, .int x1), (2, .int x2), (3, .int x3)]) hx hb dX12_addMarkTo_7 hl (by decide) rfl (fun ls hl => ?_)
  refine lv_aload_n hx hb dX12_addMarkTo_9 rfl (lv_at hl 1 rfl) ?_
  refine m_get (v := .ref (h 13)) X hw_addMarkTo hM 13 (by decide) fl_addMarkTo_13 rfl dX12_addMarkTo_10 ?_
  refine lv_iconst (v := (4 : Int32)) hx hb dX12_addMarkTo_13 (by decide) ?_
  refine lv_iload hx hb dX12_addMarkTo_14 (lv_at hl 0 rfl) ?_
  refine lv_imul hx hb dX12_addMarkTo_16 ?_
  obtain ⟨v3, ev, hf⟩ := m_bndE hf
  refine m_top ev ?_
  clear ev
  refine lv_aload_n hx hb dX12_addMarkTo_17 rfl (lv_at hl 1 rfl) ?_
  refine m_get (v := .ref (h 12)) X hw_addMarkTo hM 12 (by decide) fl_addMarkTo_12 rfl dX12_addMarkTo_18 ?_
  refine lv_iload hx hb dX12_addMarkTo_21 (lv_at hl 0 rfl) ?_
  obtain ⟨cd, hf⟩ := m_chkE hf
  refine m_iald X hM 12 8 602 rfl cd dX12_addMarkTo_23 ?_
  clear cd
  obtain ⟨v4, ev, hf⟩ := m_bndE hf
  refine m_top ev ?_
  clear ev
  refine lv_iadd hx hb dX12_addMarkTo_24 ?_
  obtain ⟨v5, ev, hf⟩ := m_bndE hf
  refine m_top ev ?_
  clear ev
  refine lv_iload_n hx hb dX12_addMarkTo_25 rfl (lv_at hl 4 rfl) ?_
  obtain ⟨cd, hf⟩ := m_chkE hf
  refine m_iast X hM 13 9 2408 rfl ma_13 cd dX12_addMarkTo_26 (fun H locs hM => ?_)
  clear cd
  obtain ⟨A6, ev, hf⟩ := m_bndE hf
  replace hM := m_hA hM ev
  clear ev
  refine lv_aload_n hx hb dX12_addMarkTo_27 rfl (lv_at hl 1 rfl) ?_
  refine m_get (v := .ref (h 12)) X hw_addMarkTo hM 12 (by decide) fl_addMarkTo_12 rfl dX12_addMarkTo_28 ?_
  refine lv_iload hx hb dX12_addMarkTo_31 (lv_at hl 0 rfl) ?_
  refine lv_dup2_11 hx hb dX12_addMarkTo_33 rfl rfl ?_
  obtain ⟨cd, hf⟩ := m_chkE hf
  refine m_iald X hM 12 8 602 rfl cd dX12_addMarkTo_34 ?_
  clear cd
  obtain ⟨v7, ev, hf⟩ := m_bndE hf
  refine m_top ev ?_
  clear ev
  refine lv_iconst (v := (1 : Int32)) hx hb dX12_addMarkTo_35 (by decide) ?_
  refine lv_iadd hx hb dX12_addMarkTo_36 ?_
  obtain ⟨v8, ev, hf⟩ := m_bndE hf
  refine m_top ev ?_
  clear ev
  obtain ⟨cd, hf⟩ := m_chkE hf
  refine m_iast X hM 12 8 602 rfl ma_12 cd dX12_addMarkTo_37 (fun H locs hM => ?_)
  clear cd
  obtain ⟨A9, ev, hf⟩ := m_bndE hf
  replace hM := m_hA hM ev
  clear ev
  cases hf
  exact hret H locs _ ls hM dX12_addMarkTo_38
def f_addMarkTo (x1 : Int32) (x2 : Int32) (x3 : Int32) (I : Nat → Int32) (A : Nat → Nat → Int32) : Option (Int32 × MS) := f_addMarkTo_0 x1 x2 x3 I A
theorem c_addMarkTo {l : Launch} {D : va_G} {cy ci : ClassId} {h : Nat → Nat} {x1 : Int32} {x2 : Int32} {x3 : Int32} {I : Nat → Int32} {A : Nat → Nat → Int32} {o : Int32 × MS} (hf : f_addMarkTo x1 x2 x3 I A = some o) : mMv l yX12_addMarkTo wsX12_addMarkTo ({ frames := 0, cells := 0, slots := 0, locals := 0 } : Room) [.ref (h 0), .int x1, .int x2, .int x3] D cy ci h I A o :=
  m_entryV (cc := cX12_addMarkTo) (maxL := 5) (by decide) rfl rfl (Nat.le_of_ble_eq_true rfl) (fun p e s m args below meth c A0 Q H locs ls X hret hM hl => w_addMarkTo_0 X hret hf hM (lv_sub hl [0, 1, 2, 3] rfl))
theorem hw_readMarks : ∀ w ∈ wsX120, w ∈ wsX12_readMarks := by decide +kernel
theorem fl_readMarks_12 : Cond.fieldLink RX12 33 "MoveTextsModel" "markCount" "[I" ∈ wsX12_readMarks := by decide +kernel
theorem fl_readMarks_37 : Cond.fieldLink RX12 267 "MoveTextsModel" "at" "I" ∈ wsX12_readMarks := by decide +kernel
theorem hd_readMarks : yX12_readMarks.cls = RX12 ∧ yX12_readMarks.cls ≠ "java/lang/invoke/MethodHandle" ∧ yX12_readMarks.cls ≠ "java/lang/invoke/VarHandle" ∧ (parseMethodDescriptor yX12_readMarks.desc).map (fun d => d.parameters.length) = some 2 := by decide +kernel
def f_readMarks_236 (I : Nat → Int32) (A : Nat → Nat → Int32) : Option (Int32 × MS) :=
  m_cl (f_fault (1 : Int32) (I 37) I A) (fun r1 Ic1 Ac1 =>
  some (r1, (Ic1, Ac1)))

set_option maxRecDepth 100000 in
set_option maxHeartbeats 4000000 in
theorem w_readMarks_236 {p : Program} {l : Launch} {e : Env} {s : State} {m : MethodId} {args : Array Value} {below : List Frame} {meth : Method} {c : Code} {Q : State → Prop} {D : va_G} {cy ci : ClassId} {h : Nat → Nat} {A0 : Nat → Prop} {o : Int32 × MS} (X : CallFix p m c cX12_readMarks 6 s args wsX12_readMarks RX12) (hret : mRi p l e ({ frames := 1, cells := 0, slots := 0, locals := 24 } : Room) s m args below meth c Q cX12_readMarks D cy ci h A0 .int o) {I : Nat → Int32} {A : Nat → Nat → Int32} {H : Heap} {locs : List Loc} {ls : Array Slot} (hf : f_readMarks_236  I A = some o) (hM : mH D cy ci h A0 s H locs I A) (hl : lv_has ls 6 [(0, .ref (h 0))]) : W p l e ({ frames := 1, cells := 0, slots := 0, locals := 24 } : Room) s m args below meth c H locs 0 0 Q (F0 m 236 ls []) := by
  obtain ⟨hx, hb, hml, hown, hts⟩ := id X
  unfold f_readMarks_236 at hf
  refine lv_iconst (v := (1 : Int32)) hx hb dX12_readMarks_236 (by decide) ?_
  refine lv_aload_n hx hb dX12_readMarks_237 rfl (lv_at hl 0 rfl) ?_
  refine m_get (v := .int (I 37)) X hw_readMarks hM 37 (by decide) fl_readMarks_37 rfl dX12_readMarks_238 ?_
  obtain ⟨o1, ho, hf⟩ := m_clE hf
  refine m_callSi X hM (c_fault ho) gX12_readMarks_X12_fault rfl ⟨rfl, rfl⟩ hd_fault ⟨Nat.le_of_ble_eq_true rfl, Nat.le_of_ble_eq_true rfl⟩ rfl hl.1 rfl (Nat.le_of_ble_eq_true rfl) dX12_readMarks_241 (fun H locs hM => ?_)
  clear ho
  cases hf
  exact hret H locs _ ls hM rfl dX12_readMarks_244
def f_readMarks_269 (x3 : Int32) (I : Nat → Int32) (A : Nat → Nat → Int32) : Option (Int32 × MS) :=
  m_cl (f_fault (8 : Int32) x3 I A) (fun r1 Ic1 Ac1 =>
  some (r1, (Ic1, Ac1)))

set_option maxRecDepth 100000 in
set_option maxHeartbeats 4000000 in
theorem w_readMarks_269 {p : Program} {l : Launch} {e : Env} {s : State} {m : MethodId} {args : Array Value} {below : List Frame} {meth : Method} {c : Code} {Q : State → Prop} {D : va_G} {cy ci : ClassId} {h : Nat → Nat} {A0 : Nat → Prop} {o : Int32 × MS} (X : CallFix p m c cX12_readMarks 6 s args wsX12_readMarks RX12) (hret : mRi p l e ({ frames := 1, cells := 0, slots := 0, locals := 24 } : Room) s m args below meth c Q cX12_readMarks D cy ci h A0 .int o) {x3 : Int32} {I : Nat → Int32} {A : Nat → Nat → Int32} {H : Heap} {locs : List Loc} {ls : Array Slot} (hf : f_readMarks_269 x3 I A = some o) (hM : mH D cy ci h A0 s H locs I A) (hl : lv_has ls 6 [(3, .int x3)]) : W p l e ({ frames := 1, cells := 0, slots := 0, locals := 24 } : Room) s m args below meth c H locs 0 0 Q (F0 m 269 ls []) := by
  obtain ⟨hx, hb, hml, hown, hts⟩ := id X
  unfold f_readMarks_269 at hf
  refine lv_bipush (v := (8 : Int32)) hx hb dX12_readMarks_269 (by decide) ?_
  refine lv_iload_n hx hb dX12_readMarks_271 rfl (lv_at hl 0 rfl) ?_
  obtain ⟨o1, ho, hf⟩ := m_clE hf
  refine m_callSi X hM (c_fault ho) gX12_readMarks_X12_fault rfl ⟨rfl, rfl⟩ hd_fault ⟨Nat.le_of_ble_eq_true rfl, Nat.le_of_ble_eq_true rfl⟩ rfl hl.1 rfl (Nat.le_of_ble_eq_true rfl) dX12_readMarks_272 (fun H locs hM => ?_)
  clear ho
  cases hf
  exact hret H locs _ ls hM rfl dX12_readMarks_275
def f_readMarks_221 (self144 : Int32 → Int32 → (Nat → Int32) → (Nat → Nat → Int32) → Option (Int32 × MS)) (x1 : Int32) (x2 : Int32) (x3 : Int32) (x4 : Int32) (x5 : Int32) (I : Nat → Int32) (A : Nat → Nat → Int32) : Option (Int32 × MS) :=
  m_if (x5 = 0) (
  f_readMarks_236  I A
  ) (
  m_cl (f_look  I A) (fun r1 Ic1 Ac1 =>
  m_cl (f_isDigit r1 Ic1 Ac1) (fun r2 Ic2 Ac2 =>
  m_if (r2 = 0) (
  m_if ((255 : Int32) < x4) (
  f_readMarks_269 x3 Ic2 Ac2
  ) (
  m_bnd ((301 : Int32) * x1) (fun v3 =>
  m_bnd (v3 + x2) (fun v4 =>
  m_chk (¬ (v4 < 0 ∨ 602 ≤ (v4).toNatClampNeg)) (
  m_bnd (Ac2 12 (v4).toNatClampNeg) (fun v5 =>
  m_if (v5 = (4 : Int32)) (
  f_readMarks_269 x3 Ic2 Ac2
  ) (
  m_cl (f_addMarkTo x1 x2 x4 Ic2 Ac2) (fun r6 Ic6 Ac6 =>
  m_cl (f_blanks  Ic6 Ac6) (fun r7 Ic7 Ac7 =>
  self144 x1 x2 Ic7 Ac7))
  )))))
  )
  ) (
  f_readMarks_236  Ic2 Ac2
  )))
  )

set_option maxRecDepth 100000 in
set_option maxHeartbeats 4000000 in
theorem w_readMarks_221 {p : Program} {l : Launch} {e : Env} {s : State} {m : MethodId} {args : Array Value} {below : List Frame} {meth : Method} {c : Code} {Q : State → Prop} {D : va_G} {cy ci : ClassId} {h : Nat → Nat} {A0 : Nat → Prop} {o : Int32 × MS} (X : CallFix p m c cX12_readMarks 6 s args wsX12_readMarks RX12) (hret : mRi p l e ({ frames := 1, cells := 0, slots := 0, locals := 24 } : Room) s m args below meth c Q cX12_readMarks D cy ci h A0 .int o) {self144 : Int32 → Int32 → (Nat → Int32) → (Nat → Nat → Int32) → Option (Int32 × MS)} (hself144 : ∀ (x1 : Int32) (x2 : Int32) (I : Nat → Int32) (A : Nat → Nat → Int32) (H : Heap) (locs : List Loc) (ls : Array Slot), self144 x1 x2 I A = some o → mH D cy ci h A0 s H locs I A → lv_has ls 6 [(0, .ref (h 0)), (1, .int x1), (2, .int x2)] → W p l e ({ frames := 1, cells := 0, slots := 0, locals := 24 } : Room) s m args below meth c H locs 0 0 Q (F0 m 144 ls [])) {x1 : Int32} {x2 : Int32} {x3 : Int32} {x4 : Int32} {x5 : Int32} {I : Nat → Int32} {A : Nat → Nat → Int32} {H : Heap} {locs : List Loc} {ls : Array Slot} (hf : f_readMarks_221 self144 x1 x2 x3 x4 x5 I A = some o) (hM : mH D cy ci h A0 s H locs I A) (hl : lv_has ls 6 [(0, .ref (h 0)), (1, .int x1), (2, .int x2), (3, .int x3), (4, .int x4), (5, .int x5)]) : W p l e ({ frames := 1, cells := 0, slots := 0, locals := 24 } : Room) s m args below meth c H locs 0 0 Q (F0 m 221 ls []) := by
  obtain ⟨hx, hb, hml, hown, hts⟩ := id X
  unfold f_readMarks_221 at hf
  refine lv_iload hx hb dX12_readMarks_221 (lv_at hl 5 rfl) ?_
  refine lv_if_eq (tgt := 236) hx hb dX12_readMarks_223 (by decide) (fun cc1 => ?_) (fun cc1 => ?_)
  · replace hf := m_ifT hf cc1
    exact w_readMarks_236 X hret hf hM (lv_sub hl [0] rfl)
  · replace hf := m_ifF hf cc1
    refine lv_aload_n hx hb dX12_readMarks_226 rfl (lv_at hl 0 rfl) ?_
    obtain ⟨o1, ho, hf⟩ := m_clE hf
    refine m_callVi X hM (c_look ho) gX12_readMarks_X12_look rfl ⟨rfl, rfl⟩ hd_look ⟨Nat.le_of_ble_eq_true rfl, Nat.le_of_ble_eq_true rfl⟩ rfl hl.1 rfl (Nat.le_of_ble_eq_true rfl) dX12_readMarks_227 (fun H locs hM => ?_)
    clear ho
    obtain ⟨o2, ho, hf⟩ := m_clE hf
    refine m_callSi X hM (c_isDigit ho) gX12_readMarks_X12_isDigit rfl ⟨rfl, rfl⟩ hd_isDigit ⟨Nat.le_of_ble_eq_true rfl, Nat.le_of_ble_eq_true rfl⟩ rfl hl.1 rfl (Nat.le_of_ble_eq_true rfl) dX12_readMarks_230 (fun H locs hM => ?_)
    clear ho
    refine lv_if_eq (tgt := 245) hx hb dX12_readMarks_233 (by decide) (fun cc1 => ?_) (fun cc1 => ?_)
    · replace hf := m_ifT hf cc1
      refine lv_iload hx hb dX12_readMarks_245 (lv_at hl 4 rfl) ?_
      refine lv_sipush (v := (255 : Int32)) hx hb dX12_readMarks_247 (by decide) ?_
      refine lv_icmp_gt (tgt := 269) hx hb dX12_readMarks_250 (by decide) (fun cc1 => ?_) (fun cc1 => ?_)
      · replace hf := m_ifT hf cc1
        exact w_readMarks_269 X hret hf hM (lv_sub hl [3] rfl)
      · replace hf := m_ifF hf cc1
        refine lv_aload_n hx hb dX12_readMarks_253 rfl (lv_at hl 0 rfl) ?_
        refine m_get (v := .ref (h 12)) X hw_readMarks hM 12 (by decide) fl_readMarks_12 rfl dX12_readMarks_254 ?_
        refine lv_sipush (v := (301 : Int32)) hx hb dX12_readMarks_257 (by decide) ?_
        refine lv_iload_n hx hb dX12_readMarks_260 rfl (lv_at hl 1 rfl) ?_
        refine lv_imul hx hb dX12_readMarks_261 ?_
        obtain ⟨v3, ev, hf⟩ := m_bndE hf
        refine m_top ev ?_
        clear ev
        refine lv_iload_n hx hb dX12_readMarks_262 rfl (lv_at hl 2 rfl) ?_
        refine lv_iadd hx hb dX12_readMarks_263 ?_
        obtain ⟨v4, ev, hf⟩ := m_bndE hf
        refine m_top ev ?_
        clear ev
        obtain ⟨cd, hf⟩ := m_chkE hf
        refine m_iald X hM 12 8 602 rfl cd dX12_readMarks_264 ?_
        clear cd
        obtain ⟨v5, ev, hf⟩ := m_bndE hf
        refine m_top ev ?_
        clear ev
        refine lv_iconst (v := (4 : Int32)) hx hb dX12_readMarks_265 (by decide) ?_
        refine lv_icmp_ne (tgt := 276) hx hb dX12_readMarks_266 (by decide) (fun cc1 => ?_) (fun cc1 => ?_)
        · replace hf := m_ifF hf cc1
          refine lv_aload_n hx hb dX12_readMarks_276 rfl (lv_at hl 0 rfl) ?_
          refine lv_iload_n hx hb dX12_readMarks_277 rfl (lv_at hl 1 rfl) ?_
          refine lv_iload_n hx hb dX12_readMarks_278 rfl (lv_at hl 2 rfl) ?_
          refine lv_iload hx hb dX12_readMarks_279 (lv_at hl 4 rfl) ?_
          obtain ⟨o6, ho, hf⟩ := m_clE hf
          refine m_callVv X hM (c_addMarkTo ho) gX12_readMarks_X12_addMarkTo rfl ⟨rfl, rfl⟩ hd_addMarkTo ⟨Nat.le_of_ble_eq_true rfl, Nat.le_of_ble_eq_true rfl⟩ rfl hl.1 rfl (Nat.le_of_ble_eq_true rfl) dX12_readMarks_281 (fun H locs hM => ?_)
          clear ho
          refine lv_aload_n hx hb dX12_readMarks_284 rfl (lv_at hl 0 rfl) ?_
          obtain ⟨o7, ho, hf⟩ := m_clE hf
          refine m_callVv X hM (c_blanks ho) gX12_readMarks_X12_blanks rfl ⟨rfl, rfl⟩ hd_blanks ⟨Nat.le_of_ble_eq_true rfl, Nat.le_of_ble_eq_true rfl⟩ rfl hl.1 rfl (Nat.le_of_ble_eq_true rfl) dX12_readMarks_285 (fun H locs hM => ?_)
          clear ho
          refine lv_goto (tgt := 144) hx hb dX12_readMarks_288 (by decide) ?_
          exact hself144 _ _ _ _ _ _ _ hf hM (lv_sub hl [0, 1, 2] rfl)
        · replace hf := m_ifT hf cc1
          exact w_readMarks_269 X hret hf hM (lv_sub hl [3] rfl)
    · replace hf := m_ifF hf cc1
      exact w_readMarks_236 X hret hf hM (lv_sub hl [0] rfl)
def f_readMarks_174s (self144 : Int32 → Int32 → (Nat → Int32) → (Nat → Nat → Int32) → Option (Int32 × MS)) (self174 : Int32 → Int32 → Int32 → Int32 → Int32 → (Nat → Int32) → (Nat → Nat → Int32) → Option (Int32 × MS)) (x1 : Int32) (x2 : Int32) (x3 : Int32) (x4 : Int32) (x5 : Int32) (I : Nat → Int32) (A : Nat → Nat → Int32) : Option (Int32 × MS) :=
  m_cl (f_look  I A) (fun r1 Ic1 Ac1 =>
  m_cl (f_isDigit r1 Ic1 Ac1) (fun r2 Ic2 Ac2 =>
  m_if (r2 = 0) (
  f_readMarks_221 self144 x1 x2 x3 x4 x5 Ic2 Ac2
  ) (
  m_if ((3 : Int32) ≤ x5) (
  f_readMarks_221 self144 x1 x2 x3 x4 x5 Ic2 Ac2
  ) (
  m_bnd ((10 : Int32) * x4) (fun v3 =>
  m_cl (f_look  Ic2 Ac2) (fun r4 Ic4 Ac4 =>
  m_bnd (v3 + r4) (fun v5 =>
  m_bnd (v5 - (48 : Int32)) (fun v6 =>
  m_bnd (x5 + (1 : Int32)) (fun v7 =>
  m_bnd ((Ic4 37) + (1 : Int32)) (fun v8 =>
  m_bnd (upd Ic4 37 v8) (fun I9 =>
  self174 x1 x2 x3 v6 v7 I9 Ac4)))))))
  )
  )))

set_option maxRecDepth 100000 in
set_option maxHeartbeats 4000000 in
theorem ws_readMarks_174 {p : Program} {l : Launch} {e : Env} {s : State} {m : MethodId} {args : Array Value} {below : List Frame} {meth : Method} {c : Code} {Q : State → Prop} {D : va_G} {cy ci : ClassId} {h : Nat → Nat} {A0 : Nat → Prop} {o : Int32 × MS} (X : CallFix p m c cX12_readMarks 6 s args wsX12_readMarks RX12) (hret : mRi p l e ({ frames := 1, cells := 0, slots := 0, locals := 24 } : Room) s m args below meth c Q cX12_readMarks D cy ci h A0 .int o) {self144 : Int32 → Int32 → (Nat → Int32) → (Nat → Nat → Int32) → Option (Int32 × MS)} (hself144 : ∀ (x1 : Int32) (x2 : Int32) (I : Nat → Int32) (A : Nat → Nat → Int32) (H : Heap) (locs : List Loc) (ls : Array Slot), self144 x1 x2 I A = some o → mH D cy ci h A0 s H locs I A → lv_has ls 6 [(0, .ref (h 0)), (1, .int x1), (2, .int x2)] → W p l e ({ frames := 1, cells := 0, slots := 0, locals := 24 } : Room) s m args below meth c H locs 0 0 Q (F0 m 144 ls [])) {self174 : Int32 → Int32 → Int32 → Int32 → Int32 → (Nat → Int32) → (Nat → Nat → Int32) → Option (Int32 × MS)} (hself174 : ∀ (x1 : Int32) (x2 : Int32) (x3 : Int32) (x4 : Int32) (x5 : Int32) (I : Nat → Int32) (A : Nat → Nat → Int32) (H : Heap) (locs : List Loc) (ls : Array Slot), self174 x1 x2 x3 x4 x5 I A = some o → mH D cy ci h A0 s H locs I A → lv_has ls 6 [(0, .ref (h 0)), (1, .int x1), (2, .int x2), (3, .int x3), (4, .int x4), (5, .int x5)] → W p l e ({ frames := 1, cells := 0, slots := 0, locals := 24 } : Room) s m args below meth c H locs 0 0 Q (F0 m 174 ls [])) {x1 : Int32} {x2 : Int32} {x3 : Int32} {x4 : Int32} {x5 : Int32} {I : Nat → Int32} {A : Nat → Nat → Int32} {H : Heap} {locs : List Loc} {ls : Array Slot} (hf : f_readMarks_174s self144 self174 x1 x2 x3 x4 x5 I A = some o) (hM : mH D cy ci h A0 s H locs I A) (hl : lv_has ls 6 [(0, .ref (h 0)), (1, .int x1), (2, .int x2), (3, .int x3), (4, .int x4), (5, .int x5)]) : W p l e ({ frames := 1, cells := 0, slots := 0, locals := 24 } : Room) s m args below meth c H locs 0 0 Q (F0 m 174 ls []) := by
  obtain ⟨hx, hb, hml, hown, hts⟩ := id X
  unfold f_readMarks_174s at hf
  refine lv_aload_n hx hb dX12_readMarks_174 rfl (lv_at hl 0 rfl) ?_
  obtain ⟨o1, ho, hf⟩ := m_clE hf
  refine m_callVi X hM (c_look ho) gX12_readMarks_X12_look rfl ⟨rfl, rfl⟩ hd_look ⟨Nat.le_of_ble_eq_true rfl, Nat.le_of_ble_eq_true rfl⟩ rfl hl.1 rfl (Nat.le_of_ble_eq_true rfl) dX12_readMarks_175 (fun H locs hM => ?_)
  clear ho
  obtain ⟨o2, ho, hf⟩ := m_clE hf
  refine m_callSi X hM (c_isDigit ho) gX12_readMarks_X12_isDigit rfl ⟨rfl, rfl⟩ hd_isDigit ⟨Nat.le_of_ble_eq_true rfl, Nat.le_of_ble_eq_true rfl⟩ rfl hl.1 rfl (Nat.le_of_ble_eq_true rfl) dX12_readMarks_178 (fun H locs hM => ?_)
  clear ho
  refine lv_if_eq (tgt := 221) hx hb dX12_readMarks_181 (by decide) (fun cc1 => ?_) (fun cc1 => ?_)
  · replace hf := m_ifT hf cc1
    exact w_readMarks_221 X hret hself144 hf hM (lv_sub hl [0, 1, 2, 3, 4, 5] rfl)
  · replace hf := m_ifF hf cc1
    refine lv_iload hx hb dX12_readMarks_184 (lv_at hl 5 rfl) ?_
    refine lv_iconst (v := (3 : Int32)) hx hb dX12_readMarks_186 (by decide) ?_
    refine lv_icmp_ge (tgt := 221) hx hb dX12_readMarks_187 (by decide) (fun cc1 => ?_) (fun cc1 => ?_)
    · replace hf := m_ifT hf cc1
      exact w_readMarks_221 X hret hself144 hf hM (lv_sub hl [0, 1, 2, 3, 4, 5] rfl)
    · replace hf := m_ifF hf cc1
      refine lv_bipush (v := (10 : Int32)) hx hb dX12_readMarks_190 (by decide) ?_
      refine lv_iload hx hb dX12_readMarks_192 (lv_at hl 4 rfl) ?_
      refine lv_imul hx hb dX12_readMarks_194 ?_
      obtain ⟨v3, ev, hf⟩ := m_bndE hf
      refine m_top ev ?_
      clear ev
      refine lv_aload_n hx hb dX12_readMarks_195 rfl (lv_at hl 0 rfl) ?_
      obtain ⟨o4, ho, hf⟩ := m_clE hf
      refine m_callVi X hM (c_look ho) gX12_readMarks_X12_look rfl ⟨rfl, rfl⟩ hd_look ⟨Nat.le_of_ble_eq_true rfl, Nat.le_of_ble_eq_true rfl⟩ rfl hl.1 rfl (Nat.le_of_ble_eq_true rfl) dX12_readMarks_196 (fun H locs hM => ?_)
      clear ho
      refine lv_iadd hx hb dX12_readMarks_199 ?_
      obtain ⟨v5, ev, hf⟩ := m_bndE hf
      refine m_top ev ?_
      clear ev
      refine lv_bipush (v := (48 : Int32)) hx hb dX12_readMarks_200 (by decide) ?_
      refine lv_isub hx hb dX12_readMarks_202 ?_
      obtain ⟨v6, ev, hf⟩ := m_bndE hf
      refine m_top ev ?_
      clear ev
      refine lv_istore (lv' := [(4, .int v6), (0, .ref (h 0)), (1, .int x1), (2, .int x2), (3, .int x3), (5, .int x5)]) hx hb dX12_readMarks_203 hl (by decide) rfl (fun ls hl => ?_)
      obtain ⟨v7, ev, hf⟩ := m_bndE hf
      refine lv_iinc (v := v7) (lv' := [(5, .int v7), (4, .int v6), (0, .ref (h 0)), (1, .int x1), (2, .int x2), (3, .int x3)]) hx hb dX12_readMarks_205 hl (k := 5) rfl (by rw [ev]; rfl) (by decide) rfl (fun ls hl => ?_)
      clear ev
      refine lv_aload_n hx hb dX12_readMarks_208 rfl (lv_at hl 2 rfl) ?_
      refine lv_dup hx hb dX12_readMarks_209 rfl ?_
      refine m_get (v := .int (o4.2.1 37)) X hw_readMarks hM 37 (by decide) fl_readMarks_37 rfl dX12_readMarks_210 ?_
      refine lv_iconst (v := (1 : Int32)) hx hb dX12_readMarks_213 (by decide) ?_
      refine lv_iadd hx hb dX12_readMarks_214 ?_
      obtain ⟨v8, ev, hf⟩ := m_bndE hf
      refine m_top ev ?_
      clear ev
      refine m_put X hw_readMarks hM 37 (by decide) fl_readMarks_37 mi_37 rfl (tyX12_ok 37 (by decide)) dX12_readMarks_215 (fun H locs hM => ?_)
      obtain ⟨I9, ev, hf⟩ := m_bndE hf
      replace hM := m_hI hM ev
      clear ev
      refine lv_goto (tgt := 174) hx hb dX12_readMarks_218 (by decide) ?_
      exact hself174 _ _ _ _ _ _ _ _ _ _ hf hM (lv_sub hl [2, 3, 4, 5, 1, 0] rfl)
def f_readMarks_174 (self144 : Int32 → Int32 → (Nat → Int32) → (Nat → Nat → Int32) → Option (Int32 × MS)) : Nat → Int32 → Int32 → Int32 → Int32 → Int32 → (Nat → Int32) → (Nat → Nat → Int32) → Option (Int32 × MS)
  | 0 => fun _ _ _ _ _ _ _ => none
  | n + 1 => f_readMarks_174s self144 (f_readMarks_174 self144 n)
theorem w_readMarks_174 {p : Program} {l : Launch} {e : Env} {s : State} {m : MethodId} {args : Array Value} {below : List Frame} {meth : Method} {c : Code} {Q : State → Prop} {D : va_G} {cy ci : ClassId} {h : Nat → Nat} {A0 : Nat → Prop} {o : Int32 × MS} (X : CallFix p m c cX12_readMarks 6 s args wsX12_readMarks RX12) (hret : mRi p l e ({ frames := 1, cells := 0, slots := 0, locals := 24 } : Room) s m args below meth c Q cX12_readMarks D cy ci h A0 .int o) {self144 : Int32 → Int32 → (Nat → Int32) → (Nat → Nat → Int32) → Option (Int32 × MS)} (hself144 : ∀ (x1 : Int32) (x2 : Int32) (I : Nat → Int32) (A : Nat → Nat → Int32) (H : Heap) (locs : List Loc) (ls : Array Slot), self144 x1 x2 I A = some o → mH D cy ci h A0 s H locs I A → lv_has ls 6 [(0, .ref (h 0)), (1, .int x1), (2, .int x2)] → W p l e ({ frames := 1, cells := 0, slots := 0, locals := 24 } : Room) s m args below meth c H locs 0 0 Q (F0 m 144 ls [])) (n : Nat) : ∀ (x1 : Int32) (x2 : Int32) (x3 : Int32) (x4 : Int32) (x5 : Int32) (I : Nat → Int32) (A : Nat → Nat → Int32) (H : Heap) (locs : List Loc) (ls : Array Slot), f_readMarks_174 self144 n x1 x2 x3 x4 x5 I A = some o → mH D cy ci h A0 s H locs I A → lv_has ls 6 [(0, .ref (h 0)), (1, .int x1), (2, .int x2), (3, .int x3), (4, .int x4), (5, .int x5)] → W p l e ({ frames := 1, cells := 0, slots := 0, locals := 24 } : Room) s m args below meth c H locs 0 0 Q (F0 m 174 ls []) := by
  induction n with
  | zero => intro x1 x2 x3 x4 x5 I A H locs ls hf; cases hf
  | succ n ih => intro x1 x2 x3 x4 x5 I A H locs ls hf hM hl; exact ws_readMarks_174 X hret hself144 (self174 := f_readMarks_174 self144 n) ih hf hM hl
def f_readMarks_144s (self144 : Int32 → Int32 → (Nat → Int32) → (Nat → Nat → Int32) → Option (Int32 × MS)) (x1 : Int32) (x2 : Int32) (I : Nat → Int32) (A : Nat → Nat → Int32) : Option (Int32 × MS) :=
  m_cl (f_look  I A) (fun r1 Ic1 Ac1 =>
  m_if (r1 = (36 : Int32)) (
  m_bnd ((Ic1 37) + (1 : Int32)) (fun v2 =>
  m_bnd (upd Ic1 37 v2) (fun I3 =>
  f_readMarks_174 self144 mFuel x1 x2 (Ic1 37) (0 : Int32) (0 : Int32) I3 Ac1))
  ) (
  some ((0 : Int32), (Ic1, Ac1))
  ))

set_option maxRecDepth 100000 in
set_option maxHeartbeats 4000000 in
theorem ws_readMarks_144 {p : Program} {l : Launch} {e : Env} {s : State} {m : MethodId} {args : Array Value} {below : List Frame} {meth : Method} {c : Code} {Q : State → Prop} {D : va_G} {cy ci : ClassId} {h : Nat → Nat} {A0 : Nat → Prop} {o : Int32 × MS} (X : CallFix p m c cX12_readMarks 6 s args wsX12_readMarks RX12) (hret : mRi p l e ({ frames := 1, cells := 0, slots := 0, locals := 24 } : Room) s m args below meth c Q cX12_readMarks D cy ci h A0 .int o) {self144 : Int32 → Int32 → (Nat → Int32) → (Nat → Nat → Int32) → Option (Int32 × MS)} (hself144 : ∀ (x1 : Int32) (x2 : Int32) (I : Nat → Int32) (A : Nat → Nat → Int32) (H : Heap) (locs : List Loc) (ls : Array Slot), self144 x1 x2 I A = some o → mH D cy ci h A0 s H locs I A → lv_has ls 6 [(0, .ref (h 0)), (1, .int x1), (2, .int x2)] → W p l e ({ frames := 1, cells := 0, slots := 0, locals := 24 } : Room) s m args below meth c H locs 0 0 Q (F0 m 144 ls [])) {x1 : Int32} {x2 : Int32} {I : Nat → Int32} {A : Nat → Nat → Int32} {H : Heap} {locs : List Loc} {ls : Array Slot} (hf : f_readMarks_144s self144 x1 x2 I A = some o) (hM : mH D cy ci h A0 s H locs I A) (hl : lv_has ls 6 [(0, .ref (h 0)), (1, .int x1), (2, .int x2)]) : W p l e ({ frames := 1, cells := 0, slots := 0, locals := 24 } : Room) s m args below meth c H locs 0 0 Q (F0 m 144 ls []) := by
  obtain ⟨hx, hb, hml, hown, hts⟩ := id X
  unfold f_readMarks_144s at hf
  refine lv_aload_n hx hb dX12_readMarks_144 rfl (lv_at hl 0 rfl) ?_
  obtain ⟨o1, ho, hf⟩ := m_clE hf
  refine m_callVi X hM (c_look ho) gX12_readMarks_X12_look rfl ⟨rfl, rfl⟩ hd_look ⟨Nat.le_of_ble_eq_true rfl, Nat.le_of_ble_eq_true rfl⟩ rfl hl.1 rfl (Nat.le_of_ble_eq_true rfl) dX12_readMarks_145 (fun H locs hM => ?_)
  clear ho
  refine lv_bipush (v := (36 : Int32)) hx hb dX12_readMarks_148 (by decide) ?_
  refine lv_icmp_ne (tgt := 291) hx hb dX12_readMarks_150 (by decide) (fun cc1 => ?_) (fun cc1 => ?_)
  · replace hf := m_ifF hf cc1
    refine lv_iconst (v := (0 : Int32)) hx hb dX12_readMarks_291 (by decide) ?_
    cases hf
    exact hret H locs _ ls hM rfl dX12_readMarks_292
  · replace hf := m_ifT hf cc1
    refine lv_aload_n hx hb dX12_readMarks_153 rfl (lv_at hl 0 rfl) ?_
    refine m_get (v := .int (o1.2.1 37)) X hw_readMarks hM 37 (by decide) fl_readMarks_37 rfl dX12_readMarks_154 ?_
    refine lv_istore_n (lv' := [(3, .int (o1.2.1 37)), (0, .ref (h 0)), (1, .int x1), (2, .int x2)]) hx hb dX12_readMarks_157 rfl hl (by decide) rfl (fun ls hl => ?_)
    refine lv_aload_n hx hb dX12_readMarks_158 rfl (lv_at hl 1 rfl) ?_
    refine lv_dup hx hb dX12_readMarks_159 rfl ?_
    refine m_get (v := .int (o1.2.1 37)) X hw_readMarks hM 37 (by decide) fl_readMarks_37 rfl dX12_readMarks_160 ?_
    refine lv_iconst (v := (1 : Int32)) hx hb dX12_readMarks_163 (by decide) ?_
    refine lv_iadd hx hb dX12_readMarks_164 ?_
    obtain ⟨v2, ev, hf⟩ := m_bndE hf
    refine m_top ev ?_
    clear ev
    refine m_put X hw_readMarks hM 37 (by decide) fl_readMarks_37 mi_37 rfl (tyX12_ok 37 (by decide)) dX12_readMarks_165 (fun H locs hM => ?_)
    obtain ⟨I3, ev, hf⟩ := m_bndE hf
    replace hM := m_hI hM ev
    clear ev
    refine lv_iconst (v := (0 : Int32)) hx hb dX12_readMarks_168 (by decide) ?_
    refine lv_istore (lv' := [(4, .int (0 : Int32)), (3, .int (o1.2.1 37)), (0, .ref (h 0)), (1, .int x1), (2, .int x2)]) hx hb dX12_readMarks_169 hl (by decide) rfl (fun ls hl => ?_)
    refine lv_iconst (v := (0 : Int32)) hx hb dX12_readMarks_171 (by decide) ?_
    refine lv_istore (lv' := [(5, .int (0 : Int32)), (4, .int (0 : Int32)), (3, .int (o1.2.1 37)), (0, .ref (h 0)), (1, .int x1), (2, .int x2)]) hx hb dX12_readMarks_172 hl (by decide) rfl (fun ls hl => ?_)
    exact w_readMarks_174 X hret hself144 _ _ _ _ _ _ _ _ _ _ _ hf hM (lv_sub hl [3, 4, 5, 2, 1, 0] rfl)
def f_readMarks_144 : Nat → Int32 → Int32 → (Nat → Int32) → (Nat → Nat → Int32) → Option (Int32 × MS)
  | 0 => fun _ _ _ _ => none
  | n + 1 => f_readMarks_144s (f_readMarks_144 n)
theorem w_readMarks_144 {p : Program} {l : Launch} {e : Env} {s : State} {m : MethodId} {args : Array Value} {below : List Frame} {meth : Method} {c : Code} {Q : State → Prop} {D : va_G} {cy ci : ClassId} {h : Nat → Nat} {A0 : Nat → Prop} {o : Int32 × MS} (X : CallFix p m c cX12_readMarks 6 s args wsX12_readMarks RX12) (hret : mRi p l e ({ frames := 1, cells := 0, slots := 0, locals := 24 } : Room) s m args below meth c Q cX12_readMarks D cy ci h A0 .int o) (n : Nat) : ∀ (x1 : Int32) (x2 : Int32) (I : Nat → Int32) (A : Nat → Nat → Int32) (H : Heap) (locs : List Loc) (ls : Array Slot), f_readMarks_144 n x1 x2 I A = some o → mH D cy ci h A0 s H locs I A → lv_has ls 6 [(0, .ref (h 0)), (1, .int x1), (2, .int x2)] → W p l e ({ frames := 1, cells := 0, slots := 0, locals := 24 } : Room) s m args below meth c H locs 0 0 Q (F0 m 144 ls []) := by
  induction n with
  | zero => intro x1 x2 I A H locs ls hf; cases hf
  | succ n ih => intro x1 x2 I A H locs ls hf hM hl; exact ws_readMarks_144 X hret (self144 := f_readMarks_144 n) ih hf hM hl
def f_readMarks_132 (x1 : Int32) (x2 : Int32) (x4 : Int32) (I : Nat → Int32) (A : Nat → Nat → Int32) : Option (Int32 × MS) :=
  m_cl (f_addMarkTo x1 x2 x4 I A) (fun r1 Ic1 Ac1 =>
  m_cl (f_blanks  Ic1 Ac1) (fun r2 Ic2 Ac2 =>
  f_readMarks_144 mFuel x1 x2 Ic2 Ac2))

set_option maxRecDepth 100000 in
set_option maxHeartbeats 4000000 in
theorem w_readMarks_132 {p : Program} {l : Launch} {e : Env} {s : State} {m : MethodId} {args : Array Value} {below : List Frame} {meth : Method} {c : Code} {Q : State → Prop} {D : va_G} {cy ci : ClassId} {h : Nat → Nat} {A0 : Nat → Prop} {o : Int32 × MS} (X : CallFix p m c cX12_readMarks 6 s args wsX12_readMarks RX12) (hret : mRi p l e ({ frames := 1, cells := 0, slots := 0, locals := 24 } : Room) s m args below meth c Q cX12_readMarks D cy ci h A0 .int o) {x1 : Int32} {x2 : Int32} {x4 : Int32} {I : Nat → Int32} {A : Nat → Nat → Int32} {H : Heap} {locs : List Loc} {ls : Array Slot} (hf : f_readMarks_132 x1 x2 x4 I A = some o) (hM : mH D cy ci h A0 s H locs I A) (hl : lv_has ls 6 [(0, .ref (h 0)), (1, .int x1), (2, .int x2), (4, .int x4)]) : W p l e ({ frames := 1, cells := 0, slots := 0, locals := 24 } : Room) s m args below meth c H locs 0 0 Q (F0 m 132 ls []) := by
  obtain ⟨hx, hb, hml, hown, hts⟩ := id X
  unfold f_readMarks_132 at hf
  refine lv_aload_n hx hb dX12_readMarks_132 rfl (lv_at hl 0 rfl) ?_
  refine lv_iload_n hx hb dX12_readMarks_133 rfl (lv_at hl 1 rfl) ?_
  refine lv_iload_n hx hb dX12_readMarks_134 rfl (lv_at hl 2 rfl) ?_
  refine lv_iload hx hb dX12_readMarks_135 (lv_at hl 3 rfl) ?_
  obtain ⟨o1, ho, hf⟩ := m_clE hf
  refine m_callVv X hM (c_addMarkTo ho) gX12_readMarks_X12_addMarkTo rfl ⟨rfl, rfl⟩ hd_addMarkTo ⟨Nat.le_of_ble_eq_true rfl, Nat.le_of_ble_eq_true rfl⟩ rfl hl.1 rfl (Nat.le_of_ble_eq_true rfl) dX12_readMarks_137 (fun H locs hM => ?_)
  clear ho
  refine lv_aload_n hx hb dX12_readMarks_140 rfl (lv_at hl 0 rfl) ?_
  obtain ⟨o2, ho, hf⟩ := m_clE hf
  refine m_callVv X hM (c_blanks ho) gX12_readMarks_X12_blanks rfl ⟨rfl, rfl⟩ hd_blanks ⟨Nat.le_of_ble_eq_true rfl, Nat.le_of_ble_eq_true rfl⟩ rfl hl.1 rfl (Nat.le_of_ble_eq_true rfl) dX12_readMarks_141 (fun H locs hM => ?_)
  clear ho
  exact w_readMarks_144 X hret _ _ _ _ _ _ _ _ hf hM (lv_sub hl [0, 1, 2] rfl)
def f_readMarks_120 (x1 : Int32) (x2 : Int32) (t0 : Int32) (I : Nat → Int32) (A : Nat → Nat → Int32) : Option (Int32 × MS) :=
  m_bnd ((I 37) + (1 : Int32)) (fun v1 =>
  m_bnd (upd I 37 v1) (fun I2 =>
  f_readMarks_132 x1 x2 t0 I2 A))

set_option maxRecDepth 100000 in
set_option maxHeartbeats 4000000 in
theorem w_readMarks_120 {p : Program} {l : Launch} {e : Env} {s : State} {m : MethodId} {args : Array Value} {below : List Frame} {meth : Method} {c : Code} {Q : State → Prop} {D : va_G} {cy ci : ClassId} {h : Nat → Nat} {A0 : Nat → Prop} {o : Int32 × MS} (X : CallFix p m c cX12_readMarks 6 s args wsX12_readMarks RX12) (hret : mRi p l e ({ frames := 1, cells := 0, slots := 0, locals := 24 } : Room) s m args below meth c Q cX12_readMarks D cy ci h A0 .int o) {x1 : Int32} {x2 : Int32} {t0 : Int32} {I : Nat → Int32} {A : Nat → Nat → Int32} {H : Heap} {locs : List Loc} {ls : Array Slot} (hf : f_readMarks_120 x1 x2 t0 I A = some o) (hM : mH D cy ci h A0 s H locs I A) (hl : lv_has ls 6 [(0, .ref (h 0)), (1, .int x1), (2, .int x2)]) : W p l e ({ frames := 1, cells := 0, slots := 0, locals := 24 } : Room) s m args below meth c H locs 0 0 Q (F0 m 120 ls [.int t0]) := by
  obtain ⟨hx, hb, hml, hown, hts⟩ := id X
  unfold f_readMarks_120 at hf
  refine lv_istore (lv' := [(4, .int t0), (0, .ref (h 0)), (1, .int x1), (2, .int x2)]) hx hb dX12_readMarks_120 hl (by decide) rfl (fun ls hl => ?_)
  refine lv_aload_n hx hb dX12_readMarks_122 rfl (lv_at hl 1 rfl) ?_
  refine lv_dup hx hb dX12_readMarks_123 rfl ?_
  refine m_get (v := .int (I 37)) X hw_readMarks hM 37 (by decide) fl_readMarks_37 rfl dX12_readMarks_124 ?_
  refine lv_iconst (v := (1 : Int32)) hx hb dX12_readMarks_127 (by decide) ?_
  refine lv_iadd hx hb dX12_readMarks_128 ?_
  obtain ⟨v1, ev, hf⟩ := m_bndE hf
  refine m_top ev ?_
  clear ev
  refine m_put X hw_readMarks hM 37 (by decide) fl_readMarks_37 mi_37 rfl (tyX12_ok 37 (by decide)) dX12_readMarks_129 (fun H locs hM => ?_)
  obtain ⟨I2, ev, hf⟩ := m_bndE hf
  replace hM := m_hI hM ev
  clear ev
  exact w_readMarks_132 X hret hf hM (lv_sub hl [1, 2, 3, 0] rfl)
def f_readMarks_90 (x1 : Int32) (x2 : Int32) (x3 : Int32) (t0 : Int32) (I : Nat → Int32) (A : Nat → Nat → Int32) : Option (Int32 × MS) :=
  m_if (x3 = 0) (
  m_if (t0 = 0) (
  f_readMarks_120 x1 x2 (4 : Int32) I A
  ) (
  f_readMarks_120 x1 x2 (6 : Int32) I A
  )
  ) (
  m_if (t0 = 0) (
  f_readMarks_120 x1 x2 (5 : Int32) I A
  ) (
  f_readMarks_120 x1 x2 (3 : Int32) I A
  )
  )

set_option maxRecDepth 100000 in
set_option maxHeartbeats 4000000 in
theorem w_readMarks_90 {p : Program} {l : Launch} {e : Env} {s : State} {m : MethodId} {args : Array Value} {below : List Frame} {meth : Method} {c : Code} {Q : State → Prop} {D : va_G} {cy ci : ClassId} {h : Nat → Nat} {A0 : Nat → Prop} {o : Int32 × MS} (X : CallFix p m c cX12_readMarks 6 s args wsX12_readMarks RX12) (hret : mRi p l e ({ frames := 1, cells := 0, slots := 0, locals := 24 } : Room) s m args below meth c Q cX12_readMarks D cy ci h A0 .int o) {x1 : Int32} {x2 : Int32} {x3 : Int32} {t0 : Int32} {I : Nat → Int32} {A : Nat → Nat → Int32} {H : Heap} {locs : List Loc} {ls : Array Slot} (hf : f_readMarks_90 x1 x2 x3 t0 I A = some o) (hM : mH D cy ci h A0 s H locs I A) (hl : lv_has ls 6 [(0, .ref (h 0)), (1, .int x1), (2, .int x2), (3, .int x3)]) : W p l e ({ frames := 1, cells := 0, slots := 0, locals := 24 } : Room) s m args below meth c H locs 0 0 Q (F0 m 90 ls [.int t0]) := by
  obtain ⟨hx, hb, hml, hown, hts⟩ := id X
  unfold f_readMarks_90 at hf
  refine lv_istore (lv' := [(5, .int t0), (0, .ref (h 0)), (1, .int x1), (2, .int x2), (3, .int x3)]) hx hb dX12_readMarks_90 hl (by decide) rfl (fun ls hl => ?_)
  refine lv_iload_n hx hb dX12_readMarks_92 rfl (lv_at hl 4 rfl) ?_
  refine lv_if_eq (tgt := 109) hx hb dX12_readMarks_93 (by decide) (fun cc1 => ?_) (fun cc1 => ?_)
  · replace hf := m_ifT hf cc1
    refine lv_iload hx hb dX12_readMarks_109 (lv_at hl 0 rfl) ?_
    refine lv_if_eq (tgt := 119) hx hb dX12_readMarks_111 (by decide) (fun cc1 => ?_) (fun cc1 => ?_)
    · replace hf := m_ifT hf cc1
      refine lv_iconst (v := (4 : Int32)) hx hb dX12_readMarks_119 (by decide) ?_
      exact w_readMarks_120 X hret hf hM (lv_sub hl [1, 2, 3] rfl)
    · replace hf := m_ifF hf cc1
      refine lv_bipush (v := (6 : Int32)) hx hb dX12_readMarks_114 (by decide) ?_
      refine lv_goto (tgt := 120) hx hb dX12_readMarks_116 (by decide) ?_
      exact w_readMarks_120 X hret hf hM (lv_sub hl [1, 2, 3] rfl)
  · replace hf := m_ifF hf cc1
    refine lv_iload hx hb dX12_readMarks_96 (lv_at hl 0 rfl) ?_
    refine lv_if_eq (tgt := 105) hx hb dX12_readMarks_98 (by decide) (fun cc1 => ?_) (fun cc1 => ?_)
    · replace hf := m_ifT hf cc1
      refine lv_iconst (v := (5 : Int32)) hx hb dX12_readMarks_105 (by decide) ?_
      refine lv_goto (tgt := 120) hx hb dX12_readMarks_106 (by decide) ?_
      exact w_readMarks_120 X hret hf hM (lv_sub hl [1, 2, 3] rfl)
    · replace hf := m_ifF hf cc1
      refine lv_iconst (v := (3 : Int32)) hx hb dX12_readMarks_101 (by decide) ?_
      refine lv_goto (tgt := 120) hx hb dX12_readMarks_102 (by decide) ?_
      exact w_readMarks_120 X hret hf hM (lv_sub hl [1, 2, 3] rfl)
def f_readMarks_76 (x1 : Int32) (x2 : Int32) (x3 : Int32) (I : Nat → Int32) (A : Nat → Nat → Int32) : Option (Int32 × MS) :=
  m_cl (f_look  I A) (fun r1 Ic1 Ac1 =>
  m_if (r1 = (33 : Int32)) (
  f_readMarks_90 x1 x2 x3 (1 : Int32) Ic1 Ac1
  ) (
  f_readMarks_90 x1 x2 x3 (0 : Int32) Ic1 Ac1
  ))

set_option maxRecDepth 100000 in
set_option maxHeartbeats 4000000 in
theorem w_readMarks_76 {p : Program} {l : Launch} {e : Env} {s : State} {m : MethodId} {args : Array Value} {below : List Frame} {meth : Method} {c : Code} {Q : State → Prop} {D : va_G} {cy ci : ClassId} {h : Nat → Nat} {A0 : Nat → Prop} {o : Int32 × MS} (X : CallFix p m c cX12_readMarks 6 s args wsX12_readMarks RX12) (hret : mRi p l e ({ frames := 1, cells := 0, slots := 0, locals := 24 } : Room) s m args below meth c Q cX12_readMarks D cy ci h A0 .int o) {x1 : Int32} {x2 : Int32} {x3 : Int32} {I : Nat → Int32} {A : Nat → Nat → Int32} {H : Heap} {locs : List Loc} {ls : Array Slot} (hf : f_readMarks_76 x1 x2 x3 I A = some o) (hM : mH D cy ci h A0 s H locs I A) (hl : lv_has ls 6 [(0, .ref (h 0)), (1, .int x1), (2, .int x2), (3, .int x3)]) : W p l e ({ frames := 1, cells := 0, slots := 0, locals := 24 } : Room) s m args below meth c H locs 0 0 Q (F0 m 76 ls []) := by
  obtain ⟨hx, hb, hml, hown, hts⟩ := id X
  unfold f_readMarks_76 at hf
  refine lv_aload_n hx hb dX12_readMarks_76 rfl (lv_at hl 0 rfl) ?_
  obtain ⟨o1, ho, hf⟩ := m_clE hf
  refine m_callVi X hM (c_look ho) gX12_readMarks_X12_look rfl ⟨rfl, rfl⟩ hd_look ⟨Nat.le_of_ble_eq_true rfl, Nat.le_of_ble_eq_true rfl⟩ rfl hl.1 rfl (Nat.le_of_ble_eq_true rfl) dX12_readMarks_77 (fun H locs hM => ?_)
  clear ho
  refine lv_bipush (v := (33 : Int32)) hx hb dX12_readMarks_80 (by decide) ?_
  refine lv_icmp_ne (tgt := 89) hx hb dX12_readMarks_82 (by decide) (fun cc1 => ?_) (fun cc1 => ?_)
  · replace hf := m_ifF hf cc1
    refine lv_iconst (v := (0 : Int32)) hx hb dX12_readMarks_89 (by decide) ?_
    exact w_readMarks_90 X hret hf hM (lv_sub hl [0, 1, 2, 3] rfl)
  · replace hf := m_ifT hf cc1
    refine lv_iconst (v := (1 : Int32)) hx hb dX12_readMarks_85 (by decide) ?_
    refine lv_goto (tgt := 90) hx hb dX12_readMarks_86 (by decide) ?_
    exact w_readMarks_90 X hret hf hM (lv_sub hl [0, 1, 2, 3] rfl)
def f_readMarks_56 (x1 : Int32) (x2 : Int32) (x3 : Int32) (t0 : Int32) (I : Nat → Int32) (A : Nat → Nat → Int32) : Option (Int32 × MS) :=
  m_cl (f_look  I A) (fun r1 Ic1 Ac1 =>
  m_if (r1 = (33 : Int32)) (
  f_readMarks_76 x1 x2 x3 Ic1 Ac1
  ) (
  m_cl (f_look  Ic1 Ac1) (fun r2 Ic2 Ac2 =>
  m_if (r2 = (63 : Int32)) (
  f_readMarks_76 x1 x2 x3 Ic2 Ac2
  ) (
  f_readMarks_132 x1 x2 t0 Ic2 Ac2
  ))
  ))

set_option maxRecDepth 100000 in
set_option maxHeartbeats 4000000 in
theorem w_readMarks_56 {p : Program} {l : Launch} {e : Env} {s : State} {m : MethodId} {args : Array Value} {below : List Frame} {meth : Method} {c : Code} {Q : State → Prop} {D : va_G} {cy ci : ClassId} {h : Nat → Nat} {A0 : Nat → Prop} {o : Int32 × MS} (X : CallFix p m c cX12_readMarks 6 s args wsX12_readMarks RX12) (hret : mRi p l e ({ frames := 1, cells := 0, slots := 0, locals := 24 } : Room) s m args below meth c Q cX12_readMarks D cy ci h A0 .int o) {x1 : Int32} {x2 : Int32} {x3 : Int32} {t0 : Int32} {I : Nat → Int32} {A : Nat → Nat → Int32} {H : Heap} {locs : List Loc} {ls : Array Slot} (hf : f_readMarks_56 x1 x2 x3 t0 I A = some o) (hM : mH D cy ci h A0 s H locs I A) (hl : lv_has ls 6 [(0, .ref (h 0)), (1, .int x1), (2, .int x2), (3, .int x3)]) : W p l e ({ frames := 1, cells := 0, slots := 0, locals := 24 } : Room) s m args below meth c H locs 0 0 Q (F0 m 56 ls [.int t0]) := by
  obtain ⟨hx, hb, hml, hown, hts⟩ := id X
  unfold f_readMarks_56 at hf
  refine lv_istore (lv' := [(4, .int t0), (0, .ref (h 0)), (1, .int x1), (2, .int x2), (3, .int x3)]) hx hb dX12_readMarks_56 hl (by decide) rfl (fun ls hl => ?_)
  refine lv_aload_n hx hb dX12_readMarks_58 rfl (lv_at hl 1 rfl) ?_
  obtain ⟨o1, ho, hf⟩ := m_clE hf
  refine m_callVi X hM (c_look ho) gX12_readMarks_X12_look rfl ⟨rfl, rfl⟩ hd_look ⟨Nat.le_of_ble_eq_true rfl, Nat.le_of_ble_eq_true rfl⟩ rfl hl.1 rfl (Nat.le_of_ble_eq_true rfl) dX12_readMarks_59 (fun H locs hM => ?_)
  clear ho
  refine lv_bipush (v := (33 : Int32)) hx hb dX12_readMarks_62 (by decide) ?_
  refine lv_icmp_eq (tgt := 76) hx hb dX12_readMarks_64 (by decide) (fun cc1 => ?_) (fun cc1 => ?_)
  · replace hf := m_ifT hf cc1
    exact w_readMarks_76 X hret hf hM (lv_sub hl [1, 2, 3, 4] rfl)
  · replace hf := m_ifF hf cc1
    refine lv_aload_n hx hb dX12_readMarks_67 rfl (lv_at hl 1 rfl) ?_
    obtain ⟨o2, ho, hf⟩ := m_clE hf
    refine m_callVi X hM (c_look ho) gX12_readMarks_X12_look rfl ⟨rfl, rfl⟩ hd_look ⟨Nat.le_of_ble_eq_true rfl, Nat.le_of_ble_eq_true rfl⟩ rfl hl.1 rfl (Nat.le_of_ble_eq_true rfl) dX12_readMarks_68 (fun H locs hM => ?_)
    clear ho
    refine lv_bipush (v := (63 : Int32)) hx hb dX12_readMarks_71 (by decide) ?_
    refine lv_icmp_ne (tgt := 132) hx hb dX12_readMarks_73 (by decide) (fun cc1 => ?_) (fun cc1 => ?_)
    · replace hf := m_ifF hf cc1
      exact w_readMarks_132 X hret hf hM (lv_sub hl [1, 2, 3, 0] rfl)
    · replace hf := m_ifT hf cc1
      exact w_readMarks_76 X hret hf hM (lv_sub hl [1, 2, 3, 4] rfl)
def f_readMarks_36 (x1 : Int32) (x2 : Int32) (t0 : Int32) (I : Nat → Int32) (A : Nat → Nat → Int32) : Option (Int32 × MS) :=
  m_bnd ((I 37) + (1 : Int32)) (fun v1 =>
  m_bnd (upd I 37 v1) (fun I2 =>
  m_if (t0 = 0) (
  f_readMarks_56 x1 x2 t0 (2 : Int32) I2 A
  ) (
  f_readMarks_56 x1 x2 t0 (1 : Int32) I2 A
  )))

set_option maxRecDepth 100000 in
set_option maxHeartbeats 4000000 in
theorem w_readMarks_36 {p : Program} {l : Launch} {e : Env} {s : State} {m : MethodId} {args : Array Value} {below : List Frame} {meth : Method} {c : Code} {Q : State → Prop} {D : va_G} {cy ci : ClassId} {h : Nat → Nat} {A0 : Nat → Prop} {o : Int32 × MS} (X : CallFix p m c cX12_readMarks 6 s args wsX12_readMarks RX12) (hret : mRi p l e ({ frames := 1, cells := 0, slots := 0, locals := 24 } : Room) s m args below meth c Q cX12_readMarks D cy ci h A0 .int o) {x1 : Int32} {x2 : Int32} {t0 : Int32} {I : Nat → Int32} {A : Nat → Nat → Int32} {H : Heap} {locs : List Loc} {ls : Array Slot} (hf : f_readMarks_36 x1 x2 t0 I A = some o) (hM : mH D cy ci h A0 s H locs I A) (hl : lv_has ls 6 [(0, .ref (h 0)), (1, .int x1), (2, .int x2)]) : W p l e ({ frames := 1, cells := 0, slots := 0, locals := 24 } : Room) s m args below meth c H locs 0 0 Q (F0 m 36 ls [.int t0]) := by
  obtain ⟨hx, hb, hml, hown, hts⟩ := id X
  unfold f_readMarks_36 at hf
  refine lv_istore_n (lv' := [(3, .int t0), (0, .ref (h 0)), (1, .int x1), (2, .int x2)]) hx hb dX12_readMarks_36 rfl hl (by decide) rfl (fun ls hl => ?_)
  refine lv_aload_n hx hb dX12_readMarks_37 rfl (lv_at hl 1 rfl) ?_
  refine lv_dup hx hb dX12_readMarks_38 rfl ?_
  refine m_get (v := .int (I 37)) X hw_readMarks hM 37 (by decide) fl_readMarks_37 rfl dX12_readMarks_39 ?_
  refine lv_iconst (v := (1 : Int32)) hx hb dX12_readMarks_42 (by decide) ?_
  refine lv_iadd hx hb dX12_readMarks_43 ?_
  obtain ⟨v1, ev, hf⟩ := m_bndE hf
  refine m_top ev ?_
  clear ev
  refine m_put X hw_readMarks hM 37 (by decide) fl_readMarks_37 mi_37 rfl (tyX12_ok 37 (by decide)) dX12_readMarks_44 (fun H locs hM => ?_)
  obtain ⟨I2, ev, hf⟩ := m_bndE hf
  replace hM := m_hI hM ev
  clear ev
  refine lv_iload_n hx hb dX12_readMarks_47 rfl (lv_at hl 0 rfl) ?_
  refine lv_if_eq (tgt := 55) hx hb dX12_readMarks_48 (by decide) (fun cc1 => ?_) (fun cc1 => ?_)
  · replace hf := m_ifT hf cc1
    refine lv_iconst (v := (2 : Int32)) hx hb dX12_readMarks_55 (by decide) ?_
    exact w_readMarks_56 X hret hf hM (lv_sub hl [1, 2, 3, 0] rfl)
  · replace hf := m_ifF hf cc1
    refine lv_iconst (v := (1 : Int32)) hx hb dX12_readMarks_51 (by decide) ?_
    refine lv_goto (tgt := 56) hx hb dX12_readMarks_52 (by decide) ?_
    exact w_readMarks_56 X hret hf hM (lv_sub hl [1, 2, 3, 0] rfl)
def f_readMarks_22 (x1 : Int32) (x2 : Int32) (I : Nat → Int32) (A : Nat → Nat → Int32) : Option (Int32 × MS) :=
  m_cl (f_look  I A) (fun r1 Ic1 Ac1 =>
  m_if (r1 = (33 : Int32)) (
  f_readMarks_36 x1 x2 (1 : Int32) Ic1 Ac1
  ) (
  f_readMarks_36 x1 x2 (0 : Int32) Ic1 Ac1
  ))

set_option maxRecDepth 100000 in
set_option maxHeartbeats 4000000 in
theorem w_readMarks_22 {p : Program} {l : Launch} {e : Env} {s : State} {m : MethodId} {args : Array Value} {below : List Frame} {meth : Method} {c : Code} {Q : State → Prop} {D : va_G} {cy ci : ClassId} {h : Nat → Nat} {A0 : Nat → Prop} {o : Int32 × MS} (X : CallFix p m c cX12_readMarks 6 s args wsX12_readMarks RX12) (hret : mRi p l e ({ frames := 1, cells := 0, slots := 0, locals := 24 } : Room) s m args below meth c Q cX12_readMarks D cy ci h A0 .int o) {x1 : Int32} {x2 : Int32} {I : Nat → Int32} {A : Nat → Nat → Int32} {H : Heap} {locs : List Loc} {ls : Array Slot} (hf : f_readMarks_22 x1 x2 I A = some o) (hM : mH D cy ci h A0 s H locs I A) (hl : lv_has ls 6 [(0, .ref (h 0)), (1, .int x1), (2, .int x2)]) : W p l e ({ frames := 1, cells := 0, slots := 0, locals := 24 } : Room) s m args below meth c H locs 0 0 Q (F0 m 22 ls []) := by
  obtain ⟨hx, hb, hml, hown, hts⟩ := id X
  unfold f_readMarks_22 at hf
  refine lv_aload_n hx hb dX12_readMarks_22 rfl (lv_at hl 0 rfl) ?_
  obtain ⟨o1, ho, hf⟩ := m_clE hf
  refine m_callVi X hM (c_look ho) gX12_readMarks_X12_look rfl ⟨rfl, rfl⟩ hd_look ⟨Nat.le_of_ble_eq_true rfl, Nat.le_of_ble_eq_true rfl⟩ rfl hl.1 rfl (Nat.le_of_ble_eq_true rfl) dX12_readMarks_23 (fun H locs hM => ?_)
  clear ho
  refine lv_bipush (v := (33 : Int32)) hx hb dX12_readMarks_26 (by decide) ?_
  refine lv_icmp_ne (tgt := 35) hx hb dX12_readMarks_28 (by decide) (fun cc1 => ?_) (fun cc1 => ?_)
  · replace hf := m_ifF hf cc1
    refine lv_iconst (v := (0 : Int32)) hx hb dX12_readMarks_35 (by decide) ?_
    exact w_readMarks_36 X hret hf hM (lv_sub hl [0, 1, 2] rfl)
  · replace hf := m_ifT hf cc1
    refine lv_iconst (v := (1 : Int32)) hx hb dX12_readMarks_31 (by decide) ?_
    refine lv_goto (tgt := 36) hx hb dX12_readMarks_32 (by decide) ?_
    exact w_readMarks_36 X hret hf hM (lv_sub hl [0, 1, 2] rfl)
def f_readMarks_0 (x1 : Int32) (x2 : Int32) (I : Nat → Int32) (A : Nat → Nat → Int32) : Option (Int32 × MS) :=
  m_cl (f_blanks  I A) (fun r1 Ic1 Ac1 =>
  m_cl (f_look  Ic1 Ac1) (fun r2 Ic2 Ac2 =>
  m_if (r2 = (33 : Int32)) (
  f_readMarks_22 x1 x2 Ic2 Ac2
  ) (
  m_cl (f_look  Ic2 Ac2) (fun r3 Ic3 Ac3 =>
  m_if (r3 = (63 : Int32)) (
  f_readMarks_22 x1 x2 Ic3 Ac3
  ) (
  f_readMarks_144 mFuel x1 x2 Ic3 Ac3
  ))
  )))

set_option maxRecDepth 100000 in
set_option maxHeartbeats 4000000 in
theorem w_readMarks_0 {p : Program} {l : Launch} {e : Env} {s : State} {m : MethodId} {args : Array Value} {below : List Frame} {meth : Method} {c : Code} {Q : State → Prop} {D : va_G} {cy ci : ClassId} {h : Nat → Nat} {A0 : Nat → Prop} {o : Int32 × MS} (X : CallFix p m c cX12_readMarks 6 s args wsX12_readMarks RX12) (hret : mRi p l e ({ frames := 1, cells := 0, slots := 0, locals := 24 } : Room) s m args below meth c Q cX12_readMarks D cy ci h A0 .int o) {x1 : Int32} {x2 : Int32} {I : Nat → Int32} {A : Nat → Nat → Int32} {H : Heap} {locs : List Loc} {ls : Array Slot} (hf : f_readMarks_0 x1 x2 I A = some o) (hM : mH D cy ci h A0 s H locs I A) (hl : lv_has ls 6 [(0, .ref (h 0)), (1, .int x1), (2, .int x2)]) : W p l e ({ frames := 1, cells := 0, slots := 0, locals := 24 } : Room) s m args below meth c H locs 0 0 Q (F0 m 0 ls []) := by
  obtain ⟨hx, hb, hml, hown, hts⟩ := id X
  unfold f_readMarks_0 at hf
  refine lv_aload_n hx hb dX12_readMarks_0 rfl (lv_at hl 0 rfl) ?_
  obtain ⟨o1, ho, hf⟩ := m_clE hf
  refine m_callVv X hM (c_blanks ho) gX12_readMarks_X12_blanks rfl ⟨rfl, rfl⟩ hd_blanks ⟨Nat.le_of_ble_eq_true rfl, Nat.le_of_ble_eq_true rfl⟩ rfl hl.1 rfl (Nat.le_of_ble_eq_true rfl) dX12_readMarks_1 (fun H locs hM => ?_)
  clear ho
  refine lv_aload_n hx hb dX12_readMarks_4 rfl (lv_at hl 0 rfl) ?_
  obtain ⟨o2, ho, hf⟩ := m_clE hf
  refine m_callVi X hM (c_look ho) gX12_readMarks_X12_look rfl ⟨rfl, rfl⟩ hd_look ⟨Nat.le_of_ble_eq_true rfl, Nat.le_of_ble_eq_true rfl⟩ rfl hl.1 rfl (Nat.le_of_ble_eq_true rfl) dX12_readMarks_5 (fun H locs hM => ?_)
  clear ho
  refine lv_bipush (v := (33 : Int32)) hx hb dX12_readMarks_8 (by decide) ?_
  refine lv_icmp_eq (tgt := 22) hx hb dX12_readMarks_10 (by decide) (fun cc1 => ?_) (fun cc1 => ?_)
  · replace hf := m_ifT hf cc1
    exact w_readMarks_22 X hret hf hM (lv_sub hl [0, 1, 2] rfl)
  · replace hf := m_ifF hf cc1
    refine lv_aload_n hx hb dX12_readMarks_13 rfl (lv_at hl 0 rfl) ?_
    obtain ⟨o3, ho, hf⟩ := m_clE hf
    refine m_callVi X hM (c_look ho) gX12_readMarks_X12_look rfl ⟨rfl, rfl⟩ hd_look ⟨Nat.le_of_ble_eq_true rfl, Nat.le_of_ble_eq_true rfl⟩ rfl hl.1 rfl (Nat.le_of_ble_eq_true rfl) dX12_readMarks_14 (fun H locs hM => ?_)
    clear ho
    refine lv_bipush (v := (63 : Int32)) hx hb dX12_readMarks_17 (by decide) ?_
    refine lv_icmp_ne (tgt := 144) hx hb dX12_readMarks_19 (by decide) (fun cc1 => ?_) (fun cc1 => ?_)
    · replace hf := m_ifF hf cc1
      exact w_readMarks_144 X hret _ _ _ _ _ _ _ _ hf hM (lv_sub hl [0, 1, 2] rfl)
    · replace hf := m_ifT hf cc1
      exact w_readMarks_22 X hret hf hM (lv_sub hl [0, 1, 2] rfl)
def f_readMarks (x1 : Int32) (x2 : Int32) (I : Nat → Int32) (A : Nat → Nat → Int32) : Option (Int32 × MS) := f_readMarks_0 x1 x2 I A
theorem c_readMarks {l : Launch} {D : va_G} {cy ci : ClassId} {h : Nat → Nat} {x1 : Int32} {x2 : Int32} {I : Nat → Int32} {A : Nat → Nat → Int32} {o : Int32 × MS} (hf : f_readMarks x1 x2 I A = some o) : mMi l yX12_readMarks wsX12_readMarks ({ frames := 1, cells := 0, slots := 0, locals := 24 } : Room) [.ref (h 0), .int x1, .int x2] D cy ci h I A o :=
  m_entryI (cc := cX12_readMarks) (maxL := 6) (by decide) rfl rfl (Nat.le_of_ble_eq_true rfl) (fun p e s m args below meth c A0 Q H locs ls X hret hM hl => w_readMarks_0 X hret hf hM (lv_sub hl [0, 1, 2] rfl))
